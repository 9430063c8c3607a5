/-! ORDERS ARE CARRIED OUT; the reference's runOrders -/
def zOrd (o : oOrd) (r : Int → Int) : Zr := if o.1 = 0 then zSluice o.2.1 o.2.2 r else if o.1 = 1 then zOpen o.2.1 o.2.2 r else if o.1 = 2 then zClose o.2.1 r else if o.1 = 3 then zEnter o.2.1 o.2.2 r else if o.1 = 4 then zLeave o.2.1 o.2.2 r else if o.1 = 5 then zLoad o.2.1 o.2.2 r else zPump o.2.1 o.2.2 r
def zDoOrd (o : oOrd) (r : Int → Int) : Zr := if o.1 = 0 then zDoSluice o.2.1 o.2.2 r else if o.1 = 1 then zDoOpen o.2.1 o.2.2 r else if o.1 = 2 then zClose o.2.1 r else if o.1 = 3 then zEnter o.2.1 o.2.2 r else if o.1 = 4 then zLeave o.2.1 o.2.2 r else if o.1 = 5 then zLoad o.2.1 o.2.2 r else zPump o.2.1 o.2.2 r
theorem zDoOrd_2 (o : oOrd) (r : Int → Int) : (zDoOrd o r).2 = (zOrd o r).2 := by
  unfold zDoOrd zOrd
  by_cases h0 : o.1 = 0
  · rw [if_pos h0, if_pos h0]
    unfold zDoSluice zSluice
    split
    · split <;> rfl
    · rfl
  rw [if_neg h0, if_neg h0]
  by_cases h1 : o.1 = 1
  · rw [if_pos h1, if_pos h1]
    unfold zDoOpen zOpen
    split
    · split
      · split <;> rfl
      · rfl
    · rfl
  rw [if_neg h1, if_neg h1]
theorem zDoOrd_good {t : Int} {o : oOrd} {r : Int → Int} (hI : rIn t r) : zGood t (zDoOrd o r) := by
  unfold zDoOrd
  split
  · exact zDoSluice_good hI
  split
  · exact zDoOpen_good hI
  split
  · exact zClose_good hI
  split
  · exact zEnter_good hI
  split
  · exact zLeave_good hI
  split
  · exact zLoad_good hI
  · exact zPump_good hI
theorem rIn.lvc {t c : Int} {r : Int → Int} (hI : rIn t r) (ht : t ≤ 60000) (c0 : 0 ≤ c) (c1 : c < r 1) : 0 ≤ sLv (sAll r) (100 + c) ∧ sLv (sAll r) (100 + c) ≤ 710000000 := by
  have b1 := hI.1
  have hIa := hI.all
  have e1 : sAll r 1 = r 1 := hI.keep (by omega)
  have hp : rPl (sAll r) (100 + c) := Or.inr ⟨by omega, by omega⟩
  obtain ⟨wo, wm, -⟩ := hIa.wat ht hp
  have dp := hIa.dp wo wm
  omega
theorem zOrd_good {t : Int} {o : oOrd} {r : Int → Int} (hI : rIn t r) (ht : t + 1 ≤ 60000) : zGood t (zOrd o r) := by
  have b1 := hI.1
  unfold zOrd
  by_cases h0 : o.1 = 0
  · rw [if_pos h0]
    unfold zSluice
    by_cases h : (0 ≤ o.2.1 ∧ o.2.1 < r 1) ∧ (o.2.2 = 0 ∨ o.2.2 = 1)
    · rw [if_pos h]
      by_cases hv : r (29 + 11 * o.2.1) < 0
      · rw [if_pos hv]
        have hI2 := hI.share h.1.1 h.1.2 h.2
        have lv := hI2.lvc (c := o.2.1) (by omega) h.1.1 (by rw [sSh_o (by omega) (by omega)]; exact h.1.2)
        exact zGood_s lv.1 (by omega) (hI2.mono (by omega))
      · rw [if_neg hv]; exact zGood_n (by omega) (by omega)
    · rw [if_neg h]; exact zGood_n (by omega) (by omega)
  rw [if_neg h0]
  by_cases h1 : o.1 = 1
  · rw [if_pos h1]
    unfold zOpen
    by_cases h : (0 ≤ o.2.1 ∧ o.2.1 < r 1) ∧ (o.2.2 = 0 ∨ o.2.2 = 1)
    · rw [if_pos h]
      by_cases hv : r (29 + 11 * o.2.1) < 0
      · rw [if_pos hv]
        by_cases hl : sLv r (100 + o.2.1) - sLv r (o.2.1 + o.2.2) ≤ 2 ∧ sLv r (o.2.1 + o.2.2) - sLv r (100 + o.2.1) ≤ 2
        · rw [if_pos hl]
          have hI2 := hI.own (k := 29 + 11 * o.2.1) (v := o.2.2) h.1.1 h.1.2 (by omega)
          have lv := hI2.lvc (c := o.2.1) (by omega) h.1.1 (by rw [rup_ne (by omega)]; exact h.1.2)
          exact zGood_s lv.1 (by omega) (hI2.mono (by omega))
        · rw [if_neg hl]; exact zGood_n (by omega) (by omega)
      · rw [if_neg hv]; exact zGood_n (by omega) (by omega)
    · rw [if_neg h]; exact zGood_n (by omega) (by omega)
  rw [if_neg h1]
  split
  · exact zClose_good hI
  split
  · exact zEnter_good hI
  split
  · exact zLeave_good hI
  split
  · exact zLoad_good hI
  · exact zPump_good hI
/-- how many are carried out, the row then, the reason of a refusal (or 0) -/
def oRun : List oOrd → (Int → Int) → Int × (Int → Int) × Int
  | [], r => (0, r, 0)
  | o :: l, r => match (zOrd o r).2.1 with
    | some r2 => ((oRun l (sAll r2)).1 + 1, (oRun l (sAll r2)).2)
    | none => (0, r, (zOrd o r).2.2)
theorem oRun_some {o : oOrd} {l : List oOrd} {r r2 : Int → Int} (h : (zOrd o r).2.1 = some r2) : oRun (o :: l) r = ((oRun l (sAll r2)).1 + 1, (oRun l (sAll r2)).2) := by
  unfold oRun
  rw [h]
  cases l <;> rfl
theorem oRun_none {o : oOrd} {l : List oOrd} {r : Int → Int} (h : (zOrd o r).2.1 = none) : oRun (o :: l) r = (0, r, (zOrd o r).2.2) := by
  unfold oRun
  rw [h]
theorem oRun_b : ∀ (l : List oOrd) (t : Int) (r : Int → Int), rIn t r → t + l.length ≤ 60000 → 0 ≤ (oRun l r).1 ∧ (oRun l r).1 ≤ l.length ∧ rIn (t + l.length) (oRun l r).2.1
  | [], t, r, hI, ht => by
    show 0 ≤ (0 : Int) ∧ (0 : Int) ≤ 0 ∧ rIn (t + 0) r
    exact ⟨by omega, by omega, by rw [Int.add_zero]; exact hI⟩
  | o :: l, t, r, hI, ht => by
    have hl : (((o :: l).length : Nat) : Int) = l.length + 1 := by rw [List.length_cons]; omega
    rw [hl] at ht ⊢
    have hg := zOrd_good (o := o) hI (by omega)
    unfold zGood at hg
    cases h : (zOrd o r).2.1 with
    | none =>
      rw [oRun_none h]
      exact ⟨by show (0 : Int) ≤ 0; omega, by show (0 : Int) ≤ _; omega, hI.mono (by omega)⟩
    | some r2 =>
      rw [h] at hg
      rw [oRun_some h]
      have ih := oRun_b l (t + 1) (sAll r2) hg.2.2.2.all (by omega)
      exact ⟨by show 0 ≤ (oRun l (sAll r2)).1 + 1; omega, by show (oRun l (sAll r2)).1 + 1 ≤ _; omega, by show rIn _ (oRun l (sAll r2)).2.1; exact ih.2.2.mono (by omega)⟩
def oArr (D : JD) (M : Int) : Int → List oOrd → Prop
  | _, [] => True
  | i, o :: l => D (M + 7) (3 * i) = o.1 ∧ D (M + 7) (3 * i + 1) = o.2.1 ∧ D (M + 7) (3 * i + 2) = o.2.2 ∧ oOk o ∧ oArr D M (i + 1) l
theorem oArr.cong {D D2 : JD} {M : Int} : ∀ (l : List oOrd) (i : Int), oArr D M i l → (∀ j : Int, j < 3 * (i + l.length) → D2 (M + 7) j = D (M + 7) j) → oArr D2 M i l
  | [], _, _, _ => trivial
  | o :: l, i, h, e => by
    have hl : (((o :: l).length : Nat) : Int) = l.length + 1 := by rw [List.length_cons]; omega
    rw [hl] at e
    obtain ⟨a, b, c, k, h2⟩ := h
    exact ⟨by rw [e _ (by omega)]; exact a, by rw [e _ (by omega)]; exact b, by rw [e _ (by omega)]; exact c, k, oArr.cong l (i + 1) h2 (fun j hj => e j (by omega))⟩
theorem oArr.snoc {D : JD} {M : Int} {o : oOrd} : ∀ (l : List oOrd) (i k : Int), k = i + l.length → oArr D M i l → D (M + 7) (3 * k) = o.1 → D (M + 7) (3 * k + 1) = o.2.1 → D (M + 7) (3 * k + 2) = o.2.2 → oOk o → oArr D M i (l ++ [o])
  | [], i, k, hk, _, a, b, c, g => by
    have e : k = i := by rw [hk, List.length_nil]; omega
    subst e
    exact ⟨a, b, c, g, trivial⟩
  | x :: l, i, k, hk, h, a, b, c, g => by
    have hl : (((x :: l).length : Nat) : Int) = l.length + 1 := by rw [List.length_cons]; omega
    rw [hl] at hk
    obtain ⟨h1, h2, h3, h4, h5⟩ := h
    exact ⟨h1, h2, h3, h4, oArr.snoc l (i + 1) k (by omega) h5 a b c g⟩
theorem carry_0 {G : JG} {S : JS} {D : JD} {d : Nat} {M t : Int} {r : Int → Int} {j : Int} {o : oOrd} (hM : jMo S M) (hr : D (M + 1) = r) (hI : rIn t r) (ht : t ≤ 60000) (ht2 : t + 1 ≤ 60000) (j0 : 0 ≤ j) (j1 : j + 2 < 90) (g0 : D (M + 7) j = o.1) (g1 : D (M + 7) (j + 1) = o.2.1) (g2 : D (M + 7) (j + 2) = o.2.2) (ok : oOk o) (hK : o.1 = 0) : JM G yX8_carryOut cX8_carryOut 4 (some .int) (d + 7) (0, 0) S D [.inr (.inr (some M)), .inl j] (jrP S (jDo D M r (zDoOrd o r))) := by
  have hM0 := hM
  obtain ⟨mk, m0, m1, m2, m4, m5, m8, m12, y1, l1, y2, l2, y3, l3, y4, l4, y5, l5, y6, l6, y7, l7⟩ := id hM
  have hr0 := hr
  obtain ⟨k0, k1, k2, k3, k4, k5⟩ := ok
  have rcx : i32 o.2.1 := ⟨by omega, by omega⟩
  have rgx : i32 o.2.2 := ⟨by omega, by omega⟩
  unfold zDoOrd
  rw [if_pos hK]
  show JX _ _ _ _ _ _ _ _ _ _ _ [_, _, _, _] _ _
  refine x_aload_n dX8_carryOut_0 rfl ?_
  refine gf_RX8_30 dX8_carryOut_1 rfl (by assumption) ?_
  rw [m12]
  refine x_iload_n dX8_carryOut_4 rfl ?_
  refine x_iconst dX8_carryOut_5 ?_
  refine x_iadd dX8_carryOut_6 ?_
  refine x_iald dX8_carryOut_7 (by assumption) ⟨by omega, by omega⟩ ?_
  rw [g1]
  refine x_istore_n dX8_carryOut_8 (by decide) ?_
  show JX _ _ _ _ _ _ _ _ _ _ _ [_, _, _, _] _ _
  refine x_aload_n dX8_carryOut_9 rfl ?_
  refine gf_RX8_30 dX8_carryOut_10 rfl (by assumption) ?_
  rw [m12]
  refine x_iload_n dX8_carryOut_13 rfl ?_
  refine x_iconst dX8_carryOut_14 ?_
  refine x_iadd dX8_carryOut_15 ?_
  refine x_iald dX8_carryOut_16 (by assumption) ⟨by omega, by omega⟩ ?_
  rw [g2]
  refine x_istore_n dX8_carryOut_17 (by decide) ?_
  show JX _ _ _ _ _ _ _ _ _ _ _ [_, _, _, _] _ _
  refine x_aload_n dX8_carryOut_18 rfl ?_
  refine gf_RX8_30 dX8_carryOut_19 rfl (by assumption) ?_
  rw [m12]
  refine x_iload_n dX8_carryOut_22 rfl ?_
  refine x_iald dX8_carryOut_23 (by assumption) ⟨by omega, by omega⟩ ?_
  rw [g0, hK]
  refine x_switch (tgt := 64) dX8_carryOut_24 ⟨by omega, by omega⟩ (by decide) (by decide) ?_
  refine x_aload_n dX8_carryOut_64 rfl ?_
  refine x_iload_n dX8_carryOut_65 rfl ?_
  refine x_iload_n dX8_carryOut_66 rfl ?_
  refine c_RX8_147p dX8_carryOut_67 rfl (kX8_doSluice hM0 hr0 hI ht rcx rgx) (by assumption) (Nat.le_of_ble_eq_true rfl) (Nat.le_of_ble_eq_true rfl) ⟨Nat.le_refl _, Nat.le_refl _⟩ (fun w9 D9 h9 => ?_)
  obtain ⟨hw, hx⟩ := id h9
  subst hw
  exact x_ireturn dX8_carryOut_70 rfl rfl ⟨Nat.le_refl _, Nat.le_refl _⟩ ⟨rfl, _, rfl, h9⟩
theorem carry_1 {G : JG} {S : JS} {D : JD} {d : Nat} {M t : Int} {r : Int → Int} {j : Int} {o : oOrd} (hM : jMo S M) (hr : D (M + 1) = r) (hI : rIn t r) (ht : t ≤ 60000) (ht2 : t + 1 ≤ 60000) (j0 : 0 ≤ j) (j1 : j + 2 < 90) (g0 : D (M + 7) j = o.1) (g1 : D (M + 7) (j + 1) = o.2.1) (g2 : D (M + 7) (j + 2) = o.2.2) (ok : oOk o) (hK : o.1 = 1) : JM G yX8_carryOut cX8_carryOut 4 (some .int) (d + 7) (0, 0) S D [.inr (.inr (some M)), .inl j] (jrP S (jDo D M r (zDoOrd o r))) := by
  have hM0 := hM
  obtain ⟨mk, m0, m1, m2, m4, m5, m8, m12, y1, l1, y2, l2, y3, l3, y4, l4, y5, l5, y6, l6, y7, l7⟩ := id hM
  have hr0 := hr
  obtain ⟨k0, k1, k2, k3, k4, k5⟩ := ok
  have rcx : i32 o.2.1 := ⟨by omega, by omega⟩
  have rgx : i32 o.2.2 := ⟨by omega, by omega⟩
  unfold zDoOrd
  rw [if_neg (show ¬ o.1 = 0 by omega)]
  rw [if_pos hK]
  show JX _ _ _ _ _ _ _ _ _ _ _ [_, _, _, _] _ _
  refine x_aload_n dX8_carryOut_0 rfl ?_
  refine gf_RX8_30 dX8_carryOut_1 rfl (by assumption) ?_
  rw [m12]
  refine x_iload_n dX8_carryOut_4 rfl ?_
  refine x_iconst dX8_carryOut_5 ?_
  refine x_iadd dX8_carryOut_6 ?_
  refine x_iald dX8_carryOut_7 (by assumption) ⟨by omega, by omega⟩ ?_
  rw [g1]
  refine x_istore_n dX8_carryOut_8 (by decide) ?_
  show JX _ _ _ _ _ _ _ _ _ _ _ [_, _, _, _] _ _
  refine x_aload_n dX8_carryOut_9 rfl ?_
  refine gf_RX8_30 dX8_carryOut_10 rfl (by assumption) ?_
  rw [m12]
  refine x_iload_n dX8_carryOut_13 rfl ?_
  refine x_iconst dX8_carryOut_14 ?_
  refine x_iadd dX8_carryOut_15 ?_
  refine x_iald dX8_carryOut_16 (by assumption) ⟨by omega, by omega⟩ ?_
  rw [g2]
  refine x_istore_n dX8_carryOut_17 (by decide) ?_
  show JX _ _ _ _ _ _ _ _ _ _ _ [_, _, _, _] _ _
  refine x_aload_n dX8_carryOut_18 rfl ?_
  refine gf_RX8_30 dX8_carryOut_19 rfl (by assumption) ?_
  rw [m12]
  refine x_iload_n dX8_carryOut_22 rfl ?_
  refine x_iald dX8_carryOut_23 (by assumption) ⟨by omega, by omega⟩ ?_
  rw [g0, hK]
  refine x_switch (tgt := 71) dX8_carryOut_24 ⟨by omega, by omega⟩ (by decide) (by decide) ?_
  refine x_aload_n dX8_carryOut_71 rfl ?_
  refine x_iload_n dX8_carryOut_72 rfl ?_
  refine x_iload_n dX8_carryOut_73 rfl ?_
  refine c_RX8_153p dX8_carryOut_74 rfl (kX8_doOpen hM0 hr0 hI ht rcx rgx) (by assumption) (Nat.le_of_ble_eq_true rfl) (Nat.le_of_ble_eq_true rfl) ⟨Nat.le_refl _, Nat.le_refl _⟩ (fun w9 D9 h9 => ?_)
  obtain ⟨hw, hx⟩ := id h9
  subst hw
  exact x_ireturn dX8_carryOut_77 rfl rfl ⟨Nat.le_refl _, Nat.le_refl _⟩ ⟨rfl, _, rfl, h9⟩
theorem carry_2 {G : JG} {S : JS} {D : JD} {d : Nat} {M t : Int} {r : Int → Int} {j : Int} {o : oOrd} (hM : jMo S M) (hr : D (M + 1) = r) (hI : rIn t r) (ht : t ≤ 60000) (ht2 : t + 1 ≤ 60000) (j0 : 0 ≤ j) (j1 : j + 2 < 90) (g0 : D (M + 7) j = o.1) (g1 : D (M + 7) (j + 1) = o.2.1) (g2 : D (M + 7) (j + 2) = o.2.2) (ok : oOk o) (hK : o.1 = 2) : JM G yX8_carryOut cX8_carryOut 4 (some .int) (d + 7) (0, 0) S D [.inr (.inr (some M)), .inl j] (jrP S (jDo D M r (zDoOrd o r))) := by
  have hM0 := hM
  obtain ⟨mk, m0, m1, m2, m4, m5, m8, m12, y1, l1, y2, l2, y3, l3, y4, l4, y5, l5, y6, l6, y7, l7⟩ := id hM
  have hr0 := hr
  obtain ⟨k0, k1, k2, k3, k4, k5⟩ := ok
  have rcx : i32 o.2.1 := ⟨by omega, by omega⟩
  have rgx : i32 o.2.2 := ⟨by omega, by omega⟩
  unfold zDoOrd
  rw [if_neg (show ¬ o.1 = 0 by omega)]
  rw [if_neg (show ¬ o.1 = 1 by omega)]
  rw [if_pos hK]
  show JX _ _ _ _ _ _ _ _ _ _ _ [_, _, _, _] _ _
  refine x_aload_n dX8_carryOut_0 rfl ?_
  refine gf_RX8_30 dX8_carryOut_1 rfl (by assumption) ?_
  rw [m12]
  refine x_iload_n dX8_carryOut_4 rfl ?_
  refine x_iconst dX8_carryOut_5 ?_
  refine x_iadd dX8_carryOut_6 ?_
  refine x_iald dX8_carryOut_7 (by assumption) ⟨by omega, by omega⟩ ?_
  rw [g1]
  refine x_istore_n dX8_carryOut_8 (by decide) ?_
  show JX _ _ _ _ _ _ _ _ _ _ _ [_, _, _, _] _ _
  refine x_aload_n dX8_carryOut_9 rfl ?_
  refine gf_RX8_30 dX8_carryOut_10 rfl (by assumption) ?_
  rw [m12]
  refine x_iload_n dX8_carryOut_13 rfl ?_
  refine x_iconst dX8_carryOut_14 ?_
  refine x_iadd dX8_carryOut_15 ?_
  refine x_iald dX8_carryOut_16 (by assumption) ⟨by omega, by omega⟩ ?_
  rw [g2]
  refine x_istore_n dX8_carryOut_17 (by decide) ?_
  show JX _ _ _ _ _ _ _ _ _ _ _ [_, _, _, _] _ _
  refine x_aload_n dX8_carryOut_18 rfl ?_
  refine gf_RX8_30 dX8_carryOut_19 rfl (by assumption) ?_
  rw [m12]
  refine x_iload_n dX8_carryOut_22 rfl ?_
  refine x_iald dX8_carryOut_23 (by assumption) ⟨by omega, by omega⟩ ?_
  rw [g0, hK]
  refine x_switch (tgt := 78) dX8_carryOut_24 ⟨by omega, by omega⟩ (by decide) (by decide) ?_
  refine x_aload_n dX8_carryOut_78 rfl ?_
  refine x_iload_n dX8_carryOut_79 rfl ?_
  refine c_RX8_156p dX8_carryOut_80 rfl (kX8_doClose hM0 hr0 hI ht rcx) (by assumption) (Nat.le_of_ble_eq_true rfl) (Nat.le_of_ble_eq_true rfl) ⟨Nat.le_refl _, Nat.le_refl _⟩ (fun w9 D9 h9 => ?_)
  obtain ⟨hw, hx⟩ := id h9
  subst hw
  exact x_ireturn dX8_carryOut_83 rfl rfl ⟨Nat.le_refl _, Nat.le_refl _⟩ ⟨rfl, _, rfl, h9⟩
theorem carry_3 {G : JG} {S : JS} {D : JD} {d : Nat} {M t : Int} {r : Int → Int} {j : Int} {o : oOrd} (hM : jMo S M) (hr : D (M + 1) = r) (hI : rIn t r) (ht : t ≤ 60000) (ht2 : t + 1 ≤ 60000) (j0 : 0 ≤ j) (j1 : j + 2 < 90) (g0 : D (M + 7) j = o.1) (g1 : D (M + 7) (j + 1) = o.2.1) (g2 : D (M + 7) (j + 2) = o.2.2) (ok : oOk o) (hK : o.1 = 3) : JM G yX8_carryOut cX8_carryOut 4 (some .int) (d + 7) (0, 0) S D [.inr (.inr (some M)), .inl j] (jrP S (jDo D M r (zDoOrd o r))) := by
  have hM0 := hM
  obtain ⟨mk, m0, m1, m2, m4, m5, m8, m12, y1, l1, y2, l2, y3, l3, y4, l4, y5, l5, y6, l6, y7, l7⟩ := id hM
  have hr0 := hr
  obtain ⟨k0, k1, k2, k3, k4, k5⟩ := ok
  have rcx : i32 o.2.1 := ⟨by omega, by omega⟩
  have rgx : i32 o.2.2 := ⟨by omega, by omega⟩
  unfold zDoOrd
  rw [if_neg (show ¬ o.1 = 0 by omega)]
  rw [if_neg (show ¬ o.1 = 1 by omega)]
  rw [if_neg (show ¬ o.1 = 2 by omega)]
  rw [if_pos hK]
  show JX _ _ _ _ _ _ _ _ _ _ _ [_, _, _, _] _ _
  refine x_aload_n dX8_carryOut_0 rfl ?_
  refine gf_RX8_30 dX8_carryOut_1 rfl (by assumption) ?_
  rw [m12]
  refine x_iload_n dX8_carryOut_4 rfl ?_
  refine x_iconst dX8_carryOut_5 ?_
  refine x_iadd dX8_carryOut_6 ?_
  refine x_iald dX8_carryOut_7 (by assumption) ⟨by omega, by omega⟩ ?_
  rw [g1]
  refine x_istore_n dX8_carryOut_8 (by decide) ?_
  show JX _ _ _ _ _ _ _ _ _ _ _ [_, _, _, _] _ _
  refine x_aload_n dX8_carryOut_9 rfl ?_
  refine gf_RX8_30 dX8_carryOut_10 rfl (by assumption) ?_
  rw [m12]
  refine x_iload_n dX8_carryOut_13 rfl ?_
  refine x_iconst dX8_carryOut_14 ?_
  refine x_iadd dX8_carryOut_15 ?_
  refine x_iald dX8_carryOut_16 (by assumption) ⟨by omega, by omega⟩ ?_
  rw [g2]
  refine x_istore_n dX8_carryOut_17 (by decide) ?_
  show JX _ _ _ _ _ _ _ _ _ _ _ [_, _, _, _] _ _
  refine x_aload_n dX8_carryOut_18 rfl ?_
  refine gf_RX8_30 dX8_carryOut_19 rfl (by assumption) ?_
  rw [m12]
  refine x_iload_n dX8_carryOut_22 rfl ?_
  refine x_iald dX8_carryOut_23 (by assumption) ⟨by omega, by omega⟩ ?_
  rw [g0, hK]
  refine x_switch (tgt := 84) dX8_carryOut_24 ⟨by omega, by omega⟩ (by decide) (by decide) ?_
  refine x_aload_n dX8_carryOut_84 rfl ?_
  refine x_iload_n dX8_carryOut_85 rfl ?_
  refine x_iload_n dX8_carryOut_86 rfl ?_
  refine c_RX8_174p dX8_carryOut_87 rfl (kX8_doEnter hM0 hr0 hI ht ht2 rcx rgx) (by assumption) (Nat.le_of_ble_eq_true rfl) (Nat.le_of_ble_eq_true rfl) ⟨Nat.le_refl _, Nat.le_refl _⟩ (fun w9 D9 h9 => ?_)
  obtain ⟨hw, hx⟩ := id h9
  subst hw
  exact x_ireturn dX8_carryOut_90 rfl rfl ⟨Nat.le_refl _, Nat.le_refl _⟩ ⟨rfl, _, rfl, h9⟩
theorem carry_4 {G : JG} {S : JS} {D : JD} {d : Nat} {M t : Int} {r : Int → Int} {j : Int} {o : oOrd} (hM : jMo S M) (hr : D (M + 1) = r) (hI : rIn t r) (ht : t ≤ 60000) (ht2 : t + 1 ≤ 60000) (j0 : 0 ≤ j) (j1 : j + 2 < 90) (g0 : D (M + 7) j = o.1) (g1 : D (M + 7) (j + 1) = o.2.1) (g2 : D (M + 7) (j + 2) = o.2.2) (ok : oOk o) (hK : o.1 = 4) : JM G yX8_carryOut cX8_carryOut 4 (some .int) (d + 7) (0, 0) S D [.inr (.inr (some M)), .inl j] (jrP S (jDo D M r (zDoOrd o r))) := by
  have hM0 := hM
  obtain ⟨mk, m0, m1, m2, m4, m5, m8, m12, y1, l1, y2, l2, y3, l3, y4, l4, y5, l5, y6, l6, y7, l7⟩ := id hM
  have hr0 := hr
  obtain ⟨k0, k1, k2, k3, k4, k5⟩ := ok
  have rcx : i32 o.2.1 := ⟨by omega, by omega⟩
  have rgx : i32 o.2.2 := ⟨by omega, by omega⟩
  unfold zDoOrd
  rw [if_neg (show ¬ o.1 = 0 by omega)]
  rw [if_neg (show ¬ o.1 = 1 by omega)]
  rw [if_neg (show ¬ o.1 = 2 by omega)]
  rw [if_neg (show ¬ o.1 = 3 by omega)]
  rw [if_pos hK]
  show JX _ _ _ _ _ _ _ _ _ _ _ [_, _, _, _] _ _
  refine x_aload_n dX8_carryOut_0 rfl ?_
  refine gf_RX8_30 dX8_carryOut_1 rfl (by assumption) ?_
  rw [m12]
  refine x_iload_n dX8_carryOut_4 rfl ?_
  refine x_iconst dX8_carryOut_5 ?_
  refine x_iadd dX8_carryOut_6 ?_
  refine x_iald dX8_carryOut_7 (by assumption) ⟨by omega, by omega⟩ ?_
  rw [g1]
  refine x_istore_n dX8_carryOut_8 (by decide) ?_
  show JX _ _ _ _ _ _ _ _ _ _ _ [_, _, _, _] _ _
  refine x_aload_n dX8_carryOut_9 rfl ?_
  refine gf_RX8_30 dX8_carryOut_10 rfl (by assumption) ?_
  rw [m12]
  refine x_iload_n dX8_carryOut_13 rfl ?_
  refine x_iconst dX8_carryOut_14 ?_
  refine x_iadd dX8_carryOut_15 ?_
  refine x_iald dX8_carryOut_16 (by assumption) ⟨by omega, by omega⟩ ?_
  rw [g2]
  refine x_istore_n dX8_carryOut_17 (by decide) ?_
  show JX _ _ _ _ _ _ _ _ _ _ _ [_, _, _, _] _ _
  refine x_aload_n dX8_carryOut_18 rfl ?_
  refine gf_RX8_30 dX8_carryOut_19 rfl (by assumption) ?_
  rw [m12]
  refine x_iload_n dX8_carryOut_22 rfl ?_
  refine x_iald dX8_carryOut_23 (by assumption) ⟨by omega, by omega⟩ ?_
  rw [g0, hK]
  refine x_switch (tgt := 91) dX8_carryOut_24 ⟨by omega, by omega⟩ (by decide) (by decide) ?_
  refine x_aload_n dX8_carryOut_91 rfl ?_
  refine x_iload_n dX8_carryOut_92 rfl ?_
  refine x_iload_n dX8_carryOut_93 rfl ?_
  refine c_RX8_177p dX8_carryOut_94 rfl (kX8_doLeave hM0 hr0 hI ht rcx rgx) (by assumption) (Nat.le_of_ble_eq_true rfl) (Nat.le_of_ble_eq_true rfl) ⟨Nat.le_refl _, Nat.le_refl _⟩ (fun w9 D9 h9 => ?_)
  obtain ⟨hw, hx⟩ := id h9
  subst hw
  exact x_ireturn dX8_carryOut_97 rfl rfl ⟨Nat.le_refl _, Nat.le_refl _⟩ ⟨rfl, _, rfl, h9⟩
theorem carry_5 {G : JG} {S : JS} {D : JD} {d : Nat} {M t : Int} {r : Int → Int} {j : Int} {o : oOrd} (hM : jMo S M) (hr : D (M + 1) = r) (hI : rIn t r) (ht : t ≤ 60000) (ht2 : t + 1 ≤ 60000) (j0 : 0 ≤ j) (j1 : j + 2 < 90) (g0 : D (M + 7) j = o.1) (g1 : D (M + 7) (j + 1) = o.2.1) (g2 : D (M + 7) (j + 2) = o.2.2) (ok : oOk o) (hK : o.1 = 5) : JM G yX8_carryOut cX8_carryOut 4 (some .int) (d + 7) (0, 0) S D [.inr (.inr (some M)), .inl j] (jrP S (jDo D M r (zDoOrd o r))) := by
  have hM0 := hM
  obtain ⟨mk, m0, m1, m2, m4, m5, m8, m12, y1, l1, y2, l2, y3, l3, y4, l4, y5, l5, y6, l6, y7, l7⟩ := id hM
  have hr0 := hr
  obtain ⟨k0, k1, k2, k3, k4, k5⟩ := ok
  have rcx : i32 o.2.1 := ⟨by omega, by omega⟩
  have rgx : i32 o.2.2 := ⟨by omega, by omega⟩
  unfold zDoOrd
  rw [if_neg (show ¬ o.1 = 0 by omega)]
  rw [if_neg (show ¬ o.1 = 1 by omega)]
  rw [if_neg (show ¬ o.1 = 2 by omega)]
  rw [if_neg (show ¬ o.1 = 3 by omega)]
  rw [if_neg (show ¬ o.1 = 4 by omega)]
  rw [if_pos hK]
  show JX _ _ _ _ _ _ _ _ _ _ _ [_, _, _, _] _ _
  refine x_aload_n dX8_carryOut_0 rfl ?_
  refine gf_RX8_30 dX8_carryOut_1 rfl (by assumption) ?_
  rw [m12]
  refine x_iload_n dX8_carryOut_4 rfl ?_
  refine x_iconst dX8_carryOut_5 ?_
  refine x_iadd dX8_carryOut_6 ?_
  refine x_iald dX8_carryOut_7 (by assumption) ⟨by omega, by omega⟩ ?_
  rw [g1]
  refine x_istore_n dX8_carryOut_8 (by decide) ?_
  show JX _ _ _ _ _ _ _ _ _ _ _ [_, _, _, _] _ _
  refine x_aload_n dX8_carryOut_9 rfl ?_
  refine gf_RX8_30 dX8_carryOut_10 rfl (by assumption) ?_
  rw [m12]
  refine x_iload_n dX8_carryOut_13 rfl ?_
  refine x_iconst dX8_carryOut_14 ?_
  refine x_iadd dX8_carryOut_15 ?_
  refine x_iald dX8_carryOut_16 (by assumption) ⟨by omega, by omega⟩ ?_
  rw [g2]
  refine x_istore_n dX8_carryOut_17 (by decide) ?_
  show JX _ _ _ _ _ _ _ _ _ _ _ [_, _, _, _] _ _
  refine x_aload_n dX8_carryOut_18 rfl ?_
  refine gf_RX8_30 dX8_carryOut_19 rfl (by assumption) ?_
  rw [m12]
  refine x_iload_n dX8_carryOut_22 rfl ?_
  refine x_iald dX8_carryOut_23 (by assumption) ⟨by omega, by omega⟩ ?_
  rw [g0, hK]
  refine x_switch (tgt := 98) dX8_carryOut_24 ⟨by omega, by omega⟩ (by decide) (by decide) ?_
  refine x_aload_n dX8_carryOut_98 rfl ?_
  refine x_iload_n dX8_carryOut_99 rfl ?_
  refine x_iload_n dX8_carryOut_100 rfl ?_
  refine c_RX8_141p dX8_carryOut_101 rfl (kX8_doLoad hM0 hr0 hI ht rcx rgx) (by assumption) (Nat.le_of_ble_eq_true rfl) (Nat.le_of_ble_eq_true rfl) ⟨Nat.le_refl _, Nat.le_refl _⟩ (fun w9 D9 h9 => ?_)
  obtain ⟨hw, hx⟩ := id h9
  subst hw
  exact x_ireturn dX8_carryOut_104 rfl rfl ⟨Nat.le_refl _, Nat.le_refl _⟩ ⟨rfl, _, rfl, h9⟩
theorem carry_6 {G : JG} {S : JS} {D : JD} {d : Nat} {M t : Int} {r : Int → Int} {j : Int} {o : oOrd} (hM : jMo S M) (hr : D (M + 1) = r) (hI : rIn t r) (ht : t ≤ 60000) (ht2 : t + 1 ≤ 60000) (j0 : 0 ≤ j) (j1 : j + 2 < 90) (g0 : D (M + 7) j = o.1) (g1 : D (M + 7) (j + 1) = o.2.1) (g2 : D (M + 7) (j + 2) = o.2.2) (ok : oOk o) (hK : o.1 = 6) : JM G yX8_carryOut cX8_carryOut 4 (some .int) (d + 7) (0, 0) S D [.inr (.inr (some M)), .inl j] (jrP S (jDo D M r (zDoOrd o r))) := by
  have hM0 := hM
  obtain ⟨mk, m0, m1, m2, m4, m5, m8, m12, y1, l1, y2, l2, y3, l3, y4, l4, y5, l5, y6, l6, y7, l7⟩ := id hM
  have hr0 := hr
  obtain ⟨k0, k1, k2, k3, k4, k5⟩ := ok
  have rcx : i32 o.2.1 := ⟨by omega, by omega⟩
  have rgx : i32 o.2.2 := ⟨by omega, by omega⟩
  unfold zDoOrd
  rw [if_neg (show ¬ o.1 = 0 by omega)]
  rw [if_neg (show ¬ o.1 = 1 by omega)]
  rw [if_neg (show ¬ o.1 = 2 by omega)]
  rw [if_neg (show ¬ o.1 = 3 by omega)]
  rw [if_neg (show ¬ o.1 = 4 by omega)]
  rw [if_neg (show ¬ o.1 = 5 by omega)]
  show JX _ _ _ _ _ _ _ _ _ _ _ [_, _, _, _] _ _
  refine x_aload_n dX8_carryOut_0 rfl ?_
  refine gf_RX8_30 dX8_carryOut_1 rfl (by assumption) ?_
  rw [m12]
  refine x_iload_n dX8_carryOut_4 rfl ?_
  refine x_iconst dX8_carryOut_5 ?_
  refine x_iadd dX8_carryOut_6 ?_
  refine x_iald dX8_carryOut_7 (by assumption) ⟨by omega, by omega⟩ ?_
  rw [g1]
  refine x_istore_n dX8_carryOut_8 (by decide) ?_
  show JX _ _ _ _ _ _ _ _ _ _ _ [_, _, _, _] _ _
  refine x_aload_n dX8_carryOut_9 rfl ?_
  refine gf_RX8_30 dX8_carryOut_10 rfl (by assumption) ?_
  rw [m12]
  refine x_iload_n dX8_carryOut_13 rfl ?_
  refine x_iconst dX8_carryOut_14 ?_
  refine x_iadd dX8_carryOut_15 ?_
  refine x_iald dX8_carryOut_16 (by assumption) ⟨by omega, by omega⟩ ?_
  rw [g2]
  refine x_istore_n dX8_carryOut_17 (by decide) ?_
  show JX _ _ _ _ _ _ _ _ _ _ _ [_, _, _, _] _ _
  refine x_aload_n dX8_carryOut_18 rfl ?_
  refine gf_RX8_30 dX8_carryOut_19 rfl (by assumption) ?_
  rw [m12]
  refine x_iload_n dX8_carryOut_22 rfl ?_
  refine x_iald dX8_carryOut_23 (by assumption) ⟨by omega, by omega⟩ ?_
  rw [g0, hK]
  refine x_switch (tgt := 105) dX8_carryOut_24 ⟨by omega, by omega⟩ (by decide) (by decide) ?_
  refine x_aload_n dX8_carryOut_105 rfl ?_
  refine x_iload_n dX8_carryOut_106 rfl ?_
  refine x_iload_n dX8_carryOut_107 rfl ?_
  refine c_RX8_144p dX8_carryOut_108 rfl (kX8_doPump hM0 hr0 hI ht ht2 rcx rgx) (by assumption) (Nat.le_of_ble_eq_true rfl) (Nat.le_of_ble_eq_true rfl) ⟨Nat.le_refl _, Nat.le_refl _⟩ (fun w9 D9 h9 => ?_)
  obtain ⟨hw, hx⟩ := id h9
  subst hw
  exact x_ireturn dX8_carryOut_111 rfl rfl ⟨Nat.le_refl _, Nat.le_refl _⟩ ⟨rfl, _, rfl, h9⟩
theorem kX8_carryOut {G : JG} {S : JS} {D : JD} {d : Nat} {M t : Int} {r : Int → Int} {j : Int} {o : oOrd} (hM : jMo S M) (hr : D (M + 1) = r) (hI : rIn t r) (ht : t ≤ 60000) (ht2 : t + 1 ≤ 60000) (j0 : 0 ≤ j) (j1 : j + 2 < 90) (g0 : D (M + 7) j = o.1) (g1 : D (M + 7) (j + 1) = o.2.1) (g2 : D (M + 7) (j + 2) = o.2.2) (ok : oOk o) : JM G yX8_carryOut cX8_carryOut 4 (some .int) (d + 7) (0, 0) S D [.inr (.inr (some M)), .inl j] (jrP S (jDo D M r (zDoOrd o r))) := by
  have k01 := ok.1
  have k02 := ok.2.1
  by_cases h0 : o.1 = 0
  · exact carry_0 hM hr hI ht ht2 j0 j1 g0 g1 g2 ok h0
  by_cases h1 : o.1 = 1
  · exact carry_1 hM hr hI ht ht2 j0 j1 g0 g1 g2 ok h1
  by_cases h2 : o.1 = 2
  · exact carry_2 hM hr hI ht ht2 j0 j1 g0 g1 g2 ok h2
  by_cases h3 : o.1 = 3
  · exact carry_3 hM hr hI ht ht2 j0 j1 g0 g1 g2 ok h3
  by_cases h4 : o.1 = 4
  · exact carry_4 hM hr hI ht ht2 j0 j1 g0 g1 g2 ok h4
  by_cases h5 : o.1 = 5
  · exact carry_5 hM hr hI ht ht2 j0 j1 g0 g1 g2 ok h5
  exact carry_6 hM hr hI ht ht2 j0 j1 g0 g1 g2 ok (by omega)
theorem run_loop {G : JG} {S : JS} {d : Nat} {M : Int} {Q : Option JV → JS → JD → Prop} (hM : jMo S M) : ∀ (l : List oOrd) (i t : Int) (r : Int → Int) (D : JD), 0 ≤ i → i + l.length ≤ 25 → t + l.length ≤ 60000 → D M 11 = i + l.length → oArr D M i l → D (M + 1) = r → rIn t r →
    (∀ D2 : JD, D2 (M + 1) = (oRun l r).2.1 → D2 M 6 = (if (oRun l r).2.2 = 0 then D M 6 else (oRun l r).2.2) → (∀ x : Int, x ≠ M → x ≠ M + 1 → D2 x = D x) → (∀ k : Int, k ≠ 6 → D2 M k = D M k) → JX G yX8_runOrders cX8_runOrders 2 (some .int) (d + 8) (0, 0) (0, 0) S D2 106 [some (.inr (.inr (some M))), some (.inl (i + (oRun l r).1))] [] Q) → JX G yX8_runOrders cX8_runOrders 2 (some .int) (d + 8) (0, 0) (0, 0) S D 76 [some (.inr (.inr (some M))), some (.inl i)] [] Q := by
  intro l
  induction l with
  | nil =>
    intro i t r D i0 i1 ht hN hA hr hI K
    have mk := hM.1
    have e0 : D M 11 = i := by rw [hN, List.length_nil]; omega
    have K2 := K D hr (by show D M 6 = if (0 : Int) = 0 then D M 6 else 0; rw [if_pos rfl]) (fun _ _ _ => rfl) (fun _ _ => rfl)
    rw [show i + (oRun [] r).1 = i by show i + 0 = i; omega] at K2
    refine x_iload_n dX8_runOrders_76 rfl ?_
    refine x_aload_n dX8_runOrders_77 rfl ?_
    refine gf_RX8_203 dX8_runOrders_78 rfl (by assumption) ?_
    rw [e0]
    refine x_ic_ge (tgt := 106) dX8_runOrders_81 (by decide) ⟨by omega, by omega⟩ ⟨by omega, by omega⟩ (fun hb81 => ?_) (fun h => (h (by omega)).elim)
    exact K2
  | cons o l ih =>
    intro i t r D i0 i1 ht hN hA hr hI K
    obtain ⟨mk, m0, m1, m2, m4, m5, m8, m12, y1, l1, y2, l2, y3, l3, y4, l4, y5, l5, y6, l6, y7, l7⟩ := id hM
    have hl : (((o :: l).length : Nat) : Int) = l.length + 1 := by rw [List.length_cons]; omega
    rw [hl] at i1 ht hN
    obtain ⟨g0, g1, g2, ok, hA2⟩ := hA
    have hg := zDoOrd_good (o := o) hI
    have e2 := zDoOrd_2 o r
    cases hz : (zOrd o r).2.1 with
    | none =>
      have hz2 : (zDoOrd o r).2.1 = none := by rw [e2]; exact hz
      unfold zGood at hg
      rw [hz2] at hg
      have er := oRun_none (l := l) hz
      refine x_iload_n dX8_runOrders_76 rfl ?_
      refine x_aload_n dX8_runOrders_77 rfl ?_
      refine gf_RX8_203 dX8_runOrders_78 rfl (by assumption) ?_
      rw [hN]
      refine x_ic_ge (tgt := 106) dX8_runOrders_81 (by decide) ⟨by omega, by omega⟩ ⟨by omega, by omega⟩ (fun h => absurd h (by omega)) (fun hb81 => ?_)
      refine x_aload_n dX8_runOrders_84 rfl ?_
      refine x_iconst dX8_runOrders_85 ?_
      refine x_iload_n dX8_runOrders_86 rfl ?_
      refine x_imul dX8_runOrders_87 ?_
      refine c_RX8_212p dX8_runOrders_88 rfl (kX8_carryOut (j := 3 * i) hM hr hI (by omega) (by omega) (by omega) (by omega) g0 g1 g2 ok) (by assumption) (Nat.le_of_ble_eq_true rfl) (Nat.le_of_ble_eq_true rfl) ⟨Nat.le_refl _, Nat.le_refl _⟩ (fun w9 D9 h9 => ?_)
      obtain ⟨hw, w1, w2, w3, w4⟩ := h9
      subst hw
      rw [hz2] at w3
      rw [show (zDoOrd o r).2.2 = (zOrd o r).2.2 by rw [e2]] at w4
      have K2 := K D9 (by rw [er]; exact w3) (by rw [er]; exact w4) w1 w2
      rw [show i + (oRun (o :: l) r).1 = i by rw [er]; show i + 0 = i; omega] at K2
      refine x_ldc (e := -100000001) dX8_runOrders_91 ct_RX8_41 (by decide) ?_
      refine x_ic_le (tgt := 106) dX8_runOrders_93 (by decide) ⟨by omega, by omega⟩ ⟨by omega, by omega⟩ (fun hb93 => ?_) (fun h => (h (by omega)).elim)
      exact K2
    | some r2 =>
      have hz2 : (zDoOrd o r).2.1 = some r2 := by rw [e2]; exact hz
      unfold zGood at hg
      rw [hz2] at hg
      have er := oRun_some (l := l) hz
      refine x_iload_n dX8_runOrders_76 rfl ?_
      refine x_aload_n dX8_runOrders_77 rfl ?_
      refine gf_RX8_203 dX8_runOrders_78 rfl (by assumption) ?_
      rw [hN]
      refine x_ic_ge (tgt := 106) dX8_runOrders_81 (by decide) ⟨by omega, by omega⟩ ⟨by omega, by omega⟩ (fun h => absurd h (by omega)) (fun hb81 => ?_)
      refine x_aload_n dX8_runOrders_84 rfl ?_
      refine x_iconst dX8_runOrders_85 ?_
      refine x_iload_n dX8_runOrders_86 rfl ?_
      refine x_imul dX8_runOrders_87 ?_
      refine c_RX8_212p dX8_runOrders_88 rfl (kX8_carryOut (j := 3 * i) hM hr hI (by omega) (by omega) (by omega) (by omega) g0 g1 g2 ok) (by assumption) (Nat.le_of_ble_eq_true rfl) (Nat.le_of_ble_eq_true rfl) ⟨Nat.le_refl _, Nat.le_refl _⟩ (fun w9 D9 h9 => ?_)
      obtain ⟨hw, w1, w2, w3, w4⟩ := h9
      subst hw
      rw [hz2] at w3
      rw [hg.2.2.1, if_pos rfl] at w4
      replace w3 : D9 (M + 1) = r2 := w3
      refine x_ldc (e := -100000001) dX8_runOrders_91 ct_RX8_41 (by decide) ?_
      refine x_ic_le (tgt := 106) dX8_runOrders_93 (by decide) ⟨by omega, by omega⟩ ⟨by omega, by omega⟩ (fun h => absurd h (by omega)) (fun hb93 => ?_)
      refine x_aload_n dX8_runOrders_96 rfl ?_
      refine c_RX8_45p dX8_runOrders_97 rfl (kX8_shareAll hM w3 hg.2.2.2 (by omega)) (by assumption) (Nat.le_of_ble_eq_true rfl) (Nat.le_of_ble_eq_true rfl) ⟨Nat.le_refl _, Nat.le_refl _⟩ (fun D8 h8 => ?_)
      obtain ⟨s1, s2⟩ := h8
      refine x_iinc dX8_runOrders_100 rfl (by decide) ?_
      show JX _ _ _ _ _ _ _ _ _ _ _ [_, _] _ _
      refine x_goto (tgt := 76) dX8_runOrders_103 (by decide) ?_
      have f7 : D8 (M + 7) = D (M + 7) := by rw [s2 _ (by omega), w1 _ (by omega) (by omega)]
      refine ih (i + 1) (t + 1) (sAll r2) D8 (by omega) (by omega) (by omega) (by rw [s2 M (by omega), w2 11 (by omega), hN]; omega) (oArr.cong l (i + 1) hA2 (fun j hj => by rw [f7])) s1 hg.2.2.2.all (fun D2 a1 a2 a3 a4 => ?_)
      have K2 := K D2 (by rw [er]; exact a1) (by rw [er]; show D2 M 6 = (if (oRun l (sAll r2)).2.2 = 0 then D M 6 else (oRun l (sAll r2)).2.2); rw [a2, s2 M (by omega), w4]) (fun x p q => by rw [a3 x p q, s2 x q, w1 x p q]) (fun k hk => by rw [a4 k hk, s2 M (by omega), w2 k hk])
      rw [show i + (oRun (o :: l) r).1 = i + 1 + (oRun l (sAll r2)).1 by rw [er]; show i + ((oRun l (sAll r2)).1 + 1) = _; omega] at K2
      exact K2
def jPz (D0 D : JD) (M : Int) : Prop := (∀ y : Int, y ≠ M → y ≠ M + 7 → D y = D0 y) ∧ ∀ z : Int, z ≠ 9 → z ≠ 10 → z ≠ 11 → D M z = D0 M z
theorem jPz.trans {D0 D D2 : JD} {M : Int} (h : jPz D0 D M) (a : ∀ y : Int, y ≠ M → y ≠ M + 7 → D2 y = D y) (b : ∀ z : Int, z ≠ 9 → z ≠ 10 → z ≠ 11 → D2 M z = D M z) : jPz D0 D2 M := ⟨fun y p q => by rw [a y p q, h.1 y p q], fun z p q s => by rw [b z p q s, h.2 z p q s]⟩
def jPg (D0 D : JD) (M : Int) (l : List oOrd) : Prop := oArr D M 0 l ∧ D M 11 = l.length ∧ D M 10 = -100000005 ∧ jPz D0 D M
def jPb (D0 D : JD) (M e : Int) : Prop := D M 10 = e ∧ jPz D0 D M
theorem par_bad {G : JG} {S : JS} {D0 D : JD} {d : Nat} {M e : Int} {Q : Option JV → JS → JD → Prop} (hM : jMo S M) (e0 : 0 ≤ e ∧ e ≤ 60) (hb : jPb D0 D M e) (K : JX G yX8_runOrders cX8_runOrders 2 (some .int) (d + 8) (0, 0) (0, 0) S D 55 [some (.inr (.inr (some M))), none] [] Q) : JX G yX8_runOrders cX8_runOrders 2 (some .int) (d + 8) (0, 0) (0, 0) S D 20 [some (.inr (.inr (some M))), none] [] Q := by
  have mk := hM.1
  have hF := hb.1
  refine x_aload_n dX8_runOrders_20 rfl ?_
  refine gf_RX8_187 dX8_runOrders_21 rfl (by assumption) ?_
  rw [hF]
  refine x_if_ge (tgt := 55) dX8_runOrders_24 (by decide) ⟨by omega, by omega⟩ (fun hb24 => ?_) (fun h => (h (by omega)).elim)
  exact K
theorem par_loop {G : JG} {S : JS} {D0 : JD} {d : Nat} {M n : Int} {f : Int → Int} {Q : Option JV → JS → JD → Prop} (hM : jMo S M) (hn0 : D0 M 7 = n) (hf0 : D0 (M + 6) = f) (n0 : 0 ≤ n) (n1 : n ≤ 60) (fr : ∀ z : Int, 0 ≤ f z ∧ f z ≤ 65535) : ∀ (K : Nat) (q : Int) (acc : List oOrd) (D : JD), n - q ≤ K → 0 < q → q ≤ n → 4 * (acc.length : Int) ≤ q → (q < n → f q = 59) → oArr D M 0 acc → D M 11 = acc.length → D M 10 = -100000005 → D M 9 = q → jPz D0 D M →
    (match (if n ≤ q then .inl [] else oAll f n K q : List oOrd ⊕ Int) with
      | .inl l => ∀ D2 : JD, jPg D0 D2 M (acc ++ l) → JX G yX8_runOrders cX8_runOrders 2 (some .int) (d + 8) (0, 0) (0, 0) S D2 55 [some (.inr (.inr (some M))), none] [] Q
      | .inr e => ∀ D2 : JD, jPb D0 D2 M e → JX G yX8_runOrders cX8_runOrders 2 (some .int) (d + 8) (0, 0) (0, 0) S D2 55 [some (.inr (.inr (some M))), none] [] Q) → JX G yX8_runOrders cX8_runOrders 2 (some .int) (d + 8) (0, 0) (0, 0) S D 20 [some (.inr (.inr (some M))), none] [] Q := by
  obtain ⟨mk, m0, m1, m2, m4, m5, m8, m12, y1, l1, y2, l2, y3, l3, y4, l4, y5, l5, y6, l6, y7, l7⟩ := id hM
  intro K
  induction K with
  | zero =>
    intro q acc D hK q0 q1 h4 hs hA hk hF hq hz HK
    have hn : D M 7 = n := by rw [hz.2 7 (by omega) (by omega) (by omega)]; exact hn0
    have hf : D (M + 6) = f := by rw [hz.1 _ (by omega) (by omega)]; exact hf0
    rw [if_pos (show n ≤ q by omega)] at HK
    have HK2 := HK D ⟨by rw [List.append_nil]; exact hA, by rw [List.append_nil]; exact hk, hF, hz⟩
    refine x_aload_n dX8_runOrders_20 rfl ?_
    refine gf_RX8_187 dX8_runOrders_21 rfl (by assumption) ?_
    rw [hF]
    refine x_if_ge (tgt := 55) dX8_runOrders_24 (by decide) ⟨by omega, by omega⟩ (fun h => absurd h (by omega)) (fun hb24 => ?_)
    refine x_aload_n dX8_runOrders_27 rfl ?_
    refine gf_RX8_190 dX8_runOrders_28 rfl (by assumption) ?_
    rw [hq]
    refine x_aload_n dX8_runOrders_31 rfl ?_
    refine gf_RX8_180 dX8_runOrders_32 rfl (by assumption) ?_
    rw [hn]
    refine x_ic_ge (tgt := 55) dX8_runOrders_35 (by decide) ⟨by omega, by omega⟩ ⟨by omega, by omega⟩ (fun hb35 => ?_) (fun h => (h (by omega)).elim)
    exact HK2
  | succ K ih =>
    intro q acc D hK q0 q1 h4 hs hA hk hF hq hz HK
    have hn : D M 7 = n := by rw [hz.2 7 (by omega) (by omega) (by omega)]; exact hn0
    have hf : D (M + 6) = f := by rw [hz.1 _ (by omega) (by omega)]; exact hf0
    by_cases hnq : n ≤ q
    · rw [if_pos hnq] at HK
      have HK2 := HK D ⟨by rw [List.append_nil]; exact hA, by rw [List.append_nil]; exact hk, hF, hz⟩
      refine x_aload_n dX8_runOrders_20 rfl ?_
      refine gf_RX8_187 dX8_runOrders_21 rfl (by assumption) ?_
      rw [hF]
      refine x_if_ge (tgt := 55) dX8_runOrders_24 (by decide) ⟨by omega, by omega⟩ (fun h => absurd h (by omega)) (fun hb24 => ?_)
      refine x_aload_n dX8_runOrders_27 rfl ?_
      refine gf_RX8_190 dX8_runOrders_28 rfl (by assumption) ?_
      rw [hq]
      refine x_aload_n dX8_runOrders_31 rfl ?_
      refine gf_RX8_180 dX8_runOrders_32 rfl (by assumption) ?_
      rw [hn]
      refine x_ic_ge (tgt := 55) dX8_runOrders_35 (by decide) ⟨by omega, by omega⟩ ⟨by omega, by omega⟩ (fun hb35 => ?_) (fun h => (h (by omega)).elim)
      exact HK2
    · rw [if_neg hnq] at HK
      have ero : oRo f n q = oRd f n (q + 1) := by unfold oRo; rw [if_pos q0, if_pos ⟨by omega, hs (by omega)⟩]
      cases hr : oRd f n (q + 1) with
      | mk x q2 =>
        have hro : oRo f n q = (x, q2) := by rw [ero, hr]
        have qq := oRd_q (f := f) (n := n) (p := q + 1) (by omega)
        rw [hr] at qq
        replace qq : q + 1 ≤ q2 ∧ q2 ≤ n := qq
        cases x with
        | none =>
          have ea : oAll f n (K + 1) q = .inr q2 := by unfold oAll; rw [hro]
          rw [ea] at HK
          replace HK : ∀ D2 : JD, jPb D0 D2 M q2 → JX G yX8_runOrders cX8_runOrders 2 (some .int) (d + 8) (0, 0) (0, 0) S D2 55 [some (.inr (.inr (some M))), none] [] Q := HK
          refine x_aload_n dX8_runOrders_20 rfl ?_
          refine gf_RX8_187 dX8_runOrders_21 rfl (by assumption) ?_
          rw [hF]
          refine x_if_ge (tgt := 55) dX8_runOrders_24 (by decide) ⟨by omega, by omega⟩ (fun h => absurd h (by omega)) (fun hb24 => ?_)
          refine x_aload_n dX8_runOrders_27 rfl ?_
          refine gf_RX8_190 dX8_runOrders_28 rfl (by assumption) ?_
          rw [hq]
          refine x_aload_n dX8_runOrders_31 rfl ?_
          refine gf_RX8_180 dX8_runOrders_32 rfl (by assumption) ?_
          rw [hn]
          refine x_ic_ge (tgt := 55) dX8_runOrders_35 (by decide) ⟨by omega, by omega⟩ ⟨by omega, by omega⟩ (fun h => absurd h (by omega)) (fun hb35 => ?_)
          refine x_aload_n dX8_runOrders_38 rfl ?_
          refine x_dup dX8_runOrders_39 (fun _ h => by cases h) ?_
          refine gf_RX8_190 dX8_runOrders_40 rfl (by assumption) ?_
          rw [hq]
          refine x_iconst dX8_runOrders_43 ?_
          refine x_iadd dX8_runOrders_44 ?_
          refine pf_RX8_190 dX8_runOrders_45 rfl (by assumption) ?_
          refine x_aload_n dX8_runOrders_48 rfl ?_
          refine c_RX8_209p dX8_runOrders_49 rfl (kX8_readOrder (p := q + 1) (F := -100000005) (k := acc.length) hM (by rw [jup_nk (by omega)]; exact hn) (by rw [jup_off (by omega)]; exact hf) n0 n1 fr jup_eq (by omega) (by omega) (by rw [jup_nk (by omega)]; exact hF) ⟨by omega, by omega⟩ (by omega) (by rw [jup_nk (by omega)]; exact hk) (by omega) (by omega)) (by assumption) (Nat.le_of_ble_eq_true rfl) (Nat.le_of_ble_eq_true rfl) ⟨Nat.le_refl _, Nat.le_refl _⟩ (fun D2 h2 => ?_)
          refine x_goto (tgt := 20) dX8_runOrders_52 (by decide) ?_
          obtain ⟨r1, r2, r3, r4⟩ := h2
          rw [hr] at r4
          have hb : jPb D0 D2 M q2 := ⟨r4, hz.trans (fun y a b => by rw [r1 y a b, jup_off a]) (fun z a b e => by rw [r2 z a b e, jup_nk a])⟩
          exact par_bad hM ⟨by omega, by omega⟩ hb (HK D2 hb)
        | some o =>
          have qb := oRd_b (f := f) (n := n) (p := q + 1) (by omega) hr
          have ea : oAll f n (K + 1) q = if n ≤ q2 then .inl [o] else match oAll f n K q2 with | .inl l => .inl (o :: l) | .inr e => .inr e := by
            show (match oRo f n q with | (none, q) => (.inr q : List oOrd ⊕ Int) | (some o, q) => if n ≤ q then .inl [o] else match oAll f n K q with | .inl l => .inl (o :: l) | .inr e => .inr e) = _
            rw [hro]
          rw [ea] at HK
          have hal : (((acc ++ [o]).length : Nat) : Int) = acc.length + 1 := by rw [List.length_append]; rfl
          refine x_aload_n dX8_runOrders_20 rfl ?_
          refine gf_RX8_187 dX8_runOrders_21 rfl (by assumption) ?_
          rw [hF]
          refine x_if_ge (tgt := 55) dX8_runOrders_24 (by decide) ⟨by omega, by omega⟩ (fun h => absurd h (by omega)) (fun hb24 => ?_)
          refine x_aload_n dX8_runOrders_27 rfl ?_
          refine gf_RX8_190 dX8_runOrders_28 rfl (by assumption) ?_
          rw [hq]
          refine x_aload_n dX8_runOrders_31 rfl ?_
          refine gf_RX8_180 dX8_runOrders_32 rfl (by assumption) ?_
          rw [hn]
          refine x_ic_ge (tgt := 55) dX8_runOrders_35 (by decide) ⟨by omega, by omega⟩ ⟨by omega, by omega⟩ (fun h => absurd h (by omega)) (fun hb35 => ?_)
          refine x_aload_n dX8_runOrders_38 rfl ?_
          refine x_dup dX8_runOrders_39 (fun _ h => by cases h) ?_
          refine gf_RX8_190 dX8_runOrders_40 rfl (by assumption) ?_
          rw [hq]
          refine x_iconst dX8_runOrders_43 ?_
          refine x_iadd dX8_runOrders_44 ?_
          refine pf_RX8_190 dX8_runOrders_45 rfl (by assumption) ?_
          refine x_aload_n dX8_runOrders_48 rfl ?_
          refine c_RX8_209p dX8_runOrders_49 rfl (kX8_readOrder (p := q + 1) (F := -100000005) (k := acc.length) hM (by rw [jup_nk (by omega)]; exact hn) (by rw [jup_off (by omega)]; exact hf) n0 n1 fr jup_eq (by omega) (by omega) (by rw [jup_nk (by omega)]; exact hF) ⟨by omega, by omega⟩ (by omega) (by rw [jup_nk (by omega)]; exact hk) (by omega) (by omega)) (by assumption) (Nat.le_of_ble_eq_true rfl) (Nat.le_of_ble_eq_true rfl) ⟨Nat.le_refl _, Nat.le_refl _⟩ (fun D2 h2 => ?_)
          refine x_goto (tgt := 20) dX8_runOrders_52 (by decide) ?_
          obtain ⟨r1, r2, r3, r4⟩ := h2
          rw [hr] at r4
          obtain ⟨x9, x11, w0, w1, w2, x10⟩ := r4
          have hz2 : jPz D0 D2 M := hz.trans (fun y a b => by rw [r1 y a b, jup_off a]) (fun z a b e => by rw [r2 z a b e, jup_nk a])
          have hA2 : oArr D2 M 0 (acc ++ [o]) := oArr.snoc acc 0 acc.length (by omega) (oArr.cong acc 0 hA (fun j hj => by rw [r3 j (by omega), jup_off (by omega)])) w0 w1 w2 qb.2.2
          by_cases hbad : q2 < n ∧ f q2 ≠ 59
          · have eb : oAll f n K q2 = .inr q2 := by
              cases K with
              | zero => omega
              | succ K2 =>
                have e9 : oRo f n q2 = (none, q2) := by unfold oRo; rw [if_pos (by omega), if_neg (fun w => hbad.2 w.2)]
                unfold oAll
                rw [e9]
            rw [if_neg (by omega), eb] at HK
            replace HK : ∀ D2 : JD, jPb D0 D2 M q2 → JX G yX8_runOrders cX8_runOrders 2 (some .int) (d + 8) (0, 0) (0, 0) S D2 55 [some (.inr (.inr (some M))), none] [] Q := HK
            have hb : jPb D0 D2 M q2 := ⟨by rw [x10]; exact if_pos hbad, hz2⟩
            exact par_bad hM ⟨by omega, by omega⟩ hb (HK D2 hb)
          · refine ih q2 (acc ++ [o]) D2 (by omega) (by omega) (by omega) (by omega) (fun w => Classical.byContradiction (fun w2 => hbad ⟨w, w2⟩)) hA2 (by rw [hal]; exact x11) (by rw [x10]; exact if_neg hbad) x9 hz2 ?_
            by_cases hq2 : n ≤ q2
            · rw [if_pos hq2] at HK ⊢
              show ∀ D2 : JD, jPg D0 D2 M (acc ++ [o] ++ []) → _
              rw [List.append_nil]
              exact HK
            · rw [if_neg hq2] at HK ⊢
              cases hh : oAll f n K q2 with
              | inr e => rw [hh] at HK; exact HK
              | inl l =>
                rw [hh] at HK
                show ∀ D2 : JD, jPg D0 D2 M (acc ++ [o] ++ l) → _
                rw [List.append_assoc]
                exact HK
