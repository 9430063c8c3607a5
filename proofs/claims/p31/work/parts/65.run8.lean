/-! ORDERS ARE CARRIED OUT; the reference's runOrders -/
def zOrd (o : oOrd) (r : Int → Int) : Zr := if o.1 = 0 then zSluice o.2.1 o.2.2 r else if o.1 = 1 then zOpen o.2.1 o.2.2 r else if o.1 = 2 then zClose o.2.1 r else if o.1 = 3 then zEnter o.2.1 o.2.2 r else if o.1 = 4 then zLeave o.2.1 o.2.2 r else if o.1 = 5 then zLoad o.2.1 o.2.2 r else zPump o.2.1 o.2.2 r
def zDoOrd (o : oOrd) (r : Int → Int) : Zr := if o.1 = 0 then zDoSluice o.2.1 o.2.2 r else if o.1 = 1 then zDoOpen o.2.1 o.2.2 r else if o.1 = 2 then zClose o.2.1 r else if o.1 = 3 then zEnter o.2.1 o.2.2 r else if o.1 = 4 then zLeave o.2.1 o.2.2 r else if o.1 = 5 then zLoad o.2.1 o.2.2 r else zPump o.2.1 o.2.2 r
theorem zDoOrd_2 (o : oOrd) (r : Int → Int) : (zDoOrd o r).2 = (zOrd o r).2 := by
  unfold zDoOrd zOrd
  by_cases h0 : o.1 = 0
  · rw [if_pos h0, if_pos h0]
    unfold zDoSluice zSluice
    split
    · split <;> rfl
    · rfl
  rw [if_neg h0, if_neg h0]
  by_cases h1 : o.1 = 1
  · rw [if_pos h1, if_pos h1]
    unfold zDoOpen zOpen
    split
    · split
      · split <;> rfl
      · rfl
    · rfl
  rw [if_neg h1, if_neg h1]
theorem zDoOrd_good {t : Int} {o : oOrd} {r : Int → Int} (hI : rIn t r) : zGood t (zDoOrd o r) := by
  unfold zDoOrd
  split
  · exact zDoSluice_good hI
  split
  · exact zDoOpen_good hI
  split
  · exact zClose_good hI
  split
  · exact zEnter_good hI
  split
  · exact zLeave_good hI
  split
  · exact zLoad_good hI
  · exact zPump_good hI
theorem rIn.lvc {t c : Int} {r : Int → Int} (hI : rIn t r) (ht : t ≤ 60000) (c0 : 0 ≤ c) (c1 : c < r 1) : 0 ≤ sLv (sAll r) (100 + c) ∧ sLv (sAll r) (100 + c) ≤ 710000000 := by
  have b1 := hI.1
  have hIa := hI.all
  have e1 : sAll r 1 = r 1 := hI.keep (by omega)
  have hp : rPl (sAll r) (100 + c) := Or.inr ⟨by omega, by omega⟩
  obtain ⟨wo, wm, -⟩ := hIa.wat ht hp
  have dp := hIa.dp wo wm
  omega
theorem zOrd_good {t : Int} {o : oOrd} {r : Int → Int} (hI : rIn t r) (ht : t + 1 ≤ 60000) : zGood t (zOrd o r) := by
  have b1 := hI.1
  unfold zOrd
  by_cases h0 : o.1 = 0
  · rw [if_pos h0]
    unfold zSluice
    by_cases h : (0 ≤ o.2.1 ∧ o.2.1 < r 1) ∧ (o.2.2 = 0 ∨ o.2.2 = 1)
    · rw [if_pos h]
      by_cases hv : r (29 + 11 * o.2.1) < 0
      · rw [if_pos hv]
        have hI2 := hI.share h.1.1 h.1.2 h.2
        have lv := hI2.lvc (c := o.2.1) (by omega) h.1.1 (by rw [sSh_o (by omega) (by omega)]; exact h.1.2)
        exact zGood_s lv.1 (by omega) (hI2.mono (by omega))
      · rw [if_neg hv]; exact zGood_n (by omega) (by omega)
    · rw [if_neg h]; exact zGood_n (by omega) (by omega)
  rw [if_neg h0]
  by_cases h1 : o.1 = 1
  · rw [if_pos h1]
    unfold zOpen
    by_cases h : (0 ≤ o.2.1 ∧ o.2.1 < r 1) ∧ (o.2.2 = 0 ∨ o.2.2 = 1)
    · rw [if_pos h]
      by_cases hv : r (29 + 11 * o.2.1) < 0
      · rw [if_pos hv]
        by_cases hl : sLv r (100 + o.2.1) - sLv r (o.2.1 + o.2.2) ≤ 2 ∧ sLv r (o.2.1 + o.2.2) - sLv r (100 + o.2.1) ≤ 2
        · rw [if_pos hl]
          have hI2 := hI.own (k := 29 + 11 * o.2.1) (v := o.2.2) h.1.1 h.1.2 (by omega)
          have lv := hI2.lvc (c := o.2.1) (by omega) h.1.1 (by rw [rup_ne (by omega)]; exact h.1.2)
          exact zGood_s lv.1 (by omega) (hI2.mono (by omega))
        · rw [if_neg hl]; exact zGood_n (by omega) (by omega)
      · rw [if_neg hv]; exact zGood_n (by omega) (by omega)
    · rw [if_neg h]; exact zGood_n (by omega) (by omega)
  rw [if_neg h1]
  split
  · exact zClose_good hI
  split
  · exact zEnter_good hI
  split
  · exact zLeave_good hI
  split
  · exact zLoad_good hI
  · exact zPump_good hI
/-- how many are carried out, the row then, the reason of a refusal (or 0) -/
def oRun : List oOrd → (Int → Int) → Int × (Int → Int) × Int
  | [], r => (0, r, 0)
  | o :: l, r => match (zOrd o r).2.1 with
    | some r2 => ((oRun l (sAll r2)).1 + 1, (oRun l (sAll r2)).2)
    | none => (0, r, (zOrd o r).2.2)
theorem oRun_some {o : oOrd} {l : List oOrd} {r r2 : Int → Int} (h : (zOrd o r).2.1 = some r2) : oRun (o :: l) r = ((oRun l (sAll r2)).1 + 1, (oRun l (sAll r2)).2) := by
  unfold oRun
  rw [h]
  cases l <;> rfl
theorem oRun_none {o : oOrd} {l : List oOrd} {r : Int → Int} (h : (zOrd o r).2.1 = none) : oRun (o :: l) r = (0, r, (zOrd o r).2.2) := by
  unfold oRun
  rw [h]
theorem oRun_b : ∀ (l : List oOrd) (t : Int) (r : Int → Int), rIn t r → t + l.length ≤ 60000 → 0 ≤ (oRun l r).1 ∧ (oRun l r).1 ≤ l.length ∧ rIn (t + l.length) (oRun l r).2.1
  | [], t, r, hI, ht => by
    show 0 ≤ (0 : Int) ∧ (0 : Int) ≤ 0 ∧ rIn (t + 0) r
    exact ⟨by omega, by omega, by rw [Int.add_zero]; exact hI⟩
  | o :: l, t, r, hI, ht => by
    have hl : (((o :: l).length : Nat) : Int) = l.length + 1 := by rw [List.length_cons]; omega
    rw [hl] at ht ⊢
    have hg := zOrd_good (o := o) hI (by omega)
    unfold zGood at hg
    cases h : (zOrd o r).2.1 with
    | none =>
      rw [oRun_none h]
      exact ⟨by show (0 : Int) ≤ 0; omega, by show (0 : Int) ≤ _; omega, hI.mono (by omega)⟩
    | some r2 =>
      rw [h] at hg
      rw [oRun_some h]
      have ih := oRun_b l (t + 1) (sAll r2) hg.2.2.2.all (by omega)
      exact ⟨by show 0 ≤ (oRun l (sAll r2)).1 + 1; omega, by show (oRun l (sAll r2)).1 + 1 ≤ _; omega, by show rIn _ (oRun l (sAll r2)).2.1; exact ih.2.2.mono (by omega)⟩
def oArr (D : JD) (M : Int) : Int → List oOrd → Prop
  | _, [] => True
  | i, o :: l => D (M + 7) (3 * i) = o.1 ∧ D (M + 7) (3 * i + 1) = o.2.1 ∧ D (M + 7) (3 * i + 2) = o.2.2 ∧ oOk o ∧ oArr D M (i + 1) l
theorem oArr.cong {D D2 : JD} {M : Int} : ∀ (l : List oOrd) (i : Int), oArr D M i l → (∀ j : Int, j < 3 * (i + l.length) → D2 (M + 7) j = D (M + 7) j) → oArr D2 M i l
  | [], _, _, _ => trivial
  | o :: l, i, h, e => by
    have hl : (((o :: l).length : Nat) : Int) = l.length + 1 := by rw [List.length_cons]; omega
    rw [hl] at e
    obtain ⟨a, b, c, k, h2⟩ := h
    exact ⟨by rw [e _ (by omega)]; exact a, by rw [e _ (by omega)]; exact b, by rw [e _ (by omega)]; exact c, k, oArr.cong l (i + 1) h2 (fun j hj => e j (by omega))⟩
theorem oArr.snoc {D : JD} {M : Int} {o : oOrd} : ∀ (l : List oOrd) (i k : Int), k = i + l.length → oArr D M i l → D (M + 7) (3 * k) = o.1 → D (M + 7) (3 * k + 1) = o.2.1 → D (M + 7) (3 * k + 2) = o.2.2 → oOk o → oArr D M i (l ++ [o])
  | [], i, k, hk, _, a, b, c, g => by
    have e : k = i := by rw [hk, List.length_nil]; omega
    subst e
    exact ⟨a, b, c, g, trivial⟩
  | x :: l, i, k, hk, h, a, b, c, g => by
    have hl : (((x :: l).length : Nat) : Int) = l.length + 1 := by rw [List.length_cons]; omega
    rw [hl] at hk
    obtain ⟨h1, h2, h3, h4, h5⟩ := h
    exact ⟨h1, h2, h3, h4, oArr.snoc l (i + 1) k (by omega) h5 a b c g⟩
def jPz (D0 D : JD) (M : Int) : Prop := (∀ y : Int, y ≠ M → y ≠ M + 7 → D y = D0 y) ∧ ∀ z : Int, z ≠ 9 → z ≠ 10 → z ≠ 11 → D M z = D0 M z
theorem jPz.trans {D0 D D2 : JD} {M : Int} (h : jPz D0 D M) (a : ∀ y : Int, y ≠ M → y ≠ M + 7 → D2 y = D y) (b : ∀ z : Int, z ≠ 9 → z ≠ 10 → z ≠ 11 → D2 M z = D M z) : jPz D0 D2 M := ⟨fun y p q => by rw [a y p q, h.1 y p q], fun z p q s => by rw [b z p q s, h.2 z p q s]⟩
def jPg (D0 D : JD) (M : Int) (l : List oOrd) : Prop := oArr D M 0 l ∧ D M 11 = l.length ∧ D M 10 = -100000005 ∧ jPz D0 D M
def jPb (D0 D : JD) (M e : Int) : Prop := D M 10 = e ∧ jPz D0 D M