/-! THE REFERENCE: its history; the end of an act -/
def jMh (D : JD) (M n : Int) (hs : Int → Int → Int) : Prop := D M 3 = n ∧ 0 ≤ n ∧ n ≤ 5 ∧ ∀ k j : Int, 0 ≤ k → k < n → 0 ≤ j → j < 213 → D (M + 3) (213 * k + j) = hs k j
def jMr (D0 : JD) (M m : Int) (r : Int → Int) (D2 : JD) : Prop := D2 M 3 = m + 1 ∧ (∀ k : Int, k ≠ 3 → D2 M k = D0 M k) ∧ (∀ x : Int, x ≠ M → x ≠ M + 3 → D2 x = D0 x) ∧ (∀ j : Int, 0 ≤ j → j < 213 * m → D2 (M + 3) j = D0 (M + 3) j) ∧ ∀ j : Int, 0 ≤ j → j < 213 → D2 (M + 3) (213 * m + j) = r j
theorem jMh.frame {D D2 : JD} {M n : Int} {hs : Int → Int → Int} (h : jMh D M n hs) (e3 : D2 M 3 = D M 3) (e : D2 (M + 3) = D (M + 3)) : jMh D2 M n hs := by
  obtain ⟨a1, a2, a3, a4⟩ := h
  exact ⟨by rw [e3]; exact a1, a2, a3, fun k j x y z w => by rw [e]; exact a4 k j x y z w⟩
/-- an act's end on the reference -/
def jRf (D : JD) (M n : Int) (hs : Int → Int → Int) (r : Int → Int) (z : Zr) (w : JV) (D2 : JD) : Prop :=
  w = .inl z.1 ∧ (∀ x : Int, x ≠ M → x ≠ M + 1 → x ≠ M + 2 → x ≠ M + 3 → D2 x = D x) ∧ (∀ k : Int, k ≠ 3 → k ≠ 6 → D2 M k = D M k) ∧ (match z.2.1 with
    | some r2 => D2 (M + 1) = sAll r2 ∧ jMh D2 M (sRecN n) (sRecH n hs r) ∧ D2 M 6 = D M 6
    | none => D2 (M + 1) = r ∧ jMh D2 M n hs ∧ D2 M 6 = (if z.2.2 = 0 then D M 6 else z.2.2))
/-- a good answer: told, or a state with its new row -/
def zGood (t : Int) (z : Zr) : Prop := match z.2.1 with
  | some r2 => 0 ≤ z.1 ∧ z.1 ≤ 1000000000 ∧ z.2.2 = 0 ∧ rIn (t + 1) r2
  | none => z.1 ≤ -100000001 ∧ -100000005 ≤ z.1
theorem zGood_s {t v : Int} {r2 : Int → Int} (h0 : 0 ≤ v) (h1 : v ≤ 1000000000) (h : rIn (t + 1) r2) : zGood t (v, some r2, 0) := ⟨h0, h1, rfl, h⟩
theorem zGood_n {t v e : Int} (h0 : v ≤ -100000001) (h1 : -100000005 ≤ v) : zGood t (v, none, e) := ⟨h0, h1⟩
theorem jRf.from {D D1 : JD} {M n : Int} {hs : Int → Int → Int} {r : Int → Int} {z : Zr} {w : JV} {D2 : JD} (h : jRf D1 M n hs r z w D2) (e : ∀ x : Int, x ≠ M + 2 → D1 x = D x) : jRf D M n hs r z w D2 := by
  obtain ⟨h1, h2, h3, h4⟩ := h
  have eM : D1 M = D M := e M (by omega)
  refine ⟨h1, fun x a b c y => by rw [h2 x a b c y, e x c], fun k a b => by rw [h3 k a b, eM], ?_⟩
  rw [eM] at h4
  exact h4
theorem jRf_none {D : JD} {M n : Int} {hs : Int → Int → Int} {r : Int → Int} {v : Int} (hr : D (M + 1) = r) (hm : jMh D M n hs) : jRf D M n hs r (v, none, 0) (.inl v) D := ⟨rfl, fun _ _ _ _ _ => rfl, fun _ _ _ => rfl, hr, hm, by rw [if_pos rfl]⟩
theorem jRf_ref {D : JD} {M n : Int} {hs : Int → Int → Int} {r : Int → Int} {v e : Int} (hr : D (M + 1) = r) (hm : jMh D M n hs) (he : e ≠ 0) : jRf D M n hs r (v, none, e) (.inl v) (jup D M 6 e) :=
  ⟨rfl, fun x h _ _ _ => jup_off h, fun k _ h => jup_nk h, by rw [jup_off (by omega)]; exact hr, hm.frame (jup_nk (by omega)) (jup_off (by omega)), by show jup D M 6 e M 6 = (if e = 0 then D M 6 else e); rw [if_neg he, jup_eq]⟩