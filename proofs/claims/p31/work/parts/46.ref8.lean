/-! THE REFERENCE: what an act does ahead of the history and of sharing -/
def jDo (D : JD) (M : Int) (r : Int → Int) (z : Zr) (w : JV) (D2 : JD) : Prop :=
  w = .inl z.1 ∧ (∀ x : Int, x ≠ M → x ≠ M + 1 → D2 x = D x) ∧ (∀ k : Int, k ≠ 6 → D2 M k = D M k) ∧ D2 (M + 1) = (match z.2.1 with | some r2 => r2 | none => r) ∧ D2 M 6 = (if z.2.2 = 0 then D M 6 else z.2.2)
theorem jDo_none {D : JD} {M v : Int} {r : Int → Int} (hr : D (M + 1) = r) : jDo D M r (v, none, 0) (.inl v) D := ⟨rfl, fun _ _ _ => rfl, fun _ _ => rfl, hr, by rw [if_pos rfl]⟩
theorem jDo_ref {D : JD} {M v e : Int} {r : Int → Int} (hr : D (M + 1) = r) (he : e ≠ 0) : jDo D M r (v, none, e) (.inl v) (jup D M 6 e) :=
  ⟨rfl, fun x h _ => jup_off h, fun k h => jup_nk h, by rw [jup_off (by omega)]; exact hr, by show jup D M 6 e M 6 = (if e = 0 then D M 6 else e); rw [if_neg he, jup_eq]⟩
theorem jDo_some {D : JD} {M v k x : Int} {r : Int → Int} (hr : D (M + 1) = r) : jDo D M r (v, some (rup r k x), 0) (.inl v) (jup D (M + 1) k x) :=
  ⟨rfl, fun x _ h => jup_off h, fun k _ => by rw [jup_ne (by omega)], by rw [jup_row, hr], by rw [jup_ne (by omega), if_pos rfl]⟩
def zDoSluice (c g : Int) (r : Int → Int) : Zr := if (0 ≤ c ∧ c < r 1) ∧ (g = 0 ∨ g = 1) then (if r (29 + 11 * c) < 0 then (0, some (sSh r c g), 0) else (-100000003, none, 1)) else (-100000001, none, 0)
def zDoOpen (c g : Int) (r : Int → Int) : Zr := if (0 ≤ c ∧ c < r 1) ∧ (g = 0 ∨ g = 1) then (if r (29 + 11 * c) < 0 then (if sLv r (100 + c) - sLv r (c + g) ≤ 2 ∧ sLv r (c + g) - sLv r (100 + c) ≤ 2 then (0, some (rup r (29 + 11 * c) g), 0) else (-100000003, none, 3)) else (-100000003, none, 1)) else (-100000001, none, 0)