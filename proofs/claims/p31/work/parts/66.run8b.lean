/-! THE REFERENCE: runOrders -/
theorem oSeq_len {f : Int → Int} {n : Int} : ∀ (l : List oOrd) (p : Int), p ≤ n → oSeq f n l p → p + 5 * l.length ≤ n
  | [], p, hp, _ => by rw [List.length_nil]; omega
  | o :: l, p, hp, h => by
    obtain ⟨h1, q, h2, h3⟩ := h
    have hl : (((o :: l).length : Nat) : Int) = l.length + 1 := by rw [List.length_cons]; omega
    have qb := oRo_b hp h2
    have ih := oSeq_len l q qb.2.1 h3
    omega
/-- the end of runOrders: N states in the history hs, the row r, the orders or the fault -/
def jRu (D : JD) (M N : Int) (hs : Int → Int → Int) (r : Int → Int) (res : List oOrd ⊕ Int) (w : JV) (D2 : JD) : Prop :=
  (∀ x : Int, x ≠ M → x ≠ M + 1 → x ≠ M + 2 → x ≠ M + 3 → x ≠ M + 7 → D2 x = D x) ∧ D2 M 7 = D M 7 ∧ (match res with
    | .inl l => w = .inl (oRun l r).1 ∧ D2 (M + 1) = sAll (oRun l r).2.1 ∧ jMh D2 M (sRecN N) (sRecH N hs r) ∧ D2 M 6 = (if (oRun l r).2.2 = 0 then D M 6 else (oRun l r).2.2)
    | .inr e => w = .inl (-100 - e) ∧ D2 (M + 1) = r ∧ jMh D2 M N hs ∧ D2 M 6 = D M 6)