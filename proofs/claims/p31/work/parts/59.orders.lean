/-! WHAT A TEXT OF ORDERS SAYS (f: its signs, n: its length) -/
def oEn (f : Int → Int) (n : Int) : Nat → Int → Int
  | 0, p => p
  | k + 1, p => if n ≤ p ∨ f p = 32 ∨ f p = 59 then p else oEn f n k (p + 1)
/-- the end of the token that begins at p -/
def oE (f : Int → Int) (n p : Int) : Int := oEn f n (n - p).toNat p
theorem oEn_b {f : Int → Int} {n : Int} : ∀ (k : Nat) (p : Int), p + k ≤ n → p ≤ oEn f n k p ∧ oEn f n k p ≤ n
  | 0, p, h => by
    show p ≤ p ∧ p ≤ n
    omega
  | k + 1, p, h => by
    show p ≤ (if n ≤ p ∨ f p = 32 ∨ f p = 59 then p else oEn f n k (p + 1)) ∧ (if n ≤ p ∨ f p = 32 ∨ f p = 59 then p else oEn f n k (p + 1)) ≤ n
    have ih := oEn_b (f := f) (n := n) k (p + 1) (by omega)
    split <;> omega
theorem oE_b {f : Int → Int} {n p : Int} (h : p ≤ n) : p ≤ oE f n p ∧ oE f n p ≤ n := oEn_b _ _ (by omega)
/-- the words -/
abbrev oC0 (f : Int → Int) (p e : Int) : Prop := e - p = 6 ∧ f p = 115 ∧ f (p + 1) = 108 ∧ f (p + 2) = 117 ∧ f (p + 3) = 105 ∧ f (p + 4) = 99 ∧ f (p + 5) = 101
abbrev oC1 (f : Int → Int) (p e : Int) : Prop := e - p = 4 ∧ f p = 111 ∧ f (p + 1) = 112 ∧ f (p + 2) = 101 ∧ f (p + 3) = 110
abbrev oC2 (f : Int → Int) (p e : Int) : Prop := e - p = 5 ∧ f p = 99 ∧ f (p + 1) = 108 ∧ f (p + 2) = 111 ∧ f (p + 3) = 115 ∧ f (p + 4) = 101
abbrev oC3 (f : Int → Int) (p e : Int) : Prop := e - p = 5 ∧ f p = 101 ∧ f (p + 1) = 110 ∧ f (p + 2) = 116 ∧ f (p + 3) = 101 ∧ f (p + 4) = 114
abbrev oC4 (f : Int → Int) (p e : Int) : Prop := e - p = 5 ∧ f p = 108 ∧ f (p + 1) = 101 ∧ f (p + 2) = 97 ∧ f (p + 3) = 118 ∧ f (p + 4) = 101
abbrev oC5 (f : Int → Int) (p e : Int) : Prop := e - p = 4 ∧ f p = 108 ∧ f (p + 1) = 111 ∧ f (p + 2) = 97 ∧ f (p + 3) = 100
abbrev oC6 (f : Int → Int) (p e : Int) : Prop := e - p = 4 ∧ f p = 112 ∧ f (p + 1) = 117 ∧ f (p + 2) = 109 ∧ f (p + 3) = 112
def oW (f : Int → Int) (p e : Int) : Int := if oC6 f p e then 6 else if oC5 f p e then 5 else if oC4 f p e then 4 else if oC3 f p e then 3 else if oC2 f p e then 2 else if oC1 f p e then 1 else if oC0 f p e then 0 else -1
theorem oW_r (f : Int → Int) (p e : Int) : oW f p e = -1 ∨ (0 ≤ oW f p e ∧ oW f p e ≤ 6 ∧ p + 4 ≤ e) := by
  unfold oW
  by_cases h6 : oC6 f p e
  · rw [if_pos h6]; unfold oC6 at h6; omega
  rw [if_neg h6]
  by_cases h5 : oC5 f p e
  · rw [if_pos h5]; unfold oC5 at h5; omega
  rw [if_neg h5]
  by_cases h4 : oC4 f p e
  · rw [if_pos h4]; unfold oC4 at h4; omega
  rw [if_neg h4]
  by_cases h3 : oC3 f p e
  · rw [if_pos h3]; unfold oC3 at h3; omega
  rw [if_neg h3]
  by_cases h2 : oC2 f p e
  · rw [if_pos h2]; unfold oC2 at h2; omega
  rw [if_neg h2]
  by_cases h1 : oC1 f p e
  · rw [if_pos h1]; unfold oC1 at h1; omega
  rw [if_neg h1]
  by_cases h0 : oC0 f p e
  · rw [if_pos h0]; unfold oC0 at h0; omega
  rw [if_neg h0]
  omega
/-- digits -/
def oDg (f : Int → Int) : Nat → Int → Int → Option Int
  | 0, _, v => some v
  | k + 1, p, v => if 48 ≤ f p ∧ f p ≤ 57 then oDg f k (p + 1) (v * 10 + (f p - 48)) else none
/-- a number behind a blank at p: its value and where it ends, or the fault -/
def oNm (f : Int → Int) (n p least most : Int) : Option Int × Int :=
  if p < n ∧ f p = 32 then
    (if oE f n (p + 1) = p + 1 ∨ 3 < oE f n (p + 1) - (p + 1) then (none, p + 1)
     else match oDg f (oE f n (p + 1) - (p + 1)).toNat (p + 1) 0 with
      | some v => if least ≤ v ∧ v ≤ most then (some v, oE f n (p + 1)) else (none, p + 1)
      | none => (none, p + 1))
  else (none, p)
theorem oNm_b {f : Int → Int} {n p least most v q : Int} (hp : p ≤ n) (h : oNm f n p least most = (some v, q)) : p + 2 ≤ q ∧ q ≤ n ∧ least ≤ v ∧ v ≤ most := by
  unfold oNm at h
  by_cases h1 : p < n ∧ f p = 32
  · rw [if_pos h1] at h
    have hb := oE_b (f := f) (n := n) (p := p + 1) (by omega)
    by_cases h2 : oE f n (p + 1) = p + 1 ∨ 3 < oE f n (p + 1) - (p + 1)
    · rw [if_pos h2] at h; cases h
    · rw [if_neg h2] at h
      cases h3 : oDg f (oE f n (p + 1) - (p + 1)).toNat (p + 1) 0 with
      | none => rw [h3] at h; cases h
      | some w =>
        rw [h3] at h
        by_cases h4 : least ≤ w ∧ w ≤ most
        · have h' : (if least ≤ w ∧ w ≤ most then ((some w, oE f n (p + 1)) : Option Int × Int) else (none, p + 1)) = (some v, q) := h
          rw [if_pos h4] at h'
          cases h'
          omega
        · have h' : (if least ≤ w ∧ w ≤ most then ((some w, oE f n (p + 1)) : Option Int × Int) else (none, p + 1)) = (some v, q) := h
          rw [if_neg h4] at h'
          cases h'
  · rw [if_neg h1] at h; cases h
theorem oNm_q {f : Int → Int} {n p least most : Int} (hp : p ≤ n) : p ≤ (oNm f n p least most).2 ∧ (oNm f n p least most).2 ≤ n := by
  cases h : oNm f n p least most with
  | mk a q =>
    cases a with
    | some v => have := oNm_b hp h; show p ≤ q ∧ q ≤ n; omega
    | none =>
      show p ≤ q ∧ q ≤ n
      unfold oNm at h
      by_cases h1 : p < n ∧ f p = 32
      · rw [if_pos h1] at h
        by_cases h2 : oE f n (p + 1) = p + 1 ∨ 3 < oE f n (p + 1) - (p + 1)
        · rw [if_pos h2] at h; cases h; omega
        · rw [if_neg h2] at h
          cases h3 : oDg f (oE f n (p + 1) - (p + 1)).toNat (p + 1) 0 with
          | none => rw [h3] at h; cases h; omega
          | some w =>
            rw [h3] at h
            have h' : (if least ≤ w ∧ w ≤ most then ((some w, oE f n (p + 1)) : Option Int × Int) else (none, p + 1)) = (none, q) := h
            by_cases h4 : least ≤ w ∧ w ≤ most
            · rw [if_pos h4] at h'; cases h'
            · rw [if_neg h4] at h'; cases h'; omega
      · rw [if_neg h1] at h; cases h; omega
abbrev oOrd : Type := Int × Int × Int
def oM1 (w : Int) : Int := if w = 3 ∨ 4 < w then 11 else 3
def oL2 (w : Int) : Int := if 4 < w then 1 else 0
def oM2 (w : Int) : Int := if w = 3 then 3 else if 4 < w then 999 else 1
/-- an order behind its word w, which ends at e -/
def oAr (f : Int → Int) (n e w : Int) : Option oOrd × Int :=
  match oNm f n e 0 (oM1 w) with
  | (none, q) => (none, q)
  | (some a, q) => if w = 2 then (some (w, a, 0), q) else
    match oNm f n q (oL2 w) (oM2 w) with
    | (none, q2) => (none, q2)
    | (some b, q2) => (some (w, a, b), q2)
/-- an order that begins at p -/
def oRd (f : Int → Int) (n p : Int) : Option oOrd × Int := if oW f p (oE f n p) < 0 then (none, p) else oAr f n (oE f n p) (oW f p (oE f n p))
/-- an order, with the ";" ahead of it if it isn't the first -/
def oRo (f : Int → Int) (n p : Int) : Option oOrd × Int := if 0 < p then (if p < n ∧ f p = 59 then oRd f n (p + 1) else (none, p)) else oRd f n p
/-- what an order may be -/
def oOk (o : oOrd) : Prop := 0 ≤ o.1 ∧ o.1 ≤ 6 ∧ 0 ≤ o.2.1 ∧ o.2.1 ≤ 11 ∧ 0 ≤ o.2.2 ∧ o.2.2 ≤ 999
theorem oAr_b {f : Int → Int} {n e w : Int} {o : oOrd} {q : Int} (he : e ≤ n) (hw : 0 ≤ w ∧ w ≤ 6) (h : oAr f n e w = (some o, q)) : e < q ∧ q ≤ n ∧ oOk o ∧ o.1 = w := by
  unfold oAr at h
  cases h1 : oNm f n e 0 (oM1 w) with
  | mk a q1 =>
    rw [h1] at h
    cases a with
    | none => cases h
    | some a =>
      obtain ⟨b1, b2, b3, b4⟩ := oNm_b he h1
      have m1 : oM1 w ≤ 11 := by unfold oM1; split <;> omega
      have h' : (if w = 2 then ((some (w, a, 0), q1) : Option oOrd × Int) else match oNm f n q1 (oL2 w) (oM2 w) with | (none, q2) => (none, q2) | (some b, q2) => (some (w, a, b), q2)) = (some o, q) := h
      by_cases h2 : w = 2
      · rw [if_pos h2] at h'
        cases h'
        exact ⟨by omega, by omega, ⟨by show 0 ≤ w; omega, by show w ≤ 6; omega, by show 0 ≤ a; omega, by show a ≤ 11; omega, by show (0 : Int) ≤ 0; omega, by show (0 : Int) ≤ 999; omega⟩, rfl⟩
      · rw [if_neg h2] at h'
        cases h3 : oNm f n q1 (oL2 w) (oM2 w) with
        | mk b q2 =>
          rw [h3] at h'
          cases b with
          | none => cases h'
          | some b =>
            obtain ⟨c1, c2, c3, c4⟩ := oNm_b b2 h3
            have m2 : 0 ≤ oL2 w := by unfold oL2; split <;> omega
            have m3 : oM2 w ≤ 999 := by unfold oM2; split; omega; split <;> omega
            cases h'
            exact ⟨by omega, by omega, ⟨by show 0 ≤ w; omega, by show w ≤ 6; omega, by show 0 ≤ a; omega, by show a ≤ 11; omega, by show 0 ≤ b; omega, by show b ≤ 999; omega⟩, rfl⟩
theorem oAr_q {f : Int → Int} {n e w : Int} (he : e ≤ n) : e ≤ (oAr f n e w).2 ∧ (oAr f n e w).2 ≤ n := by
  unfold oAr
  have h0 := oNm_q (f := f) (least := 0) (most := oM1 w) he
  cases h1 : oNm f n e 0 (oM1 w) with
  | mk a q1 =>
    rw [h1] at h0
    have h0' : e ≤ q1 ∧ q1 ≤ n := h0
    cases a with
    | none => exact h0'
    | some a =>
      show e ≤ (if w = 2 then ((some (w, a, 0), q1) : Option oOrd × Int) else match oNm f n q1 (oL2 w) (oM2 w) with | (none, q2) => (none, q2) | (some b, q2) => (some (w, a, b), q2)).2 ∧ (if w = 2 then ((some (w, a, 0), q1) : Option oOrd × Int) else match oNm f n q1 (oL2 w) (oM2 w) with | (none, q2) => (none, q2) | (some b, q2) => (some (w, a, b), q2)).2 ≤ n
      by_cases h2 : w = 2
      · rw [if_pos h2]; exact h0'
      · rw [if_neg h2]
        have g0 := oNm_q (f := f) (least := oL2 w) (most := oM2 w) h0'.2
        cases h3 : oNm f n q1 (oL2 w) (oM2 w) with
        | mk b q2 =>
          rw [h3] at g0
          have g0' : q1 ≤ q2 ∧ q2 ≤ n := g0
          cases b with
          | none => show e ≤ q2 ∧ q2 ≤ n; omega
          | some b => show e ≤ q2 ∧ q2 ≤ n; omega
theorem oRd_b {f : Int → Int} {n p : Int} {o : oOrd} {q : Int} (hp : p ≤ n) (h : oRd f n p = (some o, q)) : p + 5 ≤ q ∧ q ≤ n ∧ oOk o := by
  unfold oRd at h
  have hb := oE_b (f := f) hp
  have hw := oW_r f p (oE f n p)
  by_cases h1 : oW f p (oE f n p) < 0
  · rw [if_pos h1] at h; cases h
  · rw [if_neg h1] at h
    obtain ⟨g1, g2, g3, g4⟩ := oAr_b hb.2 (by omega) h
    exact ⟨by omega, g2, g3⟩
theorem oRd_q {f : Int → Int} {n p : Int} (hp : p ≤ n) : p ≤ (oRd f n p).2 ∧ (oRd f n p).2 ≤ n := by
  unfold oRd
  have hb := oE_b (f := f) hp
  by_cases h1 : oW f p (oE f n p) < 0
  · rw [if_pos h1]; show p ≤ p ∧ p ≤ n; omega
  · rw [if_neg h1]
    have := oAr_q (f := f) (w := oW f p (oE f n p)) hb.2
    omega
theorem oRo_b {f : Int → Int} {n p : Int} {o : oOrd} {q : Int} (hp : p ≤ n) (h : oRo f n p = (some o, q)) : p + 5 ≤ q ∧ q ≤ n ∧ oOk o := by
  unfold oRo at h
  by_cases h1 : 0 < p
  · rw [if_pos h1] at h
    by_cases h2 : p < n ∧ f p = 59
    · rw [if_pos h2] at h
      obtain ⟨g1, g2, g3⟩ := oRd_b (by omega) h
      exact ⟨by omega, g2, g3⟩
    · rw [if_neg h2] at h; cases h
  · rw [if_neg h1] at h
    exact oRd_b hp h
theorem oRo_q {f : Int → Int} {n p : Int} (hp : p ≤ n) : p ≤ (oRo f n p).2 ∧ (oRo f n p).2 ≤ n := by
  unfold oRo
  by_cases h1 : 0 < p
  · rw [if_pos h1]
    by_cases h2 : p < n ∧ f p = 59
    · rw [if_pos h2]
      have := oRd_q (f := f) (n := n) (p := p + 1) (by omega)
      omega
    · rw [if_neg h2]; show p ≤ p ∧ p ≤ n; omega
  · rw [if_neg h1]
    exact oRd_q hp
/-- all orders from p on, or the fault -/
def oAll (f : Int → Int) (n : Int) : Nat → Int → List oOrd ⊕ Int
  | 0, p => .inr p
  | k + 1, p => match oRo f n p with
    | (none, q) => .inr q
    | (some o, q) => if n ≤ q then .inl [o] else match oAll f n k q with
      | .inl l => .inl (o :: l)
      | .inr e => .inr e
def oSeq (f : Int → Int) (n : Int) : List oOrd → Int → Prop
  | [], p => n ≤ p
  | o :: l, p => p < n ∧ ∃ q : Int, oRo f n p = (some o, q) ∧ oSeq f n l q
theorem oAll_seq {f : Int → Int} {n : Int} : ∀ (k : Nat) (p : Int) (l : List oOrd), 0 ≤ p → p ≤ n → oAll f n k p = .inl l → oSeq f n l p
  | 0, p, l, _, _, h => by cases h
  | k + 1, p, l, h0, hp, h => by
    have h' : (match oRo f n p with
      | (none, q) => (.inr q : List oOrd ⊕ Int)
      | (some o, q) => if n ≤ q then .inl [o] else match oAll f n k q with
        | .inl l => .inl (o :: l)
        | .inr e => .inr e) = .inl l := h
    cases h1 : oRo f n p with
    | mk a q =>
      rw [h1] at h'
      cases a with
      | none => cases h'
      | some o =>
        obtain ⟨g1, g2, g3⟩ := oRo_b hp h1
        have h2 : (if n ≤ q then (.inl [o] : List oOrd ⊕ Int) else match oAll f n k q with
          | .inl l => .inl (o :: l)
          | .inr e => .inr e) = .inl l := h'
        by_cases h3 : n ≤ q
        · rw [if_pos h3] at h2
          cases h2
          exact ⟨by omega, q, h1, h3⟩
        · rw [if_neg h3] at h2
          cases h4 : oAll f n k q with
          | inr e => rw [h4] at h2; cases h2
          | inl l2 =>
            rw [h4] at h2
            cases h2
            exact ⟨by omega, q, h1, oAll_seq k q l2 (by omega) (by omega) h4⟩
theorem oAll_fault {f : Int → Int} {n : Int} : ∀ (k : Nat) (p e : Int), 0 ≤ p → p ≤ n → oAll f n k p = .inr e → 0 ≤ e ∧ e ≤ n
  | 0, p, e, h0, hp, h => by cases h; omega
  | k + 1, p, e, h0, hp, h => by
    have h' : (match oRo f n p with
      | (none, q) => (.inr q : List oOrd ⊕ Int)
      | (some o, q) => if n ≤ q then .inl [o] else match oAll f n k q with
        | .inl l => .inl (o :: l)
        | .inr e => .inr e) = .inr e := h
    have hq := oRo_q (f := f) hp
    cases h1 : oRo f n p with
    | mk a q =>
      rw [h1] at h' hq
      have hq' : p ≤ q ∧ q ≤ n := hq
      cases a with
      | none => cases h'; omega
      | some o =>
        have h2 : (if n ≤ q then (.inl [o] : List oOrd ⊕ Int) else match oAll f n k q with
          | .inl l => .inl (o :: l)
          | .inr e => .inr e) = .inr e := h'
        by_cases h3 : n ≤ q
        · rw [if_pos h3] at h2; cases h2
        · rw [if_neg h3] at h2
          cases h4 : oAll f n k q with
          | inl l2 => rw [h4] at h2; cases h2
          | inr e2 =>
            rw [h4] at h2
            cases h2
            exact oAll_fault k q _ (by omega) (by omega) h4
