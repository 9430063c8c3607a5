/-! THE LAW: a text of one order to load, and its beginnings -/
theorem tok_n {f : Int → Int} {n e : Int} (he : e ≤ n) (hs : e = n ∨ f e = 32 ∨ f e = 59) : ∀ (k : Nat) (p : Int), p ≤ e → e - p ≤ k → (∀ z : Int, p ≤ z → z < e → f z ≠ 32 ∧ f z ≠ 59) → oEn f n k p = e
  | 0, p, h0, h1, _ => by
    show p = e
    omega
  | k + 1, p, h0, h1, h => by
    show (if n ≤ p ∨ f p = 32 ∨ f p = 59 then p else oEn f n k (p + 1)) = e
    by_cases q : p = e
    · subst q
      rw [if_pos (by omega)]
    · have hp := h p (by omega) (by omega)
      rw [if_neg (by omega)]
      exact tok_n he hs k (p + 1) (by omega) (by omega) (fun z a b => h z (by omega) b)
theorem tok {f : Int → Int} {n p e : Int} (h0 : p ≤ e) (he : e ≤ n) (hs : e = n ∨ f e = 32 ∨ f e = 59) (h : ∀ z : Int, p ≤ z → z < e → f z ≠ 32 ∧ f z ≠ 59) : oE f n p = e :=
  tok_n he hs _ p h0 (by omega) h
/-- the k digits of v stand at p -/
def pDig (f : Int → Int) (p v k : Int) : Prop := (k = 1 ∧ 0 ≤ v ∧ v ≤ 9 ∧ f p = 48 + v) ∨ (k = 2 ∧ 10 ≤ v ∧ v ≤ 99 ∧ f p = 48 + v / 10 ∧ f (p + 1) = 48 + v % 10) ∨ (k = 3 ∧ 100 ≤ v ∧ v ≤ 999 ∧ f p = 48 + v / 100 ∧ f (p + 1) = 48 + v / 10 % 10 ∧ f (p + 2) = 48 + v % 10)
theorem pDig.range {f : Int → Int} {p v k : Int} (h : pDig f p v k) : (1 ≤ k ∧ k ≤ 3 ∧ 0 ≤ v ∧ v ≤ 999) ∧ ∀ z : Int, p ≤ z → z < p + k → f z ≠ 32 ∧ f z ≠ 59 := by
  rcases h with ⟨rfl, h0, h1, a⟩ | ⟨rfl, h0, h1, a, b⟩ | ⟨rfl, h0, h1, a, b, c⟩
  · refine ⟨by omega, fun z x y => ?_⟩
    rw [show z = p by omega]
    omega
  · refine ⟨by omega, fun z x y => ?_⟩
    rcases (show z = p ∨ z = p + 1 by omega) with rfl | rfl
    · omega
    · omega
  · refine ⟨by omega, fun z x y => ?_⟩
    rcases (show z = p ∨ z = p + 1 ∨ z = p + 2 by omega) with rfl | rfl | rfl
    · omega
    · omega
    · omega
theorem oDg_s {f : Int → Int} {k : Nat} {p v : Int} (h : 48 ≤ f p ∧ f p ≤ 57) : oDg f (k + 1) p v = oDg f k (p + 1) (v * 10 + (f p - 48)) := if_pos h
theorem pDig.val {f : Int → Int} {p v k : Int} (h : pDig f p v k) : oDg f k.toNat p 0 = some v := by
  rcases h with ⟨rfl, h0, h1, a⟩ | ⟨rfl, h0, h1, a, b⟩ | ⟨rfl, h0, h1, a, b, c⟩
  · show oDg f (0 + 1) p 0 = some v
    rw [oDg_s (by omega)]
    show some _ = some v
    congr 1
    omega
  · show oDg f (0 + 1 + 1) p 0 = some v
    rw [oDg_s (by omega), oDg_s (by omega)]
    show some _ = some v
    congr 1
    omega
  · show oDg f (0 + 1 + 1 + 1) p 0 = some v
    rw [oDg_s (by omega), oDg_s (by omega), oDg_s (by rw [show p + 1 + 1 = p + 2 by omega]; omega)]
    show some _ = some v
    rw [show p + 1 + 1 = p + 2 by omega]
    congr 1
    omega
theorem oNm_num {f : Int → Int} {n p v k least most : Int} (hp : f p = 32) (h : pDig f (p + 1) v k) (hn : p + 1 + k ≤ n) (hs : p + 1 + k = n ∨ f (p + 1 + k) = 32 ∨ f (p + 1 + k) = 59) (hv : least ≤ v ∧ v ≤ most) : oNm f n p least most = (some v, p + 1 + k) := by
  obtain ⟨r1, r2⟩ := h.range
  have e := tok (f := f) (n := n) (p := p + 1) (e := p + 1 + k) (by omega) hn hs r2
  unfold oNm
  rw [if_pos ⟨by omega, hp⟩, e, if_neg (by omega), show p + 1 + k - (p + 1) = k by omega, h.val]
  show (if least ≤ v ∧ v ≤ most then ((some v, p + 1 + k) : Option Int × Int) else (none, p + 1)) = _
  rw [if_pos hv]
theorem oNm_end {f : Int → Int} {n p least most : Int} (hp : ¬ p < n) : oNm f n p least most = (none, p) := by
  unfold oNm
  rw [if_neg (fun h => hp h.1)]
theorem oAr_1 {f : Int → Int} {n e w q : Int} (h : oNm f n e 0 (oM1 w) = (none, q)) : oAr f n e w = (none, q) := by
  unfold oAr
  rw [h]
theorem oAr_2 {f : Int → Int} {n e w a q q2 : Int} (h : oNm f n e 0 (oM1 w) = (some a, q)) (hw : w ≠ 2) (h2 : oNm f n q (oL2 w) (oM2 w) = (none, q2)) : oAr f n e w = (none, q2) := by
  unfold oAr
  rw [h]
  show (if w = 2 then ((some (w, a, 0), q) : Option oOrd × Int) else match oNm f n q (oL2 w) (oM2 w) with | (none, q2) => (none, q2) | (some b, q2) => (some (w, a, b), q2)) = _
  rw [if_neg hw, h2]
theorem oAr_3 {f : Int → Int} {n e w a b q q2 : Int} (h : oNm f n e 0 (oM1 w) = (some a, q)) (hw : w ≠ 2) (h2 : oNm f n q (oL2 w) (oM2 w) = (some b, q2)) : oAr f n e w = (some (w, a, b), q2) := by
  unfold oAr
  rw [h]
  show (if w = 2 then ((some (w, a, 0), q) : Option oOrd × Int) else match oNm f n q (oL2 w) (oM2 w) with | (none, q2) => (none, q2) | (some b, q2) => (some (w, a, b), q2)) = _
  rw [if_neg hw, h2]
theorem oRd_no {f : Int → Int} {n p : Int} (h : oW f p (oE f n p) = -1) : oRd f n p = (none, p) := by
  unfold oRd
  rw [if_pos (by omega)]
theorem oRd_end {f : Int → Int} {n : Int} : oRd f n n = (none, n) := by
  refine oRd_no ?_
  rw [tok (f := f) (n := n) (p := n) (e := n) (by omega) (by omega) (Or.inl rfl) (fun z a b => by omega)]
  exact oW_none (fun h => by have := h.1; omega) (fun h => by have := h.1; omega) (fun h => by have := h.1; omega) (fun h => by have := h.1; omega) (fun h => by have := h.1; omega) (fun h => by have := h.1; omega) (fun h => by have := h.1; omega)
theorem oRo_0 {f : Int → Int} {n : Int} : oRo f n 0 = oRd f n 0 := if_neg (by omega)
theorem oAll_bad {f : Int → Int} {n q : Int} {k : Nat} {p : Int} (h : oRo f n p = (none, q)) : oAll f n (k + 1) p = .inr q := by
  show (match oRo f n p with
    | (none, q) => (.inr q : List oOrd ⊕ Int)
    | (some o, q) => if n ≤ q then .inl [o] else match oAll f n k q with
      | .inl l => .inl (o :: l)
      | .inr e => .inr e) = .inr q
  rw [h]
theorem oAll_one {f : Int → Int} {n q : Int} {k : Nat} {p : Int} {o : oOrd} (h : oRo f n p = (some o, q)) (hq : n ≤ q) : oAll f n (k + 1) p = .inl [o] := by
  show (match oRo f n p with
    | (none, q) => (.inr q : List oOrd ⊕ Int)
    | (some o, q) => if n ≤ q then .inl [o] else match oAll f n k q with
      | .inl l => .inl (o :: l)
      | .inr e => .inr e) = .inl [o]
  rw [h]
  show (if n ≤ q then (.inl [o] : List oOrd ⊕ Int) else match oAll f n k q with
      | .inl l => .inl (o :: l)
      | .inr e => .inr e) = .inl [o]
  rw [if_pos hq]
theorem oAll_more {f : Int → Int} {n q e : Int} {k : Nat} {p : Int} {o : oOrd} (h : oRo f n p = (some o, q)) (hq : ¬ n ≤ q) (h2 : oAll f n k q = .inr e) : oAll f n (k + 1) p = .inr e := by
  show (match oRo f n p with
    | (none, q) => (.inr q : List oOrd ⊕ Int)
    | (some o, q) => if n ≤ q then .inl [o] else match oAll f n k q with
      | .inl l => .inl (o :: l)
      | .inr e => .inr e) = .inr e
  rw [h]
  show (if n ≤ q then (.inl [o] : List oOrd ⊕ Int) else match oAll f n k q with
      | .inl l => .inl (o :: l)
      | .inr e => .inr e) = .inr e
  rw [if_neg hq, h2]
/-- the empty text -/
theorem txt_0 {f : Int → Int} : oAll f 0 61 0 = .inr 0 := oAll_bad (by rw [oRo_0]; exact oRd_end)
/-- 'loa' -/
theorem txt_3 {f : Int → Int} (h0 : f 0 = 108) (h1 : f 1 = 111) (h2 : f 2 = 97) : oAll f 3 61 0 = .inr 0 := by
  refine oAll_bad ?_
  rw [oRo_0]
  refine oRd_no ?_
  rw [tok (f := f) (n := 3) (p := 0) (e := 3) (by omega) (by omega) (Or.inl rfl) (fun z a b => by
    rcases (show z = 0 ∨ z = 1 ∨ z = 2 by omega) with rfl | rfl | rfl <;> omega)]
  exact oW_none (fun h => by have := h.1; omega) (fun h => by have := h.1; omega) (fun h => by have := h.1; omega) (fun h => by have := h.1; omega) (fun h => by have := h.1; omega) (fun h => by have := h.1; omega) (fun h => by have := h.1; omega)
/-- 'load' at the beginning -/
abbrev pLoad (f : Int → Int) : Prop := f 0 = 108 ∧ f 1 = 111 ∧ f 2 = 97 ∧ f 3 = 100
theorem rd_load {f : Int → Int} {n : Int} (h : pLoad f) (hn : 4 ≤ n) (hs : (4 : Int) = n ∨ f 4 = 32 ∨ f 4 = 59) : oRo f n 0 = oAr f n 4 5 := by
  obtain ⟨h0, h1, h2, h3⟩ := h
  have e := tok (f := f) (n := n) (p := 0) (e := 4) (by omega) hn hs (fun z a b => by
    rcases (show z = 0 ∨ z = 1 ∨ z = 2 ∨ z = 3 by omega) with rfl | rfl | rfl | rfl <;> omega)
  have w : oW f 0 4 = 5 := oW_5 ⟨by omega, h0, h1, h2, h3⟩
  rw [oRo_0]
  unfold oRd
  rw [e, w, if_neg (by omega)]
theorem txt_4 {f : Int → Int} (h : pLoad f) : oAll f 4 61 0 = .inr 4 := by
  refine oAll_bad ?_
  rw [rd_load h (by omega) (Or.inl rfl)]
  exact oAr_1 (oNm_end (by omega))
theorem txt_b {f : Int → Int} {b k : Int} (h : pLoad f) (h4 : f 4 = 32) (hb : pDig f 5 b k) (b0 : b ≤ 11) : oAll f (5 + k) 61 0 = .inr (5 + k) := by
  obtain ⟨r1, -⟩ := hb.range
  refine oAll_bad ?_
  rw [rd_load h (by omega) (Or.inr (Or.inl h4))]
  have n1 := oNm_num (f := f) (n := 5 + k) (p := 4) (v := b) (k := k) (least := 0) (most := oM1 5) h4 hb (by omega) (Or.inl (by omega)) ⟨by omega, by show b ≤ 11; omega⟩
  rw [show (4 : Int) + 1 + k = 5 + k by omega] at n1
  exact oAr_2 n1 (by decide) (oNm_end (by omega))
theorem rd_bt {f : Int → Int} {b k c j n : Int} (h : pLoad f) (h4 : f 4 = 32) (hb : pDig f 5 b k) (b0 : b ≤ 11) (h5 : f (5 + k) = 32) (hc : pDig f (6 + k) c j) (c0 : 1 ≤ c) (hn : 6 + k + j ≤ n) (hs : 6 + k + j = n ∨ f (6 + k + j) = 59) : oRo f n 0 = (some (5, b, c), 6 + k + j) := by
  obtain ⟨r1, -⟩ := hb.range
  obtain ⟨r2, -⟩ := hc.range
  rw [rd_load h (by omega) (Or.inr (Or.inl h4))]
  have n1 := oNm_num (f := f) (n := n) (p := 4) (v := b) (k := k) (least := 0) (most := oM1 5) h4 hb (by omega) (Or.inr (Or.inl (by rw [show (4 : Int) + 1 + k = 5 + k by omega]; exact h5))) ⟨by omega, by show b ≤ 11; omega⟩
  rw [show (4 : Int) + 1 + k = 5 + k by omega] at n1
  have n2 := oNm_num (f := f) (n := n) (p := 5 + k) (v := c) (k := j) (least := oL2 5) (most := oM2 5) h5 (by rw [show 5 + k + 1 = 6 + k by omega]; exact hc) (by omega) (by rw [show 5 + k + 1 + j = 6 + k + j by omega]; rcases hs with q | q; exact Or.inl q; exact Or.inr (Or.inr q)) ⟨by show 1 ≤ c; omega, by show c ≤ 999; omega⟩
  rw [show 5 + k + 1 + j = 6 + k + j by omega] at n2
  exact oAr_3 n1 (by decide) n2
theorem txt_t {f : Int → Int} {b k c j : Int} (h : pLoad f) (h4 : f 4 = 32) (hb : pDig f 5 b k) (b0 : b ≤ 11) (h5 : f (5 + k) = 32) (hc : pDig f (6 + k) c j) (c0 : 1 ≤ c) : oAll f (6 + k + j) 61 0 = .inl [(5, b, c)] :=
  oAll_one (rd_bt h h4 hb b0 h5 hc c0 (Int.le_refl _) (Or.inl rfl)) (Int.le_refl _)
theorem txt_s {f : Int → Int} {b k c j : Int} (h : pLoad f) (h4 : f 4 = 32) (hb : pDig f 5 b k) (b0 : b ≤ 11) (h5 : f (5 + k) = 32) (hc : pDig f (6 + k) c j) (c0 : 1 ≤ c) (h6 : f (6 + k + j) = 59) : oAll f (6 + k + j + 1) 61 0 = .inr (6 + k + j + 1) := by
  obtain ⟨r1, -⟩ := hb.range
  obtain ⟨r2, -⟩ := hc.range
  refine oAll_more (rd_bt h h4 hb b0 h5 hc c0 (by omega) (Or.inr h6)) (by omega) (oAll_bad (k := 59) ?_)
  unfold oRo
  rw [if_pos (by omega), if_pos ⟨by omega, h6⟩]
  exact oRd_end
/-- a sign is typed -/
def pTy (D D2 : JD) (X m c : Int) : Prop := D2 (X + 250) 1 = m + 1 ∧ D2 (X + 250 + 1) m = c ∧ (∀ z : Int, z ≠ m → D2 (X + 250 + 1) z = D (X + 250 + 1) z) ∧ ∀ x k : Int, x ≠ X + 250 → x ≠ X + 250 + 1 → D2 x k = D x k
theorem pSt.text {S : JS} {D D2 : JD} {X t n q m : Int} {hs : Int → Int → Int} {r : Int → Int} (hP : pSt S D X t n hs r q) (h : D2 (X + 250) 1 = m) (h0 : 0 ≤ m ∧ m ≤ 60) (hf : ∀ z : Int, 0 ≤ D2 (X + 250 + 1) z ∧ D2 (X + 250 + 1) z ≤ 65535) (e : ∀ x k : Int, x ≠ X + 250 → x ≠ X + 250 + 1 → D2 x k = D x k) : pSt S D2 X t n hs r q :=
  ⟨hP.1, hP.2.1.fr (fun x k a b => e x k (by omega) (by omega)), by omega, by omega, hf⟩
theorem pSt.typed {S : JS} {D D2 : JD} {X t n q m c : Int} {hs : Int → Int → Int} {r : Int → Int} (hP : pSt S D X t n hs r q) (h : pTy D D2 X m c) (h0 : 0 ≤ m ∧ m < 60) (hc : 0 ≤ c ∧ c ≤ 65535) : pSt S D2 X t n hs r q := by
  obtain ⟨a, b, g, e⟩ := h
  refine hP.text a (by omega) (fun z => ?_) e
  by_cases q : z = m
  · rw [q, b]; exact hc
  · rw [g z q]; exact hP.2.2.2.2 z
theorem kT {G : JG} {S : JS} {D : JD} {d : Nat} {X t n q m m2 c : Int} {hs : Int → Int → Int} {r : Int → Int} (hP : pSt S D X t n hs r q) (hm : D (X + 250) 1 = m) (h0 : 0 ≤ m) (h1 : m < 60) (hc : 0 ≤ c ∧ c ≤ 65535) (h2 : m2 = m + 1) : JM G yX7_type cX7_type 2 (some .int) (d + 1) (0, 0) S D [.inr (.inr (some X)), .inl c] (jrP S (fun w D2 => w = .inl m2 ∧ pTy D D2 X m c)) := by
  have k := kX7_type_y (G := G) (S := S) (D := D) (d := d) (c := c) hP.1 hm h0 h1 hc
  refine k.mono (fun v S' D' hq => ?_)
  obtain ⟨rfl, rfl, rfl⟩ := hq
  refine ⟨rfl, _, rfl, by rw [h2], ?_, ?_, fun z hz => ?_, fun x j a b => ?_⟩
  · rw [jup_eq]
  · rw [jup_ne (by omega), jup_eq]
  · rw [jup_ne (by omega), jup_nk hz]
  · rw [jup_ne a, jup_ne b]
theorem kC {G : JG} {S : JS} {D : JD} {d : Nat} {X t n q : Int} {hs : Int → Int → Int} {r : Int → Int} (hP : pSt S D X t n hs r q) : JM G yX7_clearText cX7_clearText 1 (some .int) (d + 1) (0, 0) S D [.inr (.inr (some X))] (jrP S (fun w D2 => w = .inl (D (X + 250) 1) ∧ D2 (X + 250) 1 = 0 ∧ pSt S D2 X t n hs r q)) := by
  have k := kX7_clearText (G := G) (S := S) (D := D) (d := d) hP.1
  refine k.mono (fun v S' D' hq => ?_)
  obtain ⟨rfl, rfl, rfl⟩ := hq
  exact ⟨rfl, _, rfl, rfl, jup_eq, hP.text jup_eq (by omega) (fun z => by rw [jup_ne (by omega)]; exact hP.2.2.2.2 z) (fun x j a b => jup_ne a)⟩
/-- a text that has a fault -/
theorem kRf {G : JG} {S : JS} {D : JD} {d : Nat} {X t n q m e t2 : Int} {hs : Int → Int → Int} {r : Int → Int} (hP : pSt S D X t n hs r q) (ht : t + 200 ≤ 60000) (h2 : t2 = t + 100) (hm : D (X + 250) 1 = m) (hx : oAll (D (X + 250 + 1)) m 61 0 = .inr e) : JM G yX7_runOrders cX7_runOrders 3 (some .int) (d + 10) (0, 0) S D [.inr (.inr (some X))] (jrP S (fun w D2 => w = .inl (-100 - e) ∧ pSt S D2 X t2 n hs r q ∧ D2 (X + 250) 1 = m ∧ ∀ z : Int, D2 (X + 250 + 1) z = D (X + 250 + 1) z)) := by
  have k := kX7_runOrders (G := G) (S := S) (D := D) (d := d) hP.1 hP.2.1 ht hm rfl (by have := hP.2.2.1; omega) (by have := hP.2.2.2.1; omega) hP.2.2.2.2
  refine k.mono (fun v S' D' hq => ?_)
  obtain ⟨rfl, w, rfl, hx2, hq⟩ := hq
  rw [hx] at hq
  obtain ⟨h1, h3⟩ := hq
  subst h2
  have x0 := hP.2.2.1
  have x1 := hP.2.2.2.1
  have e1 : D' (X + 250) 1 = D (X + 250) 1 := hx2 _ _ (by omega) (by omega)
  have e2 : ∀ z : Int, D' (X + 250 + 1) z = D (X + 250 + 1) z := fun z => hx2 _ _ (by omega) (by omega)
  exact ⟨rfl, w, rfl, h1, ⟨hP.1, h3, by omega, by omega, fun z => by rw [e2]; exact hP.2.2.2.2 z⟩, by omega, e2⟩
/-- a text of one order -/
theorem kRy {G : JG} {S : JS} {D : JD} {d : Nat} {X t n q m t2 : Int} {hs : Int → Int → Int} {r : Int → Int} {o : oOrd} (hP : pSt S D X t n hs r q) (ht : t + 200 ≤ 60000) (h2 : t2 = t + 100) (hm : D (X + 250) 1 = m) (hx : oAll (D (X + 250 + 1)) m 61 0 = .inl [o]) : JM G yX7_runOrders cX7_runOrders 3 (some .int) (d + 10) (0, 0) S D [.inr (.inr (some X))] (jrP S (fun w D2 => w = .inl (oRun [o] r).1 ∧ (∃ q2 : Int, pSt S D2 X t2 (sRecN n) (sRecH n hs r) (sAll (oRun [o] r).2.1) q2) ∧ D2 (X + 250) 1 = m ∧ ∀ z : Int, D2 (X + 250 + 1) z = D (X + 250 + 1) z)) := by
  have k := kX7_runOrders (G := G) (S := S) (D := D) (d := d) hP.1 hP.2.1 ht hm rfl (by have := hP.2.2.1; omega) (by have := hP.2.2.2.1; omega) hP.2.2.2.2
  refine k.mono (fun v S' D' hq => ?_)
  obtain ⟨rfl, w, rfl, hx2, hq⟩ := hq
  rw [hx] at hq
  obtain ⟨h1, h3⟩ := hq
  subst h2
  have x0 := hP.2.2.1
  have x1 := hP.2.2.2.1
  have e1 : D' (X + 250) 1 = D (X + 250) 1 := hx2 _ _ (by omega) (by omega)
  have e2 : ∀ z : Int, D' (X + 250 + 1) z = D (X + 250 + 1) z := fun z => hx2 _ _ (by omega) (by omega)
  exact ⟨rfl, w, rfl, h1, ⟨_, hP.1, h3, by omega, by omega, fun z => by rw [e2]; exact hP.2.2.2.2 z⟩, by omega, e2⟩
theorem recH_last {n : Int} {hs : Int → Int → Int} {r : Int → Int} (h : 0 ≤ n) : sRecH n hs r (sRecN n - 1) = r ∧ sRecN n ≠ 0 ∧ 0 ≤ sRecN n - 1 ∧ sRecN n ≤ n + 5 := by
  unfold sRecH sRecN
  by_cases q : n = 5
  · rw [if_pos q, if_pos q, if_neg (by omega)]; exact ⟨rfl, by omega, by omega, by omega⟩
  · rw [if_neg q, if_neg q, if_pos (by omega)]; exact ⟨rfl, by omega, by omega, by omega⟩
/-- the latest state comes back -/
theorem kU {G : JG} {S : JS} {D : JD} {d : Nat} {X t n q t2 : Int} {hs : Int → Int → Int} {r r0 : Int → Int} (hP : pSt S D X t (sRecN n) (sRecH n hs r0) r q) (hn : 0 ≤ n) (ht : t + 100 ≤ 60000) (h2 : t2 = t + 100) : JM G yX7_undo cX7_undo 1 (some .int) (d + 4) (0, 0) S D [.inr (.inr (some X))] (jrP S (fun w D2 => w = .inl (sRecN n - 1) ∧ pSt S D2 X t2 (sRecN n - 1) (sRecH n hs r0) r0 q)) := by
  have k := kX7_undo (G := G) (S := S) (D := D) (d := d) hP.1 hP.2.1 ht
  refine k.mono (fun v S' D' hq => ?_)
  obtain ⟨rfl, w, rfl, hx, hq⟩ := hq
  obtain ⟨h1, h3, -⟩ := recH_last (n := n) (hs := hs) (r := r0) hn
  rw [if_neg h3, h1] at hq
  subst h2
  exact ⟨rfl, w, rfl, hq.1, hP.frame hq.2 hx⟩
theorem digits_1 {G : JG} {S : JS} {D : JD} {d : Nat} {X t n q m v : Int} {hs : Int → Int → Int} {r : Int → Int} (hP : pSt S D X t n hs r q) (hm : D (X + 250) 1 = m) (h0 : 0 ≤ m) (h1 : m ≤ 50) (v0 : 0 ≤ v) (v1 : v ≤ 9) : JM G yL_digits cL_digits 3 (some .int) (d + 2) (0, 0) S D [.inr (.inr (some X)), .inl v] (jrP S (fun w D2 => ∃ k : Int, w = .inl (m + 1 + k) ∧ D2 (X + 250) 1 = m + 1 + k ∧ D2 (X + 250 + 1) m = 32 ∧ pDig (D2 (X + 250 + 1)) (m + 1) v k ∧ (∀ z : Int, z < m → D2 (X + 250 + 1) z = D (X + 250 + 1) z) ∧ pSt S D2 X t n hs r q)) := by
  have hB := hP.1
  have bk := hB.1
  have e1 : v.tdiv 100 = v / 100 := tdiv_pos (by omega)
  have e2 : v.tdiv 10 = v / 10 := tdiv_pos (by omega)
  have e3 : v.tmod 10 = v % 10 := Int.tmod_eq_emod_of_nonneg (by omega)
  have e4 : (v / 10).tmod 10 = v / 10 % 10 := Int.tmod_eq_emod_of_nonneg (by omega)
  show JX _ _ _ _ _ _ _ _ _ _ _ [_, _, _] _ _
  refine x_aload_n dL_digits_0 rfl ?_
  refine x_bipush dL_digits_1 (by decide) ?_
  refine c_RL_78p dL_digits_3 rfl (kT (m := m) (m2 := m + 1) hP hm (by omega) (by omega) ⟨by omega, by omega⟩ rfl) bk (Nat.le_of_ble_eq_true rfl) (Nat.le_of_ble_eq_true rfl) ⟨Nat.le_refl _, Nat.le_refl _⟩ (fun w1 D1 y1 => ?_)
  obtain ⟨rfl, y1⟩ := y1
  have hP1 := hP.typed y1 (by omega) (by omega)
  have hm1 := y1.1
  refine x_istore_n dL_digits_6 (by decide) ?_
  show JX _ _ _ _ _ _ _ _ _ _ _ [_, _, _] _ _
  refine x_iload_n dL_digits_7 rfl ?_
  refine x_bipush dL_digits_8 (by decide) ?_
  refine x_ic_le (tgt := 26) dL_digits_10 (by decide) ⟨by omega, by omega⟩ ⟨by omega, by omega⟩ (fun hb10 => ?_) (fun h => (h (by omega)).elim)
  refine x_iload_n dL_digits_26 rfl ?_
  refine x_bipush dL_digits_27 (by decide) ?_
  refine x_ic_le (tgt := 48) dL_digits_29 (by decide) ⟨by omega, by omega⟩ ⟨by omega, by omega⟩ (fun hb29 => ?_) (fun h => (h (by omega)).elim)
  refine x_aload_n dL_digits_48 rfl ?_
  refine x_bipush dL_digits_49 (by decide) ?_
  refine x_iload_n dL_digits_51 rfl ?_
  refine x_bipush dL_digits_52 (by decide) ?_
  refine x_irem dL_digits_54 ⟨by omega, by omega⟩ ⟨by omega, by omega⟩ (by omega) ?_
  refine x_iadd dL_digits_55 ?_
  rw [e3]
  refine x_i2c dL_digits_56 ?_
  refine c_RL_78p dL_digits_57 rfl (kT (m := (m + 1)) (m2 := (m + 1) + 1) hP1 hm1 (by omega) (by omega) ⟨by omega, by omega⟩ rfl) bk (Nat.le_of_ble_eq_true rfl) (Nat.le_of_ble_eq_true rfl) ⟨Nat.le_refl _, Nat.le_refl _⟩ (fun w2 D2 y2 => ?_)
  obtain ⟨rfl, y2⟩ := y2
  have hP2 := hP1.typed y2 (by omega) (by omega)
  have hm2 := y2.1
  refine x_istore_n dL_digits_60 (by decide) ?_
  show JX _ _ _ _ _ _ _ _ _ _ _ [_, _, _] _ _
  refine x_iload_n dL_digits_61 rfl ?_
  exact x_ireturn dL_digits_62 rfl rfl ⟨Nat.le_refl _, Nat.le_refl _⟩ (by
      have p1 := (y2.2.2.1 _ (by omega)).trans (y1.2.1)
      have p2 := y2.2.1
      refine ⟨rfl, _, rfl, 1, by first | rfl | (congr 1; omega), by have := y2.1; omega, p1, ?_, fun z hz => (y2.2.2.1 z (by omega)).trans (y1.2.2.1 z (by omega)), hP2⟩
      unfold pDig
      left; exact ⟨rfl, by omega, by omega, by omega⟩)
theorem digits_2 {G : JG} {S : JS} {D : JD} {d : Nat} {X t n q m v : Int} {hs : Int → Int → Int} {r : Int → Int} (hP : pSt S D X t n hs r q) (hm : D (X + 250) 1 = m) (h0 : 0 ≤ m) (h1 : m ≤ 50) (v0 : 10 ≤ v) (v1 : v ≤ 99) : JM G yL_digits cL_digits 3 (some .int) (d + 2) (0, 0) S D [.inr (.inr (some X)), .inl v] (jrP S (fun w D2 => ∃ k : Int, w = .inl (m + 1 + k) ∧ D2 (X + 250) 1 = m + 1 + k ∧ D2 (X + 250 + 1) m = 32 ∧ pDig (D2 (X + 250 + 1)) (m + 1) v k ∧ (∀ z : Int, z < m → D2 (X + 250 + 1) z = D (X + 250 + 1) z) ∧ pSt S D2 X t n hs r q)) := by
  have hB := hP.1
  have bk := hB.1
  have e1 : v.tdiv 100 = v / 100 := tdiv_pos (by omega)
  have e2 : v.tdiv 10 = v / 10 := tdiv_pos (by omega)
  have e3 : v.tmod 10 = v % 10 := Int.tmod_eq_emod_of_nonneg (by omega)
  have e4 : (v / 10).tmod 10 = v / 10 % 10 := Int.tmod_eq_emod_of_nonneg (by omega)
  show JX _ _ _ _ _ _ _ _ _ _ _ [_, _, _] _ _
  refine x_aload_n dL_digits_0 rfl ?_
  refine x_bipush dL_digits_1 (by decide) ?_
  refine c_RL_78p dL_digits_3 rfl (kT (m := m) (m2 := m + 1) hP hm (by omega) (by omega) ⟨by omega, by omega⟩ rfl) bk (Nat.le_of_ble_eq_true rfl) (Nat.le_of_ble_eq_true rfl) ⟨Nat.le_refl _, Nat.le_refl _⟩ (fun w1 D1 y1 => ?_)
  obtain ⟨rfl, y1⟩ := y1
  have hP1 := hP.typed y1 (by omega) (by omega)
  have hm1 := y1.1
  refine x_istore_n dL_digits_6 (by decide) ?_
  show JX _ _ _ _ _ _ _ _ _ _ _ [_, _, _] _ _
  refine x_iload_n dL_digits_7 rfl ?_
  refine x_bipush dL_digits_8 (by decide) ?_
  refine x_ic_le (tgt := 26) dL_digits_10 (by decide) ⟨by omega, by omega⟩ ⟨by omega, by omega⟩ (fun hb10 => ?_) (fun h => (h (by omega)).elim)
  refine x_iload_n dL_digits_26 rfl ?_
  refine x_bipush dL_digits_27 (by decide) ?_
  refine x_ic_le (tgt := 48) dL_digits_29 (by decide) ⟨by omega, by omega⟩ ⟨by omega, by omega⟩ (fun h => absurd h (by omega)) (fun hb29 => ?_)
  refine x_aload_n dL_digits_32 rfl ?_
  refine x_bipush dL_digits_33 (by decide) ?_
  refine x_iload_n dL_digits_35 rfl ?_
  refine x_bipush dL_digits_36 (by decide) ?_
  refine x_idiv dL_digits_38 ⟨by omega, by omega⟩ ⟨by omega, by omega⟩ (by omega) ?_
  rw [e2]
  refine x_bipush dL_digits_39 (by decide) ?_
  refine x_irem dL_digits_41 ⟨by omega, by omega⟩ ⟨by omega, by omega⟩ (by omega) ?_
  rw [e4]
  refine x_iadd dL_digits_42 ?_
  refine x_i2c dL_digits_43 ?_
  refine c_RL_78p dL_digits_44 rfl (kT (m := (m + 1)) (m2 := (m + 1) + 1) hP1 hm1 (by omega) (by omega) ⟨by omega, by omega⟩ rfl) bk (Nat.le_of_ble_eq_true rfl) (Nat.le_of_ble_eq_true rfl) ⟨Nat.le_refl _, Nat.le_refl _⟩ (fun w2 D2 y2 => ?_)
  obtain ⟨rfl, y2⟩ := y2
  have hP2 := hP1.typed y2 (by omega) (by omega)
  have hm2 := y2.1
  refine x_istore_n dL_digits_47 (by decide) ?_
  show JX _ _ _ _ _ _ _ _ _ _ _ [_, _, _] _ _
  refine x_aload_n dL_digits_48 rfl ?_
  refine x_bipush dL_digits_49 (by decide) ?_
  refine x_iload_n dL_digits_51 rfl ?_
  refine x_bipush dL_digits_52 (by decide) ?_
  refine x_irem dL_digits_54 ⟨by omega, by omega⟩ ⟨by omega, by omega⟩ (by omega) ?_
  refine x_iadd dL_digits_55 ?_
  rw [e3]
  refine x_i2c dL_digits_56 ?_
  refine c_RL_78p dL_digits_57 rfl (kT (m := ((m + 1) + 1)) (m2 := ((m + 1) + 1) + 1) hP2 hm2 (by omega) (by omega) ⟨by omega, by omega⟩ rfl) bk (Nat.le_of_ble_eq_true rfl) (Nat.le_of_ble_eq_true rfl) ⟨Nat.le_refl _, Nat.le_refl _⟩ (fun w3 D3 y3 => ?_)
  obtain ⟨rfl, y3⟩ := y3
  have hP3 := hP2.typed y3 (by omega) (by omega)
  have hm3 := y3.1
  refine x_istore_n dL_digits_60 (by decide) ?_
  show JX _ _ _ _ _ _ _ _ _ _ _ [_, _, _] _ _
  refine x_iload_n dL_digits_61 rfl ?_
  exact x_ireturn dL_digits_62 rfl rfl ⟨Nat.le_refl _, Nat.le_refl _⟩ (by
      have p1 := (y3.2.2.1 _ (by omega)).trans ((y2.2.2.1 _ (by omega)).trans (y1.2.1))
      have p2 := (y3.2.2.1 _ (by omega)).trans (y2.2.1)
      have p3 := y3.2.1
      refine ⟨rfl, _, rfl, 2, by first | rfl | (congr 1; omega), by have := y3.1; omega, p1, ?_, fun z hz => (y3.2.2.1 z (by omega)).trans ((y2.2.2.1 z (by omega)).trans (y1.2.2.1 z (by omega))), hP3⟩
      unfold pDig
      right; left; exact ⟨rfl, by omega, by omega, by omega, by omega⟩)
theorem digits_3 {G : JG} {S : JS} {D : JD} {d : Nat} {X t n q m v : Int} {hs : Int → Int → Int} {r : Int → Int} (hP : pSt S D X t n hs r q) (hm : D (X + 250) 1 = m) (h0 : 0 ≤ m) (h1 : m ≤ 50) (v0 : 100 ≤ v) (v1 : v ≤ 999) : JM G yL_digits cL_digits 3 (some .int) (d + 2) (0, 0) S D [.inr (.inr (some X)), .inl v] (jrP S (fun w D2 => ∃ k : Int, w = .inl (m + 1 + k) ∧ D2 (X + 250) 1 = m + 1 + k ∧ D2 (X + 250 + 1) m = 32 ∧ pDig (D2 (X + 250 + 1)) (m + 1) v k ∧ (∀ z : Int, z < m → D2 (X + 250 + 1) z = D (X + 250 + 1) z) ∧ pSt S D2 X t n hs r q)) := by
  have hB := hP.1
  have bk := hB.1
  have e1 : v.tdiv 100 = v / 100 := tdiv_pos (by omega)
  have e2 : v.tdiv 10 = v / 10 := tdiv_pos (by omega)
  have e3 : v.tmod 10 = v % 10 := Int.tmod_eq_emod_of_nonneg (by omega)
  have e4 : (v / 10).tmod 10 = v / 10 % 10 := Int.tmod_eq_emod_of_nonneg (by omega)
  show JX _ _ _ _ _ _ _ _ _ _ _ [_, _, _] _ _
  refine x_aload_n dL_digits_0 rfl ?_
  refine x_bipush dL_digits_1 (by decide) ?_
  refine c_RL_78p dL_digits_3 rfl (kT (m := m) (m2 := m + 1) hP hm (by omega) (by omega) ⟨by omega, by omega⟩ rfl) bk (Nat.le_of_ble_eq_true rfl) (Nat.le_of_ble_eq_true rfl) ⟨Nat.le_refl _, Nat.le_refl _⟩ (fun w1 D1 y1 => ?_)
  obtain ⟨rfl, y1⟩ := y1
  have hP1 := hP.typed y1 (by omega) (by omega)
  have hm1 := y1.1
  refine x_istore_n dL_digits_6 (by decide) ?_
  show JX _ _ _ _ _ _ _ _ _ _ _ [_, _, _] _ _
  refine x_iload_n dL_digits_7 rfl ?_
  refine x_bipush dL_digits_8 (by decide) ?_
  refine x_ic_le (tgt := 26) dL_digits_10 (by decide) ⟨by omega, by omega⟩ ⟨by omega, by omega⟩ (fun h => absurd h (by omega)) (fun hb10 => ?_)
  refine x_aload_n dL_digits_13 rfl ?_
  refine x_bipush dL_digits_14 (by decide) ?_
  refine x_iload_n dL_digits_16 rfl ?_
  refine x_bipush dL_digits_17 (by decide) ?_
  refine x_idiv dL_digits_19 ⟨by omega, by omega⟩ ⟨by omega, by omega⟩ (by omega) ?_
  refine x_iadd dL_digits_20 ?_
  rw [e1]
  refine x_i2c dL_digits_21 ?_
  refine c_RL_78p dL_digits_22 rfl (kT (m := (m + 1)) (m2 := (m + 1) + 1) hP1 hm1 (by omega) (by omega) ⟨by omega, by omega⟩ rfl) bk (Nat.le_of_ble_eq_true rfl) (Nat.le_of_ble_eq_true rfl) ⟨Nat.le_refl _, Nat.le_refl _⟩ (fun w2 D2 y2 => ?_)
  obtain ⟨rfl, y2⟩ := y2
  have hP2 := hP1.typed y2 (by omega) (by omega)
  have hm2 := y2.1
  refine x_istore_n dL_digits_25 (by decide) ?_
  show JX _ _ _ _ _ _ _ _ _ _ _ [_, _, _] _ _
  refine x_iload_n dL_digits_26 rfl ?_
  refine x_bipush dL_digits_27 (by decide) ?_
  refine x_ic_le (tgt := 48) dL_digits_29 (by decide) ⟨by omega, by omega⟩ ⟨by omega, by omega⟩ (fun h => absurd h (by omega)) (fun hb29 => ?_)
  refine x_aload_n dL_digits_32 rfl ?_
  refine x_bipush dL_digits_33 (by decide) ?_
  refine x_iload_n dL_digits_35 rfl ?_
  refine x_bipush dL_digits_36 (by decide) ?_
  refine x_idiv dL_digits_38 ⟨by omega, by omega⟩ ⟨by omega, by omega⟩ (by omega) ?_
  rw [e2]
  refine x_bipush dL_digits_39 (by decide) ?_
  refine x_irem dL_digits_41 ⟨by omega, by omega⟩ ⟨by omega, by omega⟩ (by omega) ?_
  rw [e4]
  refine x_iadd dL_digits_42 ?_
  refine x_i2c dL_digits_43 ?_
  refine c_RL_78p dL_digits_44 rfl (kT (m := ((m + 1) + 1)) (m2 := ((m + 1) + 1) + 1) hP2 hm2 (by omega) (by omega) ⟨by omega, by omega⟩ rfl) bk (Nat.le_of_ble_eq_true rfl) (Nat.le_of_ble_eq_true rfl) ⟨Nat.le_refl _, Nat.le_refl _⟩ (fun w3 D3 y3 => ?_)
  obtain ⟨rfl, y3⟩ := y3
  have hP3 := hP2.typed y3 (by omega) (by omega)
  have hm3 := y3.1
  refine x_istore_n dL_digits_47 (by decide) ?_
  show JX _ _ _ _ _ _ _ _ _ _ _ [_, _, _] _ _
  refine x_aload_n dL_digits_48 rfl ?_
  refine x_bipush dL_digits_49 (by decide) ?_
  refine x_iload_n dL_digits_51 rfl ?_
  refine x_bipush dL_digits_52 (by decide) ?_
  refine x_irem dL_digits_54 ⟨by omega, by omega⟩ ⟨by omega, by omega⟩ (by omega) ?_
  refine x_iadd dL_digits_55 ?_
  rw [e3]
  refine x_i2c dL_digits_56 ?_
  refine c_RL_78p dL_digits_57 rfl (kT (m := (((m + 1) + 1) + 1)) (m2 := (((m + 1) + 1) + 1) + 1) hP3 hm3 (by omega) (by omega) ⟨by omega, by omega⟩ rfl) bk (Nat.le_of_ble_eq_true rfl) (Nat.le_of_ble_eq_true rfl) ⟨Nat.le_refl _, Nat.le_refl _⟩ (fun w4 D4 y4 => ?_)
  obtain ⟨rfl, y4⟩ := y4
  have hP4 := hP3.typed y4 (by omega) (by omega)
  have hm4 := y4.1
  refine x_istore_n dL_digits_60 (by decide) ?_
  show JX _ _ _ _ _ _ _ _ _ _ _ [_, _, _] _ _
  refine x_iload_n dL_digits_61 rfl ?_
  exact x_ireturn dL_digits_62 rfl rfl ⟨Nat.le_refl _, Nat.le_refl _⟩ (by
      have p1 := (y4.2.2.1 _ (by omega)).trans ((y3.2.2.1 _ (by omega)).trans ((y2.2.2.1 _ (by omega)).trans (y1.2.1)))
      have p2 := (y4.2.2.1 _ (by omega)).trans ((y3.2.2.1 _ (by omega)).trans (y2.2.1))
      have p3 := (y4.2.2.1 _ (by omega)).trans (y3.2.1)
      have p4 := y4.2.1
      refine ⟨rfl, _, rfl, 3, by first | rfl | (congr 1; omega), by have := y4.1; omega, p1, ?_, fun z hz => (y4.2.2.1 z (by omega)).trans ((y3.2.2.1 z (by omega)).trans ((y2.2.2.1 z (by omega)).trans (y1.2.2.1 z (by omega)))), hP4⟩
      unfold pDig
      right; right; refine ⟨rfl, by omega, by omega, by omega, by omega, ?_⟩
      rw [show m + 1 + 2 = m + 1 + 1 + 1 by omega]; omega)
theorem kL_digits {G : JG} {S : JS} {D : JD} {d : Nat} {X t n q m v : Int} {hs : Int → Int → Int} {r : Int → Int} (hP : pSt S D X t n hs r q) (hm : D (X + 250) 1 = m) (h0 : 0 ≤ m) (h1 : m ≤ 50) (v0 : 0 ≤ v) (v1 : v ≤ 999) : JM G yL_digits cL_digits 3 (some .int) (d + 2) (0, 0) S D [.inr (.inr (some X)), .inl v] (jrP S (fun w D2 => ∃ k : Int, w = .inl (m + 1 + k) ∧ D2 (X + 250) 1 = m + 1 + k ∧ D2 (X + 250 + 1) m = 32 ∧ pDig (D2 (X + 250 + 1)) (m + 1) v k ∧ (∀ z : Int, z < m → D2 (X + 250 + 1) z = D (X + 250 + 1) z) ∧ pSt S D2 X t n hs r q)) := by
  rcases (show v ≤ 9 ∨ (10 ≤ v ∧ v ≤ 99) ∨ 100 ≤ v by omega) with h | h | h
  · exact digits_1 hP hm h0 h1 v0 h
  · exact digits_2 hP hm h0 h1 h.1 h.2
  · exact digits_3 hP hm h0 h1 h v1
