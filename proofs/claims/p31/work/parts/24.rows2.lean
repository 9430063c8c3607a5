/-! WHAT ONE WATER'S AMOUNT, ONE BARGE'S LOAD AND THE NUMBERS AHEAD CHANGE -/
theorem rup_comm {r : Int → Int} {a b x y : Int} (h : a ≠ b) : rup (rup r a x) b y = rup (rup r b y) a x := by
  funext j
  unfold rup
  by_cases h1 : j = a
  · rw [if_pos h1, if_pos h1, if_neg (by omega)]
  · rw [if_neg h1, if_neg h1]
theorem jFR.top {t : Int} {D D2 : JD} {b : Int} {r r2 : Int → Int} (h : jFR D b r) (hI : rIn t r) (e : ∀ j : Int, j < 3 ∨ 6 ≤ j → r2 j = r j) (f : ∀ x k : Int, x ≠ b → D2 x k = D x k)
    (g : D2 b 3 = D b 3 ∧ D2 b 4 = D b 4 ∧ D2 b 5 = D b 5 ∧ D2 b 6 = r2 3 ∧ D2 b 7 = r2 4 ∧ D2 b 8 = r2 5) : jFR D2 b r2 := by
  have b1 := hI.1
  have hs : rSame r r2 := ⟨e 2 (by omega), fun _ _ _ _ _ _ => e _ (by omega)⟩
  obtain ⟨⟨a0, a1, a2, a3, a4, a5⟩, aw, ac, ab⟩ := h
  obtain ⟨g0, g1, g2, g3, g4, g5⟩ := g
  refine ⟨⟨by rw [g0, e _ (by omega)]; exact a0, by rw [g1, e _ (by omega)]; exact a1, by rw [g2, e _ (by omega)]; exact a2, g3, g4, g5⟩, fun i x y => ?_, fun k x y => ⟨?_, ?_⟩, fun k z x y p q => ?_⟩
  · rw [e _ (by omega)] at y
    have g := aw i x y
    unfold jWR at g ⊢
    rw [wA_r (by omega)] at g ⊢
    rw [f _ _ (by omega), f _ _ (by omega), f _ _ (by omega), f _ _ (by omega), f _ _ (by omega), e _ (by omega), e _ (by omega), e _ (by omega), sFl_same hs, sCn_same hs]
    exact g
  · rw [e _ (by omega)] at y
    have g := (ac k x y).1
    unfold jWR at g ⊢
    rw [wA_c x] at g ⊢
    rw [f _ _ (by omega), f _ _ (by omega), f _ _ (by omega), f _ _ (by omega), f _ _ (by omega), e _ (by omega), e _ (by omega), e _ (by omega), sFl_same hs, sCn_same hs]
    exact g
  · rw [e _ (by omega)] at y
    exact (ac k x y).2.frame hs (fun z _ _ => e _ (by omega)) (fun z _ _ => e _ (by omega)) (hI.line x y).2.1 (fun z => f _ _ (by omega)) (fun z => f _ _ (by omega)) (fun z => f _ _ (by omega)) (fun z => f _ _ (by omega))
  · rw [e _ (by omega)] at y
    rw [f _ _ (by omega), e _ (by omega)]
    exact ab k z x y p q
theorem rIn.top {t t2 : Int} {r r2 : Int → Int} (hI : rIn t r) (ht : t ≤ t2) (e : ∀ j : Int, j < 3 ∨ 6 ≤ j → r2 j = r j) (g : 0 ≤ r2 3 ∧ r2 3 ≤ 50 ∧ -(10000 * t2) ≤ r2 4 ∧ r2 4 ≤ 10000 * t2 ∧ 0 ≤ r2 5 ∧ r2 5 ≤ 10000000 * r 0) : rIn t2 r2 := by
  have hs : rSame r r2 := ⟨e 2 (by omega), fun _ _ _ _ _ _ => e _ (by omega)⟩
  have hI2 := hI.mono ht
  obtain ⟨a1, a2, a3, a4, a5, a6⟩ := hI2
  refine ⟨by rw [e 0 (by omega), e 1 (by omega), e 2 (by omega)]; omega, fun i x y => ?_, fun k x y => ⟨?_, ?_⟩, fun k x y => ?_, ?_, ?_⟩
  · rw [e _ (by omega)] at y
    have g := a2 i x y
    unfold rWo at g ⊢
    rw [wA_r (by omega)] at g ⊢
    rw [e _ (by omega), e _ (by omega), e _ (by omega)]
    exact g
  · rw [e _ (by omega)] at y
    have g := (a3 k x y).1
    unfold rWo at g ⊢
    rw [wA_c x] at g ⊢
    rw [e _ (by omega), e _ (by omega), e _ (by omega)]
    exact g
  · rw [e _ (by omega)] at y
    exact (a3 k x y).2.same hs (fun z _ _ => e _ (by omega)) (fun z _ _ => e _ (by omega)) (by omega) (by omega)
  · rw [e _ (by omega)] at y
    exact (a4 k x y).same hs x y (e _ (by omega)) (e _ (by omega))
  · have : sTot r2 = sTot r := by
      unfold sTot
      rw [e 0 (by omega), e 1 (by omega), e 2 (by omega), jsum_congr (f := fun i => r2 (8 + 3 * i)) (g := fun i => r (8 + 3 * i)) (fun k _ _ => e _ (by omega)), jsum_congr (f := fun k => r2 (23 + 11 * k)) (g := fun k => r (23 + 11 * k)) (fun k _ _ => e _ (by omega)), jsum_congr (f := fun k => r2 (70 + 8 * k)) (g := fun k => r (70 + 8 * k)) (fun k _ _ => e _ (by omega))]
    rw [this, e 0 (by omega)]
    exact a5
  · rw [e 1 (by omega), e 2 (by omega), jsum_congr (f := fun k => r2 (72 + 8 * k)) (g := fun k => r (72 + 8 * k)) (fun k _ _ => e _ (by omega)), jsum_congr (f := fun k => r2 (30 + 11 * k) + r2 (31 + 11 * k)) (g := fun k => r (30 + 11 * k) + r (31 + 11 * k)) (fun k _ _ => by
      show r2 _ + r2 _ = r _ + r _
      rw [e _ (by omega), e _ (by omega)])]
    exact a6
theorem rIn.keep {t : Int} {r : Int → Int} (hI : rIn t r) {j : Int} (hj : j < 8 ∨ 57 ≤ j) : sAll r j = r j := by
  have b1 := hI.1
  exact sAllN_keep _ _ (by omega) (fun i _ _ => by omega) (fun c _ _ => by omega) (fun c x y => hI.gates c x (by omega))
theorem sDr_all {t : Int} {r : Int → Int} (hI : rIn t r) {k : Int} (h0 : 0 ≤ k) : sDr (sAll r) k = sDr r k := by
  unfold sDr sW
  rw [hI.keep (by omega), hI.keep (by omega), hI.keep (by omega), hI.keep (by omega)]
theorem rPl.two {t : Int} {r : Int → Int} {p : Int} (hp : rPl r p) (hI : rIn t r) (b : Int) : (0 ≤ p ∧ p < r 0 ∧ p < 5 ∧ wA p + 2 = 8 + 3 * p ∧ sWa b p = b + 4 + p) ∨ (∃ c : Int, p = 100 + c ∧ 0 ≤ c ∧ c < r 1 ∧ c < 4 ∧ wA p + 2 = 23 + 11 * c ∧ sWa b p = b + 9 + 5 * c + 1) := by
  have b1 := hI.1
  unfold rPl at hp
  unfold wA sWa
  by_cases q : p < 100
  · left
    rw [if_pos q, if_pos q]
    omega
  · right
    refine ⟨p - 100, ?_⟩
    rw [if_neg q, if_neg q]
    omega
theorem rPl.lin {t : Int} {r : Int → Int} {p : Int} (hp : rPl r p) (hI : rIn t r) (b : Int) : (0 ≤ p ∧ p < r 0 ∧ p < 5 ∧ sWa b p = b + 4 + p) ∨ (100 ≤ p ∧ p < 100 + r 1 ∧ p < 104 ∧ sWa b p = b + 9 + 5 * (p - 100) + 1) := by
  have b1 := hI.1
  unfold rPl at hp
  unfold sWa
  by_cases q : p < 100
  · left
    rw [if_pos q]
    omega
  · right
    rw [if_neg q]
    omega
theorem rWs.wat {t : Int} {r : Int → Int} {p x : Int} (hp : rPl r p) (hI : rIn t r) : rWs r (rup r (wA p + 2) x) := by
  intro j h1 h2
  rcases hp.two hI 0 with ⟨q0, q1, q2, q3, -⟩ | ⟨c, -, q0, q1, q2, q3, -⟩
  · rw [rup_ne (by have := h1 p q0 q2; omega)]
  · rw [rup_ne (by have := h2 c q0 q2; omega)]
theorem jFR.wat1 {t : Int} {D : JD} {b p x : Int} {r : Int → Int} (h : jFR D b r) (hI : rIn t r) (hp : rPl r p) : jFR (jup D (sWa b p) 2 x) b (rup r (wA p + 2) x) := by
  have b1 := hI.1
  refine h.water hI (rWs.wat hp hI) (fun y k z1 z2 => ?_) (fun i z1 z2 => ?_) (fun c z1 z2 => ?_)
  · rcases hp.two hI b with ⟨q0, q1, q2, q3, q4⟩ | ⟨c, -, q0, q1, q2, q3, q4⟩
    · have := z1 p q0 q2
      simp only [jup]
      rw [if_neg (by omega)]
    · have := z2 c q0 q2
      simp only [jup]
      rw [if_neg (by omega)]
  · have w := (h.wr z1 z2 (by omega)).2.2.1
    rcases hp.two hI b with ⟨q0, q1, q2, q3, q4⟩ | ⟨c, -, q0, q1, q2, q3, q4⟩
    · rw [q3, q4]
      by_cases e : i = p
      · subst e; rw [jup_eq, rup_eq]
      · rw [jup_ne (by omega), rup_ne (by omega)]; exact w
    · rw [q3, q4, jup_ne (by omega), rup_ne (by omega)]; exact w
  · have w := (h.wc z1 z2).2.2.1
    rcases hp.two hI b with ⟨q0, q1, q2, q3, q4⟩ | ⟨e, -, q0, q1, q2, q3, q4⟩
    · rw [q3, q4, jup_ne (by omega), rup_ne (by omega)]; exact w
    · rw [q3, q4]
      by_cases ee : c = e
      · subst ee; rw [jup_eq, rup_eq]
      · rw [jup_ne (by omega), rup_ne (by omega)]; exact w
theorem sTot_wat {t : Int} {r : Int → Int} {p x : Int} (hp : rPl r p) (hI : rIn t r) : sTot (rup r (wA p + 2) x) = sTot r + (x - r (wA p + 2)) := by
  have b1 := hI.1
  rcases hp.two hI 0 with ⟨q0, q1, q2, q3, -⟩ | ⟨c, -, q0, q1, q2, q3, -⟩
  · rw [q3]
    unfold sTot
    rw [rup_ne (show (0 : Int) ≠ 8 + 3 * p by omega), rup_ne (show (1 : Int) ≠ 8 + 3 * p by omega), rup_ne (show (2 : Int) ≠ 8 + 3 * p by omega)]
    rw [jsum_one (f := fun i => r (8 + 3 * i)) (g := fun i => rup r (8 + 3 * p) x (8 + 3 * i)) (i := p) q0 (by omega) (fun k x y z => rup_ne (by omega)),
      jsum_congr (f := fun k => rup r (8 + 3 * p) x (23 + 11 * k)) (g := fun k => r (23 + 11 * k)) (fun k _ _ => rup_ne (by omega)),
      jsum_congr (f := fun k => rup r (8 + 3 * p) x (70 + 8 * k)) (g := fun k => r (70 + 8 * k)) (fun k _ _ => rup_ne (by omega))]
    show _ + (rup r (8 + 3 * p) x (8 + 3 * p) - r (8 + 3 * p)) + _ + _ = _
    rw [rup_eq]
    omega
  · rw [q3]
    unfold sTot
    rw [rup_ne (show (0 : Int) ≠ 23 + 11 * c by omega), rup_ne (show (1 : Int) ≠ 23 + 11 * c by omega), rup_ne (show (2 : Int) ≠ 23 + 11 * c by omega)]
    rw [jsum_one (f := fun i => r (23 + 11 * i)) (g := fun i => rup r (23 + 11 * c) x (23 + 11 * i)) (i := c) q0 (by omega) (fun k x y z => rup_ne (by omega)),
      jsum_congr (f := fun k => rup r (23 + 11 * c) x (8 + 3 * k)) (g := fun k => r (8 + 3 * k)) (fun k _ _ => rup_ne (by omega)),
      jsum_congr (f := fun k => rup r (23 + 11 * c) x (70 + 8 * k)) (g := fun k => r (70 + 8 * k)) (fun k _ _ => rup_ne (by omega))]
    show _ + (_ + (rup r (23 + 11 * c) x (23 + 11 * c) - r (23 + 11 * c))) + _ = _
    rw [rup_eq]
    omega
theorem rIn.waterT {t : Int} {r r2 : Int → Int} (h : rIn t r) (hw : rWs r r2) (h0 : ∀ i : Int, 0 ≤ i → i < r 0 → 0 ≤ r2 (8 + 3 * i)) (h1 : ∀ c : Int, 0 ≤ c → c < r 1 → 0 ≤ r2 (23 + 11 * c)) (ht : sTot r2 ≤ 10000000 * r 0 + 10000 * t) : rIn t r2 := by
  obtain ⟨a1, a2, a3, a4, a5, a6⟩ := h
  have hs := hw.same
  have g : ∀ j : Int, 0 ≤ j → j < 6 → r2 j = r j := fun j _ _ => hw j (fun i _ _ => by omega) (fun c _ _ => by omega)
  have e0 := g 0 (by omega) (by omega)
  have e1 := g 1 (by omega) (by omega)
  have e2 := g 2 (by omega) (by omega)
  have e3 := g 3 (by omega) (by omega)
  have e4 := g 4 (by omega) (by omega)
  have e5 := g 5 (by omega) (by omega)
  refine ⟨by rw [e0, e1, e2, e3, e4, e5]; exact a1, fun i x y => ?_, fun c x y => ?_, fun b x y => ?_, by rw [e0]; omega, ?_⟩
  · rw [e0] at y
    exact hw.wo (Or.inl ⟨x, by omega⟩) (a2 i x y) (by rw [wA_r (by omega), show 6 + 3 * i + 2 = 8 + 3 * i by omega]; exact h0 i x y)
  · rw [e1] at y
    refine ⟨hw.wo (Or.inr ⟨by omega, by omega⟩) (a3 c x y).1 (by rw [wA_c x, show 21 + 11 * c + 2 = 23 + 11 * c by omega]; exact h1 c x y), ?_⟩
    exact (a3 c x y).2.same hs (fun k _ _ => hw _ (fun i _ _ => by omega) (fun c' _ _ => by omega)) (fun k _ _ => hw _ (fun i _ _ => by omega) (fun c' _ _ => by omega)) (by omega) (by omega)
  · rw [e2] at y
    exact (a4 b x y).same hs x y e0 e1
  · rw [e2, e1]
    rw [show jsum (fun b => r2 (72 + 8 * b)) (r 2).toNat = jsum (fun b => r (72 + 8 * b)) (r 2).toNat from jsum_congr (fun k _ _ => hw _ (fun i _ _ => by omega) (fun c' _ _ => by omega)),
      show jsum (fun c => r2 (30 + 11 * c) + r2 (31 + 11 * c)) (r 1).toNat = jsum (fun c => r (30 + 11 * c) + r (31 + 11 * c)) (r 1).toNat from jsum_congr (fun k _ _ => by
        show r2 _ + r2 _ = r _ + r _
        rw [hw (30 + 11 * k) (fun i _ _ => by omega) (fun c' _ _ => by omega), hw (31 + 11 * k) (fun i _ _ => by omega) (fun c' _ _ => by omega)])]
    exact a6
theorem rIn.wat1 {t t2 : Int} {r : Int → Int} {p x : Int} (hI : rIn t r) (hp : rPl r p) (hx : 0 ≤ x) (ht : t ≤ t2) (hs : sTot r + (x - r (wA p + 2)) ≤ 10000000 * r 0 + 10000 * t2) : rIn t2 (rup r (wA p + 2) x) := by
  refine (hI.mono ht).waterT (rWs.wat hp hI) (fun i z1 z2 => ?_) (fun c z1 z2 => ?_) (by rw [sTot_wat hp hI]; exact hs)
  · unfold rup
    split
    · exact hx
    · exact hI.wr z1 z2
  · unfold rup
    split
    · exact hx
    · exact hI.wc z1 z2
theorem sCn_w {r r2 : Int → Int} (h2 : r2 2 = r 2) (h : ∀ b : Int, 0 ≤ b → b < r 2 → r2 (71 + 8 * b) = r (71 + 8 * b)) (w : Int) : sCn r2 w = sCn r w := by
  unfold sCn
  rw [h2]
  refine jsum_congr (fun k a b => ?_)
  rw [h k a (by omega)]
theorem sLf_w {r r2 : Int → Int} (h2 : r2 2 = r 2) (h : ∀ b : Int, 0 ≤ b → b < r 2 → r2 (71 + 8 * b) = r (71 + 8 * b) ∧ r2 (65 + 8 * b) = r (65 + 8 * b)) (c : Int) (hl : r2 (24 + 11 * c) = r (24 + 11 * c)) : sLf r2 c = sLf r c := by
  unfold sLf
  rw [h2, hl]
  congr 1
  refine jsum_congr (fun k a b => ?_)
  obtain ⟨g1, g2⟩ := h k a (by omega)
  rw [g1, g2]
theorem sFl_put {r : Int → Int} {k f v : Int} (hf : f = 69 + 8 * k ∨ f = 70 + 8 * k) (h0 : 0 ≤ k) (h1 : k < r 2) (w : Int) : sFl (rup r f (r f + v)) w = sFl r w + (if r (71 + 8 * k) = w then v else 0) := by
  unfold sFl
  rw [rup_ne (show (2 : Int) ≠ f by omega)]
  rw [jsum_one (f := fun b => if r (71 + 8 * b) = w then sW r b else 0) (g := fun b => if rup r f (r f + v) (71 + 8 * b) = w then sW (rup r f (r f + v)) b else 0) (i := k) h0 (by omega) (fun b x y z => by
    show (if rup r f (r f + v) (71 + 8 * b) = w then sW (rup r f (r f + v)) b else 0) = (if r (71 + 8 * b) = w then sW r b else 0)
    unfold sW
    rw [rup_ne (by omega), rup_ne (by omega), rup_ne (by omega), rup_ne (by omega)])]
  show _ + ((if rup r f (r f + v) (71 + 8 * k) = w then sW (rup r f (r f + v)) k else 0) - (if r (71 + 8 * k) = w then sW r k else 0)) = _
  rw [rup_ne (show 71 + 8 * k ≠ f by omega)]
  have e : sW (rup r f (r f + v)) k = sW r k + v := by
    unfold sW
    rcases hf with rfl | rfl
    · rw [rup_eq, rup_ne (by omega), rup_ne (by omega)]; omega
    · rw [rup_eq, rup_ne (by omega), rup_ne (by omega)]; omega
  rw [e]
  split <;> omega
theorem jFR.put {t : Int} {D : JD} {b k f z v : Int} {r : Int → Int} (h : jFR D b r) (hI : rIn t r) (h0 : 0 ≤ k) (h1 : k < r 2) (hf : (f = 69 + 8 * k ∧ z = 4) ∨ (f = 70 + 8 * k ∧ z = 5)) :
    jFR (jup (jup D (b + 29 + k) z (r f + v)) (sWa b (r (71 + 8 * k))) 3 (sFl r (r (71 + 8 * k)) + v)) b (rup r f (r f + v)) := by
  have b1 := hI.1
  have hp := (hI.bw h0 h1).1
  have hf2 : f = 69 + 8 * k ∨ f = 70 + 8 * k := by omega
  have hfb : 69 ≤ f ∧ f < 161 := by omega
  have e : ∀ j : Int, j ≠ f → rup r f (r f + v) j = r j := fun j hj => rup_ne hj
  have hcn := fun w => sCn_w (r := r) (r2 := rup r f (r f + v)) (e 2 (by omega)) (fun b _ _ => e _ (by omega)) w
  have hlf := fun c hc => sLf_w (r := r) (r2 := rup r f (r f + v)) (e 2 (by omega)) (fun b _ _ => ⟨e _ (by omega), e _ (by omega)⟩) c hc
  have hfl := fun w => sFl_put (r := r) (v := v) hf2 h0 h1 w
  have hq := hp.lin hI b
  obtain ⟨⟨a0, a1, a2, a3, a4, a5⟩, aw, ac, ab⟩ := h
  generalize hX : jup (jup D (b + 29 + k) z (r f + v)) (sWa b (r (71 + 8 * k))) 3 (sFl r (r (71 + 8 * k)) + v) = D2
  have u : ∀ x y : Int, (x ≠ b + 29 + k ∨ y ≠ z) → (x ≠ sWa b (r (71 + 8 * k)) ∨ y ≠ 3) → D2 x y = D x y := fun x y p q => by
    rw [← hX]
    simp only [jup]
    rw [if_neg (by omega), if_neg (by omega)]
  have us : D2 (sWa b (r (71 + 8 * k))) 3 = sFl r (r (71 + 8 * k)) + v := by rw [← hX, jup_eq]
  have uf : D2 (b + 29 + k) z = r f + v := by rw [← hX, jup_ne (by omega), jup_eq]
  refine ⟨⟨?_, ?_, ?_, ?_, ?_, ?_⟩, fun i x y => ?_, fun c x y => ⟨?_, ?_⟩, fun c y x y2 p q => ?_⟩
  · rw [u _ _ (by omega) (by omega), e _ (by omega)]; exact a0
  · rw [u _ _ (by omega) (by omega), e _ (by omega)]; exact a1
  · rw [u _ _ (by omega) (by omega), e _ (by omega)]; exact a2
  · rw [u _ _ (by omega) (by omega), e _ (by omega)]; exact a3
  · rw [u _ _ (by omega) (by omega), e _ (by omega)]; exact a4
  · rw [u _ _ (by omega) (by omega), e _ (by omega)]; exact a5
  · rw [e _ (by omega)] at y
    have g := aw i x y
    unfold jWR at g ⊢
    rw [wA_r (by omega)] at g ⊢
    rw [u _ 0 (by omega) (by omega), u _ 1 (by omega) (by omega), u _ 2 (by omega) (by omega), u _ 4 (by omega) (by omega), e _ (by omega), e _ (by omega), e _ (by omega), hfl, hcn]
    refine ⟨g.1, g.2.1, g.2.2.1, ?_, g.2.2.2.2⟩
    by_cases q : r (71 + 8 * k) = i
    · rw [if_pos q]
      have : b + 4 + i = sWa b (r (71 + 8 * k)) := by omega
      rw [this, us, q]
    · rw [if_neg q, u _ _ (by omega) (by omega)]
      omega
  · rw [e _ (by omega)] at y
    have g := (ac c x y).1
    unfold jWR at g ⊢
    rw [wA_c x] at g ⊢
    rw [u _ 0 (by omega) (by omega), u _ 1 (by omega) (by omega), u _ 2 (by omega) (by omega), u _ 4 (by omega) (by omega), e _ (by omega), e _ (by omega), e _ (by omega), hfl, hcn]
    refine ⟨g.1, g.2.1, g.2.2.1, ?_, g.2.2.2.2⟩
    by_cases q : r (71 + 8 * k) = 100 + c
    · rw [if_pos q]
      have : b + 9 + 5 * c + 1 = sWa b (r (71 + 8 * k)) := by omega
      rw [this, us, q]
    · rw [if_neg q, u _ _ (by omega) (by omega)]
      omega
  · rw [e _ (by omega)] at y
    obtain ⟨e5, e6, e7, e4, er, q1, q2, q3, q4, q5, q6⟩ := (ac c x y).2
    unfold jCR
    rw [hlf c (e _ (by omega)), e _ (by omega), e _ (by omega), e _ (by omega), e _ (by omega), e _ (by omega), e _ (by omega), e _ (by omega), e _ (by omega), e _ (by omega)]
    refine ⟨by rw [u _ _ (by omega) (by omega)]; exact e5, by rw [u _ _ (by omega) (by omega)]; exact e6, by rw [u _ _ (by omega) (by omega)]; exact e7, by rw [u _ _ (by omega) (by omega)]; exact e4, fun y p q => by rw [u _ _ (by omega) (by omega), e _ (by omega)]; exact er y p q,
      by rw [u _ _ (by omega) (by omega)]; exact q1, by rw [u _ _ (by omega) (by omega)]; exact q2, by rw [u _ _ (by omega) (by omega)]; exact q3, by rw [u _ _ (by omega) (by omega)]; exact q4, by rw [u _ _ (by omega) (by omega)]; exact q5, by rw [u _ _ (by omega) (by omega)]; exact q6⟩
  · rw [e _ (by omega)] at y2
    by_cases w : c = k ∧ y = z
    · obtain ⟨rfl, rfl⟩ := w
      rw [uf, show 65 + 8 * c + y = f by omega, rup_eq]
    · rw [u _ _ (by omega) (by omega), e _ (by omega)]
      exact ab c y x y2 p q
theorem rIn.put {t t2 : Int} {r : Int → Int} {k f v : Int} (hI : rIn t r) (ht : t ≤ t2) (h0 : 0 ≤ k) (h1 : k < r 2) (hf : f = 69 + 8 * k ∨ f = 70 + 8 * k) (hv : 0 ≤ r f + v) (hm : r (69 + 8 * k) + r (70 + 8 * k) + v ≤ r (68 + 8 * k)) (hs : sTot r + (if f = 70 + 8 * k then v else 0) ≤ 10000000 * r 0 + 10000 * t2) : rIn t2 (rup r f (r f + v)) := by
  have b1 := hI.1
  have e : ∀ j : Int, j ≠ f → rup r f (r f + v) j = r j := fun j hj => rup_ne hj
  have hcn := fun w => sCn_w (r := r) (r2 := rup r f (r f + v)) (e 2 (by omega)) (fun b _ _ => e _ (by omega)) w
  have hlf := fun c hc => sLf_w (r := r) (r2 := rup r f (r f + v)) (e 2 (by omega)) (fun b _ _ => ⟨e _ (by omega), e _ (by omega)⟩) c hc
  obtain ⟨a1, a2, a3, a4, a5, a6⟩ := hI.mono ht
  refine ⟨?_, fun i x y => ?_, fun c x y => ⟨?_, ?_⟩, fun c x y => ?_, ?_, ?_⟩
  · rw [e 0 (by omega), e 1 (by omega), e 2 (by omega), e 3 (by omega), e 4 (by omega), e 5 (by omega)]; exact a1
  · rw [e _ (by omega)] at y
    have g := a2 i x y
    unfold rWo at g ⊢
    rw [wA_r (by omega)] at g ⊢
    rw [e _ (by omega), e _ (by omega), e _ (by omega)]
    exact g
  · rw [e _ (by omega)] at y
    have g := (a3 c x y).1
    unfold rWo at g ⊢
    rw [wA_c x] at g ⊢
    rw [e _ (by omega), e _ (by omega), e _ (by omega)]
    exact g
  · rw [e _ (by omega)] at y
    have g := (a3 c x y).2
    have hl := hI.line x y
    unfold rCo at g ⊢
    rw [hcn, hlf c (e _ (by omega)), e 2 (by omega), e (24 + 11 * c) (by omega), e (25 + 11 * c) (by omega), e (26 + 11 * c) (by omega), e (27 + 11 * c) (by omega), e (28 + 11 * c) (by omega), e (29 + 11 * c) (by omega), e (30 + 11 * c) (by omega), e (31 + 11 * c) (by omega), e (161 + 13 * c) (by omega)]
    obtain ⟨g1, g2, g3, g4, g5, g6, g7, g8, g9, g10, g11, g12, g13, g14, g15, g16, g17⟩ := g
    refine ⟨g1, g2, g3, g4, g5, g6, g7, g8, g9, g10, g11, g12, g13, g14, g15, fun z p q => ?_, fun y z p q s => ?_⟩
    · obtain ⟨y1, y2, y3⟩ := g16 z p q
      rw [e (162 + 13 * c + z) (by omega), e _ (by omega)]
      exact ⟨y1, y2, y3⟩
    · rw [e _ (by omega), e _ (by omega)]
      exact g17 y z p q s
  · rw [e _ (by omega)] at y
    have g := a4 c x y
    unfold rBo at g ⊢
    rw [e 0 (by omega), e 1 (by omega), e (65 + 8 * c) (by omega), e (66 + 8 * c) (by omega), e (67 + 8 * c) (by omega), e (68 + 8 * c) (by omega), e (71 + 8 * c) (by omega), e (72 + 8 * c) (by omega)]
    by_cases q : c = k
    · subst q
      rcases hf with rfl | rfl
      · rw [rup_eq, e _ (by omega)]
        omega
      · rw [rup_eq, e _ (by omega)]
        omega
    · rw [e _ (by omega), e _ (by omega)]
      exact g
  · have hT : sTot (rup r f (r f + v)) = sTot r + (if f = 70 + 8 * k then v else 0) := by
      unfold sTot
      rw [e 0 (by omega), e 1 (by omega), e 2 (by omega), jsum_congr (f := fun i => rup r f (r f + v) (8 + 3 * i)) (g := fun i => r (8 + 3 * i)) (fun k _ _ => e _ (by omega)), jsum_congr (f := fun k => rup r f (r f + v) (23 + 11 * k)) (g := fun k => r (23 + 11 * k)) (fun k _ _ => e _ (by omega))]
      rw [jsum_one (f := fun i => r (70 + 8 * i)) (g := fun i => rup r f (r f + v) (70 + 8 * i)) (i := k) h0 (by omega) (fun c x y z => e _ (by omega))]
      show _ + (_ + (rup r f (r f + v) (70 + 8 * k) - r (70 + 8 * k))) = _
      by_cases q : f = 70 + 8 * k
      · rw [if_pos q, ← q, rup_eq]; omega
      · rw [if_neg q, e _ (by omega)]; omega
    rw [hT, e 0 (by omega)]
    exact hs
  · rw [e 1 (by omega), e 2 (by omega), jsum_congr (f := fun k => rup r f (r f + v) (72 + 8 * k)) (g := fun k => r (72 + 8 * k)) (fun k _ _ => e _ (by omega)), jsum_congr (f := fun k => rup r f (r f + v) (30 + 11 * k) + rup r f (r f + v) (31 + 11 * k)) (g := fun k => r (30 + 11 * k) + r (31 + 11 * k)) (fun c _ _ => by
      show rup r f (r f + v) _ + rup r f (r f + v) _ = r _ + r _
      rw [e _ (by omega), e _ (by omega)])]
    exact a6
