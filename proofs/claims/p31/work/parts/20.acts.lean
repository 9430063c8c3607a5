/-! WHAT ONE CHAMBER'S OWN NUMBERS CHANGE, and the clearance -/
theorem jCR.frame {D D2 : JD} {c : Int} {r r2 : Int → Int} {k : Int} (h : jCR D c r k) (hs : rSame r r2) (hc : ∀ z : Int, 3 ≤ z → z < 11 → r2 (21 + 11 * k + z) = r (21 + 11 * k + z)) (hl : ∀ z : Int, 0 ≤ z → z < 13 → r2 (161 + 13 * k + z) = r (161 + 13 * k + z)) (h12 : r (161 + 13 * k) ≤ 12)
    (h0 : ∀ z : Int, D2 c z = D c z) (h2 : ∀ z : Int, D2 (c + 2) z = D (c + 2) z) (h3 : ∀ z : Int, D2 (c + 3) z = D (c + 3) z) (h4 : ∀ z : Int, D2 (c + 4) z = D (c + 4) z) : jCR D2 c r2 k := by
  obtain ⟨e5, e6, e7, e4, er, q⟩ := h
  have g : ∀ z j : Int, 3 ≤ z → z < 11 → j = 21 + 11 * k + z → r2 j = r j := fun z j a b e => by rw [e]; exact hc z a b
  have n24 := g 3 (24 + 11 * k) (by omega) (by omega) (by omega)
  have nl : r2 (161 + 13 * k) = r (161 + 13 * k) := by have := hl 0 (by omega) (by omega); simpa using this
  unfold jCR
  rw [h0, h0, h0, h0, h2, h2, h2, h3, h3, h3, n24, g 8 (29 + 11 * k) (by omega) (by omega) (by omega), nl, g 4 (25 + 11 * k) (by omega) (by omega) (by omega), g 5 (26 + 11 * k) (by omega) (by omega) (by omega),
    g 6 (27 + 11 * k) (by omega) (by omega) (by omega), g 7 (28 + 11 * k) (by omega) (by omega) (by omega), g 9 (30 + 11 * k) (by omega) (by omega) (by omega), g 10 (31 + 11 * k) (by omega) (by omega) (by omega), sLf_same hs k n24]
  refine ⟨e5, e6, e7, e4, fun z p1 p2 => ?_, q⟩
  have := hl (z + 1) (by omega) (by omega)
  rw [show 161 + 13 * k + (z + 1) = 162 + 13 * k + z by omega] at this
  rw [h4, this]
  exact er z p1 p2
theorem rIn.line {t : Int} {r : Int → Int} (hI : rIn t r) {c : Int} (h0 : 0 ≤ c) (h1 : c < r 1) : 0 ≤ r (161 + 13 * c) ∧ r (161 + 13 * c) ≤ 12 ∧ r (161 + 13 * c) = sCn r (100 + c) := by
  have co := (hI.2.2.1 c h0 h1).2
  unfold rCo at co
  have e := co.2.2.2.2.2.2.2.2.2.2.2.2.2.2.1
  have hl := sCn_le hI (100 + c)
  have h2 : 0 ≤ sCn r (100 + c) := by unfold sCn; exact jsum_nonneg (fun k _ _ => by show 0 ≤ (if r (71 + 8 * k) = 100 + c then (1 : Int) else 0); split <;> omega)
  omega
/-- r2 is r but for the own numbers of chamber c -/
def rOwn (r r2 : Int → Int) (c : Int) : Prop := ∀ j : Int, ¬ (24 + 11 * c ≤ j ∧ j < 32 + 11 * c) → ¬ (161 + 13 * c ≤ j ∧ j < 174 + 13 * c) → r2 j = r j
theorem rOwn.same {r r2 : Int → Int} {c : Int} (h : rOwn r r2 c) (h0 : 0 ≤ c ∧ c < 4) (h2 : r 2 ≤ 12) : rSame r r2 := ⟨h 2 (by omega) (by omega), fun b k _ _ _ _ => h _ (by omega) (by omega)⟩
theorem jFR.chm {t : Int} {D D2 : JD} {b c : Int} {r r2 : Int → Int} (h : jFR D b r) (hI : rIn t r) (h0 : 0 ≤ c) (h1 : c < r 1) (hr : rOwn r r2 c) (hd : ∀ x k : Int, x ≠ b + 9 + 5 * c → x ≠ b + 9 + 5 * c + 2 → x ≠ b + 9 + 5 * c + 3 → x ≠ b + 9 + 5 * c + 4 → D2 x k = D x k)
    (hcr : jCR D2 (b + 9 + 5 * c) r2 c) : jFR D2 b r2 := by
  have b1 := hI.1
  have hs := hr.same ⟨h0, by omega⟩ (by omega)
  obtain ⟨⟨a0, a1, a2, a3, a4, a5⟩, aw, ac, ab⟩ := h
  have f : ∀ k : Int, D2 b k = D b k := fun k => hd b k (by omega) (by omega) (by omega) (by omega)
  have g : ∀ j : Int, 0 ≤ j → j < 6 → r2 j = r j := fun j _ _ => hr j (by omega) (by omega)
  refine ⟨by rw [f, f, f, f, f, f, g 0 (by omega) (by omega), g 1 (by omega) (by omega), g 2 (by omega) (by omega), g 3 (by omega) (by omega), g 4 (by omega) (by omega), g 5 (by omega) (by omega)]; exact ⟨a0, a1, a2, a3, a4, a5⟩, fun i x y => ?_, fun k x y => ⟨?_, ?_⟩, fun k z x y p q => ?_⟩
  · rw [g 0 (by omega) (by omega)] at y
    have e := aw i x y
    unfold jWR at e ⊢
    rw [wA_r (by omega)] at e ⊢
    rw [hd _ 0 (by omega) (by omega) (by omega) (by omega), hd _ 1 (by omega) (by omega) (by omega) (by omega), hd _ 2 (by omega) (by omega) (by omega) (by omega), hd _ 3 (by omega) (by omega) (by omega) (by omega), hd _ 4 (by omega) (by omega) (by omega) (by omega),
      hr (6 + 3 * i) (by omega) (by omega), hr (6 + 3 * i + 1) (by omega) (by omega), hr (6 + 3 * i + 2) (by omega) (by omega), sFl_same hs, sCn_same hs]
    exact e
  · rw [g 1 (by omega) (by omega)] at y
    have e := (ac k x y).1
    unfold jWR at e ⊢
    rw [wA_c x] at e ⊢
    rw [hd _ 0 (by omega) (by omega) (by omega) (by omega), hd _ 1 (by omega) (by omega) (by omega) (by omega), hd _ 2 (by omega) (by omega) (by omega) (by omega), hd _ 3 (by omega) (by omega) (by omega) (by omega), hd _ 4 (by omega) (by omega) (by omega) (by omega),
      hr (21 + 11 * k) (by omega) (by omega), hr (21 + 11 * k + 1) (by omega) (by omega), hr (21 + 11 * k + 2) (by omega) (by omega), sFl_same hs, sCn_same hs]
    exact e
  · rw [g 1 (by omega) (by omega)] at y
    by_cases e : k = c
    · rw [e]; exact hcr
    · exact (ac k x y).2.frame hs (fun z _ _ => hr _ (by omega) (by omega)) (fun z _ _ => hr _ (by omega) (by omega)) (hI.line x y).2.1 (fun z => hd _ z (by omega) (by omega) (by omega) (by omega)) (fun z => hd _ z (by omega) (by omega) (by omega) (by omega)) (fun z => hd _ z (by omega) (by omega) (by omega) (by omega)) (fun z => hd _ z (by omega) (by omega) (by omega) (by omega))
  · rw [g 2 (by omega) (by omega)] at y
    rw [hd _ _ (by omega) (by omega) (by omega) (by omega), hr _ (by omega) (by omega)]
    exact ab k z x y p q
theorem rIn.chm {t : Int} {r r2 : Int → Int} {c : Int} (h : rIn t r) (h0 : 0 ≤ c) (h1 : c < r 1) (hr : rOwn r r2 c) (hco : rCo t r2 c) (hp : r2 (30 + 11 * c) + r2 (31 + 11 * c) = r (30 + 11 * c) + r (31 + 11 * c)) : rIn t r2 := by
  have b1 := h.1
  have hs := hr.same ⟨h0, by omega⟩ (by omega)
  obtain ⟨a1, a2, a3, a4, a5, a6⟩ := h
  have g : ∀ j : Int, 0 ≤ j → j < 6 → r2 j = r j := fun j _ _ => hr j (by omega) (by omega)
  have e0 := g 0 (by omega) (by omega)
  have e1 := g 1 (by omega) (by omega)
  have e2 := g 2 (by omega) (by omega)
  refine ⟨by rw [e0, e1, e2, g 3 (by omega) (by omega), g 4 (by omega) (by omega), g 5 (by omega) (by omega)]; exact a1, fun i x y => ?_, fun k x y => ⟨?_, ?_⟩, fun k x y => ?_, ?_, ?_⟩
  · rw [e0] at y
    have e := a2 i x y
    unfold rWo at e ⊢
    rw [wA_r (by omega)] at e ⊢
    rw [hr (6 + 3 * i) (by omega) (by omega), hr (6 + 3 * i + 1) (by omega) (by omega), hr (6 + 3 * i + 2) (by omega) (by omega)]
    exact e
  · rw [e1] at y
    have e := (a3 k x y).1
    unfold rWo at e ⊢
    rw [wA_c x] at e ⊢
    rw [hr (21 + 11 * k) (by omega) (by omega), hr (21 + 11 * k + 1) (by omega) (by omega), hr (21 + 11 * k + 2) (by omega) (by omega)]
    exact e
  · rw [e1] at y
    by_cases e : k = c
    · rw [e]; exact hco
    · exact (a3 k x y).2.same hs (fun z _ _ => hr _ (by omega) (by omega)) (fun z _ _ => hr _ (by omega) (by omega)) (by omega) (by omega)
  · rw [e2] at y
    exact (a4 k x y).same hs x y e0 e1
  · have : sTot r2 = sTot r := by
      unfold sTot
      rw [e0, e1, e2, jsum_congr (f := fun i => r2 (8 + 3 * i)) (g := fun i => r (8 + 3 * i)) (fun k _ _ => hr _ (by omega) (by omega)), jsum_congr (f := fun k => r2 (23 + 11 * k)) (g := fun k => r (23 + 11 * k)) (fun k _ _ => hr _ (by omega) (by omega)), jsum_congr (f := fun k => r2 (70 + 8 * k)) (g := fun k => r (70 + 8 * k)) (fun k _ _ => hr _ (by omega) (by omega))]
    rw [e0]
    omega
  · rw [e1, e2, jsum_congr (f := fun k => r2 (72 + 8 * k)) (g := fun k => r (72 + 8 * k)) (fun k _ _ => hr _ (by omega) (by omega)), jsum_one (f := fun k => r (30 + 11 * k) + r (31 + 11 * k)) (g := fun k => r2 (30 + 11 * k) + r2 (31 + 11 * k)) (i := c) h0 (by omega) (fun k x y z => by
      show r2 _ + r2 _ = r _ + r _
      rw [hr (30 + 11 * k) (by omega) (by omega), hr (31 + 11 * k) (by omega) (by omega)])]
    show _ = _ + (r2 (30 + 11 * c) + r2 (31 + 11 * c) - (r (30 + 11 * c) + r (31 + 11 * c)))
    omega
theorem rup_own {r : Int → Int} {c k v : Int} (h : 24 + 11 * c ≤ k ∧ k < 32 + 11 * c) : rOwn r (rup r k v) c := fun j h1 _ => rup_ne (fun e => h1 (by rw [e]; exact h))
theorem sLf_own {r : Int → Int} {c k v : Int} (h : 24 + 11 * c < k ∧ k < 32 + 11 * c) (h0 : 0 ≤ c ∧ c < 4) (h2 : r 2 ≤ 12) (x : Int) (hx : k ≠ 24 + 11 * x) : sLf (rup r k v) x = sLf r x :=
  sLf_same ((rup_own (r := r) (c := c) (v := v) ⟨by omega, h.2⟩).same h0 h2) x (rup_ne (fun e => hx e.symm))
/-- one own number of a chamber, but its length, is set -/
theorem rCo.own {t : Int} {r : Int → Int} {c k v : Int} (hI : rIn t r) (h0 : 0 ≤ c) (h1 : c < r 1) (h : 24 + 11 * c < k ∧ k < 32 + 11 * c)
    (hk : (k = 25 + 11 * c ∧ 0 ≤ v ∧ v ≤ 5000) ∨ (k = 26 + 11 * c ∧ 0 ≤ v ∧ v ≤ 5000) ∨ (k = 27 + 11 * c ∧ 0 ≤ v ∧ v ≤ r (30 + 11 * c)) ∨ (k = 28 + 11 * c ∧ 0 ≤ v ∧ v ≤ r (31 + 11 * c)) ∨ (k = 29 + 11 * c ∧ (v = -100000005 ∨ v = 0 ∨ v = 1))) : rCo t (rup r k v) c := by
  have b1 := hI.1
  have hr := rup_own (r := r) (c := c) (v := v) (k := k) ⟨by omega, h.2⟩
  have hs := hr.same ⟨h0, by omega⟩ (by omega)
  obtain ⟨a1, a2, a3, a4, a5, a6, a7, a8, a9, a10, a11, a12, a13, a14, a15, a16, a17⟩ := (hI.2.2.1 c h0 h1).2
  have hln := hI.line h0 h1
  unfold rCo
  rw [rup_ne (show 24 + 11 * c ≠ k by omega), rup_ne (show 30 + 11 * c ≠ k by omega), rup_ne (show 31 + 11 * c ≠ k by omega), rup_ne (show 161 + 13 * c ≠ k by omega), rup_ne (show (2 : Int) ≠ k by omega), sCn_same hs, sLf_own h ⟨h0, by omega⟩ (by omega) c (by omega)]
  have z1 : ∀ z : Int, 0 ≤ z → rup r k v (162 + 13 * c + z) = r (162 + 13 * c + z) := fun z hz => rup_ne (by omega)
  refine ⟨a1, a2, ?_, ?_, ?_, ?_, ?_, ?_, ?_, ?_, a11, a12, ?_, a14, a15, fun z p q => ?_, fun y z p q s => ?_⟩
  · unfold rup; split <;> omega
  · unfold rup; split <;> omega
  · unfold rup; split <;> omega
  · unfold rup; split <;> omega
  · unfold rup; split <;> omega
  · unfold rup; split <;> omega
  · unfold rup; split <;> omega
  · unfold rup; split <;> omega
  · unfold rup; split <;> omega
  · obtain ⟨y1, y2, y3⟩ := a16 z p q
    rw [z1 z p]
    exact ⟨y1, y2, by rw [rup_ne (by omega)]; exact y3⟩
  · rw [z1 y p, z1 z (by omega)]
    exact a17 y z p q s
