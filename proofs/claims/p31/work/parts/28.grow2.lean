/-! WHAT COMES NEW: a reach, a chamber -/
def rPutR (a f w : Int) (r : Int → Int) : Int → Int := rup (rup (rup (rup (rup r (6 + 3 * r 0) a) (7 + 3 * r 0) f) (8 + 3 * r 0) w) 0 (r 0 + 1)) 5 (r 5 + w)
theorem rPutR_o {a f w : Int} {r : Int → Int} {j : Int} (h0 : j ≠ 0) (h5 : j ≠ 5) (hj : j < 6 + 3 * r 0 ∨ 9 + 3 * r 0 ≤ j) : rPutR a f w r j = r j := by
  unfold rPutR
  rw [rup_ne h5, rup_ne h0, rup_ne (by omega), rup_ne (by omega), rup_ne (by omega)]
theorem rPutR_n {a f w : Int} {r : Int → Int} (h0 : 0 ≤ r 0) : rPutR a f w r 0 = r 0 + 1 ∧ rPutR a f w r 5 = r 5 + w ∧ rPutR a f w r (6 + 3 * r 0) = a ∧ rPutR a f w r (7 + 3 * r 0) = f ∧ rPutR a f w r (8 + 3 * r 0) = w := by
  unfold rPutR
  refine ⟨by rw [rup_ne (by omega), rup_eq], by rw [rup_eq], ?_, ?_, ?_⟩
  · rw [rup_ne (by omega), rup_ne (by omega), rup_ne (by omega), rup_ne (by omega), rup_eq]
  · rw [rup_ne (by omega), rup_ne (by omega), rup_ne (by omega), rup_eq]
  · rw [rup_ne (by omega), rup_ne (by omega), rup_eq]
def rPutC (a l f : Int) (r : Int → Int) : Int → Int :=
  rup (rup (rup (rup (rup (rup (rup (rup (rup (rup (rup (rup (rup r (21 + 11 * r 1) a) (22 + 11 * r 1) f) (23 + 11 * r 1) 0) (24 + 11 * r 1) l) (25 + 11 * r 1) 0) (26 + 11 * r 1) 0) (27 + 11 * r 1) 0) (28 + 11 * r 1) 0) (29 + 11 * r 1) (-100000005)) (30 + 11 * r 1) 0) (31 + 11 * r 1) 0) (161 + 13 * r 1) 0) 1 (r 1 + 1)
theorem rPutC_o {a l f : Int} {r : Int → Int} {j : Int} (h0 : j ≠ 1) (h5 : j ≠ 161 + 13 * r 1) (hj : j < 21 + 11 * r 1 ∨ 32 + 11 * r 1 ≤ j) : rPutC a l f r j = r j := by
  unfold rPutC
  rw [rup_ne h0, rup_ne h5, rup_ne (by omega), rup_ne (by omega), rup_ne (by omega), rup_ne (by omega), rup_ne (by omega), rup_ne (by omega), rup_ne (by omega), rup_ne (by omega), rup_ne (by omega), rup_ne (by omega), rup_ne (by omega)]
theorem rPutC_n {a l f : Int} {r : Int → Int} (h0 : 0 ≤ r 1) : rPutC a l f r 1 = r 1 + 1 ∧ rPutC a l f r (161 + 13 * r 1) = 0 ∧ rPutC a l f r (21 + 11 * r 1) = a ∧ rPutC a l f r (22 + 11 * r 1) = f ∧ rPutC a l f r (23 + 11 * r 1) = 0 ∧ rPutC a l f r (24 + 11 * r 1) = l ∧ rPutC a l f r (25 + 11 * r 1) = 0 ∧ rPutC a l f r (26 + 11 * r 1) = 0 ∧ rPutC a l f r (27 + 11 * r 1) = 0 ∧ rPutC a l f r (28 + 11 * r 1) = 0 ∧ rPutC a l f r (29 + 11 * r 1) = -100000005 ∧ rPutC a l f r (30 + 11 * r 1) = 0 ∧ rPutC a l f r (31 + 11 * r 1) = 0 := by
  refine ⟨?_, ?_, ?_, ?_, ?_, ?_, ?_, ?_, ?_, ?_, ?_, ?_, ?_⟩ <;> unfold rPutC <;> (repeat (first | rw [rup_eq] | rw [rup_ne (by omega)]))
/-- what a flight needs to grow -/
def rWk (r : Int → Int) : Prop := 0 ≤ r 0 ∧ r 0 ≤ 5 ∧ 0 ≤ r 1 ∧ r 1 ≤ 4 ∧ 0 ≤ r 2 ∧ r 2 ≤ 12 ∧ (∀ c : Int, 0 ≤ c → c < r 1 → r (161 + 13 * c) ≤ 12)
theorem rIn.wk {t : Int} {r : Int → Int} (hI : rIn t r) : rWk r := by
  have b1 := hI.1
  exact ⟨by omega, by omega, by omega, by omega, by omega, by omega, fun c x y => (hI.line x y).2.1⟩
theorem sFl_none {r : Int → Int} {w : Int} (h : ∀ b : Int, 0 ≤ b → b < r 2 → r (71 + 8 * b) ≠ w) : sFl r w = 0 ∧ sCn r w = 0 := by
  unfold sFl sCn
  exact ⟨jsum_zero (fun k x y => if_neg (h k x (by omega))), jsum_zero (fun k x y => if_neg (h k x (by omega)))⟩
theorem sLf_none {r : Int → Int} {c : Int} (h : ∀ b : Int, 0 ≤ b → b < r 2 → r (71 + 8 * b) ≠ 100 + c) : sLf r c = r (24 + 11 * c) := by
  unfold sLf
  rw [jsum_zero (fun k x y => if_neg (h k x (by omega)))]
  omega
theorem jFR.putR {D D2 : JD} {b a f w : Int} {r : Int → Int} (hR : jFR D b r) (hk : rWk r) (h5 : r 0 < 5) (hw : ∀ k : Int, 0 ≤ k → k < r 2 → r (71 + 8 * k) ≠ r 0)
    (u : ∀ x y : Int, ¬ (x = b ∧ (y = 3 ∨ y = 8)) → x ≠ b + 4 + r 0 → D2 x y = D x y) (g3 : D2 b 3 = r 0 + 1) (g8 : D2 b 8 = r 5 + w)
    (gw : D2 (b + 4 + r 0) 0 = a ∧ D2 (b + 4 + r 0) 1 = f ∧ D2 (b + 4 + r 0) 2 = w ∧ D2 (b + 4 + r 0) 3 = 0 ∧ D2 (b + 4 + r 0) 4 = 0) : jFR D2 b (rPutR a f w r) := by
  have b1 := hk
  unfold rWk at b1
  obtain ⟨k0, k1, k2, k3, k4, k5, k6⟩ := b1
  obtain ⟨n0, n5, na, nf, nw⟩ := rPutR_n (a := a) (f := f) (w := w) k0
  have e : ∀ j : Int, j ≠ 0 → j ≠ 5 → (j < 6 + 3 * r 0 ∨ 9 + 3 * r 0 ≤ j) → rPutR a f w r j = r j := fun j x y z => rPutR_o x y z
  have hs : rSame r (rPutR a f w r) := ⟨e 2 (by omega) (by omega) (by omega), fun _ _ _ _ _ _ => e _ (by omega) (by omega) (by omega)⟩
  obtain ⟨⟨a0, a1, a2, a3, a4, a5⟩, aw, ac, ab⟩ := hR
  generalize rPutR a f w r = r2 at *
  refine ⟨⟨by rw [g3, n0], ?_, ?_, ?_, ?_, by rw [g8, n5]⟩, fun i x y => ?_, fun c x y => ⟨?_, ?_⟩, fun c z x y p q => ?_⟩
  · rw [u _ _ (by omega) (by omega), e _ (by omega) (by omega) (by omega)]; exact a1
  · rw [u _ _ (by omega) (by omega), e _ (by omega) (by omega) (by omega)]; exact a2
  · rw [u _ _ (by omega) (by omega), e _ (by omega) (by omega) (by omega)]; exact a3
  · rw [u _ _ (by omega) (by omega), e _ (by omega) (by omega) (by omega)]; exact a4
  · rw [n0] at y
    unfold jWR
    rw [wA_r (by omega), sFl_same hs, sCn_same hs]
    by_cases q : i = r 0
    · subst q
      have z := sFl_none hw
      obtain ⟨f0, f1, f2, f3, f4⟩ := gw
      rw [z.1, z.2, f0, f1, f2, f3, f4, na, show 6 + 3 * r 0 + 1 = 7 + 3 * r 0 by omega, show 6 + 3 * r 0 + 2 = 8 + 3 * r 0 by omega, nf, nw]
      exact ⟨rfl, rfl, rfl, rfl, rfl⟩
    · have g := aw i x (by omega)
      unfold jWR at g
      rw [wA_r (by omega)] at g
      rw [u _ _ (by omega) (by omega), u _ _ (by omega) (by omega), u _ _ (by omega) (by omega), u _ _ (by omega) (by omega), u _ _ (by omega) (by omega), e _ (by omega) (by omega) (by omega), e _ (by omega) (by omega) (by omega), e _ (by omega) (by omega) (by omega)]
      exact g
  · rw [e _ (by omega) (by omega) (by omega)] at y
    have g := (ac c x y).1
    unfold jWR at g ⊢
    rw [wA_c x] at g ⊢
    rw [u _ _ (by omega) (by omega), u _ _ (by omega) (by omega), u _ _ (by omega) (by omega), u _ _ (by omega) (by omega), u _ _ (by omega) (by omega), e _ (by omega) (by omega) (by omega), e _ (by omega) (by omega) (by omega), e _ (by omega) (by omega) (by omega), sFl_same hs, sCn_same hs]
    exact g
  · rw [e _ (by omega) (by omega) (by omega)] at y
    exact (ac c x y).2.frame hs (fun z _ _ => e _ (by omega) (by omega) (by omega)) (fun z _ _ => e _ (by omega) (by omega) (by omega)) (k6 c x y) (fun z => u _ _ (by omega) (by omega)) (fun z => u _ _ (by omega) (by omega)) (fun z => u _ _ (by omega) (by omega)) (fun z => u _ _ (by omega) (by omega))
  · rw [e _ (by omega) (by omega) (by omega)] at y
    rw [u _ _ (by omega) (by omega), e _ (by omega) (by omega) (by omega)]
    exact ab c z x y p q
theorem jFR.putC {D D2 : JD} {b a l f : Int} {r : Int → Int} (hR : jFR D b r) (hk : rWk r) (h4 : r 1 < 4) (hw : ∀ k : Int, 0 ≤ k → k < r 2 → r (71 + 8 * k) ≠ 100 + r 1)
    (u : ∀ x y : Int, ¬ (x = b ∧ y = 4) → ¬ (b + 9 + 5 * r 1 ≤ x ∧ x < b + 14 + 5 * r 1) → D2 x y = D x y) (g4 : D2 b 4 = r 1 + 1)
    (gw : D2 (b + 9 + 5 * r 1 + 1) 0 = a ∧ D2 (b + 9 + 5 * r 1 + 1) 1 = f ∧ D2 (b + 9 + 5 * r 1 + 1) 2 = 0 ∧ D2 (b + 9 + 5 * r 1 + 1) 3 = 0 ∧ D2 (b + 9 + 5 * r 1 + 1) 4 = 0)
    (gs : D2 (b + 9 + 5 * r 1 + 2) 0 = 0 ∧ D2 (b + 9 + 5 * r 1 + 3) 0 = 0 ∧ D2 (b + 9 + 5 * r 1 + 2) 1 = 0 ∧ D2 (b + 9 + 5 * r 1 + 3) 1 = 0 ∧ D2 (b + 9 + 5 * r 1 + 2) 2 = 0 ∧ D2 (b + 9 + 5 * r 1 + 3) 2 = 0)
    (gc : D2 (b + 9 + 5 * r 1) 4 = 0 ∧ D2 (b + 9 + 5 * r 1) 5 = l ∧ D2 (b + 9 + 5 * r 1) 6 = l ∧ D2 (b + 9 + 5 * r 1) 7 = -1) : jFR D2 b (rPutC a l f r) := by
  have b1 := hk
  unfold rWk at b1
  obtain ⟨k0, k1, k2, k3, k4, k5, k6⟩ := b1
  obtain ⟨n1, nl, n21, n22, n23, n24, n25, n26, n27, n28, n29, n30, n31⟩ := rPutC_n (a := a) (l := l) (f := f) k2
  have e : ∀ j : Int, j ≠ 1 → j ≠ 161 + 13 * r 1 → (j < 21 + 11 * r 1 ∨ 32 + 11 * r 1 ≤ j) → rPutC a l f r j = r j := fun j x y z => rPutC_o x y z
  have hs : rSame r (rPutC a l f r) := ⟨e 2 (by omega) (by omega) (by omega), fun _ _ _ _ _ _ => e _ (by omega) (by omega) (by omega)⟩
  have hw2 : ∀ k : Int, 0 ≤ k → k < rPutC a l f r 2 → rPutC a l f r (71 + 8 * k) ≠ 100 + r 1 := fun k x y => by
    rw [e 2 (by omega) (by omega) (by omega)] at y
    rw [e _ (by omega) (by omega) (by omega)]
    exact hw k x y
  obtain ⟨⟨a0, a1, a2, a3, a4, a5⟩, aw, ac, ab⟩ := hR
  generalize rPutC a l f r = r2 at *
  refine ⟨⟨?_, by rw [g4, n1], ?_, ?_, ?_, ?_⟩, fun i x y => ?_, fun c x y => ?_, fun c z x y p q => ?_⟩
  · rw [u _ _ (by omega) (by omega), e _ (by omega) (by omega) (by omega)]; exact a0
  · rw [u _ _ (by omega) (by omega), e _ (by omega) (by omega) (by omega)]; exact a2
  · rw [u _ _ (by omega) (by omega), e _ (by omega) (by omega) (by omega)]; exact a3
  · rw [u _ _ (by omega) (by omega), e _ (by omega) (by omega) (by omega)]; exact a4
  · rw [u _ _ (by omega) (by omega), e _ (by omega) (by omega) (by omega)]; exact a5
  · rw [e _ (by omega) (by omega) (by omega)] at y
    have g := aw i x y
    unfold jWR at g ⊢
    rw [wA_r (by omega)] at g ⊢
    rw [u _ _ (by omega) (by omega), u _ _ (by omega) (by omega), u _ _ (by omega) (by omega), u _ _ (by omega) (by omega), u _ _ (by omega) (by omega), e _ (by omega) (by omega) (by omega), e _ (by omega) (by omega) (by omega), e _ (by omega) (by omega) (by omega), sFl_same hs, sCn_same hs]
    exact g
  · rw [n1] at y
    by_cases q : c = r 1
    · subst q
      have z := sFl_none hw2
      have z2 := sLf_none hw2
      obtain ⟨f0, f1, f2, f3, f4⟩ := gw
      obtain ⟨s1, s2, s3, s4, s5, s6⟩ := gs
      obtain ⟨c4, c5, c6, c7⟩ := gc
      refine ⟨?_, ?_⟩
      · unfold jWR
        rw [wA_c x, z.1, z.2, f0, f1, f2, f3, f4, n21, show 21 + 11 * r 1 + 1 = 22 + 11 * r 1 by omega, show 21 + 11 * r 1 + 2 = 23 + 11 * r 1 by omega, n22, n23]
        exact ⟨rfl, rfl, rfl, rfl, rfl⟩
      · unfold jCR
        rw [z2, c4, c5, c6, c7, s1, s2, s3, s4, s5, s6, n24, n29, nl, n25, n26, n27, n28, n30, n31]
        exact ⟨rfl, rfl, by rw [if_pos rfl], rfl, fun z p q => absurd q (by omega), rfl, rfl, rfl, rfl, rfl, rfl⟩
    · refine ⟨?_, ?_⟩
      · have g := (ac c x (by omega)).1
        unfold jWR at g ⊢
        rw [wA_c x] at g ⊢
        rw [u _ _ (by omega) (by omega), u _ _ (by omega) (by omega), u _ _ (by omega) (by omega), u _ _ (by omega) (by omega), u _ _ (by omega) (by omega), e _ (by omega) (by omega) (by omega), e _ (by omega) (by omega) (by omega), e _ (by omega) (by omega) (by omega), sFl_same hs, sCn_same hs]
        exact g
      · exact (ac c x (by omega)).2.frame hs (fun z _ _ => e _ (by omega) (by omega) (by omega)) (fun z _ _ => e _ (by omega) (by omega) (by omega)) (k6 c x (by omega)) (fun z => u _ _ (by omega) (by omega)) (fun z => u _ _ (by omega) (by omega)) (fun z => u _ _ (by omega) (by omega)) (fun z => u _ _ (by omega) (by omega))
  · rw [e _ (by omega) (by omega) (by omega)] at y
    rw [u _ _ (by omega) (by omega), e _ (by omega) (by omega) (by omega)]
    exact ab c z x y p q
/-- behind a new reach, and a new chamber ahead of it if m = 1 -/
theorem rIn.grow {t m w : Int} {r r2 : Int → Int} (hI : rIn t r) (ht : 0 ≤ t) (hm : (m = 0 ∧ r 0 = 0 ∧ r 1 = 0) ∨ (m = 1 ∧ r 0 = r 1 + 1 ∧ r 1 < 4)) (n0 : r2 0 = r 0 + 1) (n1 : r2 1 = r 1 + m) (n5 : r2 5 = r 5 + w)
    (e : ∀ j : Int, j ≠ 0 → j ≠ 1 → j ≠ 5 → (j < 6 + 3 * r 0 ∨ 9 + 3 * r 0 ≤ j) → ¬ (m = 1 ∧ 21 + 11 * r 1 ≤ j ∧ j < 32 + 11 * r 1) → ¬ (m = 1 ∧ j = 161 + 13 * r 1) → r2 j = r j)
    (hr : 100 ≤ r2 (6 + 3 * r 0) ∧ r2 (6 + 3 * r 0) ≤ 100000 ∧ 0 ≤ r2 (7 + 3 * r 0) ∧ r2 (7 + 3 * r 0) ≤ 5000 ∧ r2 (8 + 3 * r 0) = w ∧ 0 ≤ w ∧ w ≤ 10000000)
    (hc : m = 1 → 100 ≤ r2 (21 + 11 * r 1) ∧ r2 (21 + 11 * r 1) ≤ 100000 ∧ 0 ≤ r2 (22 + 11 * r 1) ∧ r2 (22 + 11 * r 1) ≤ 5000 ∧ r2 (23 + 11 * r 1) = 0 ∧ 10 ≤ r2 (24 + 11 * r 1) ∧ r2 (24 + 11 * r 1) ≤ 200 ∧ r2 (25 + 11 * r 1) = 0 ∧ r2 (26 + 11 * r 1) = 0 ∧ r2 (27 + 11 * r 1) = 0 ∧ r2 (28 + 11 * r 1) = 0 ∧ r2 (29 + 11 * r 1) = -100000005 ∧ r2 (30 + 11 * r 1) = 0 ∧ r2 (31 + 11 * r 1) = 0 ∧ r2 (161 + 13 * r 1) = 0) : rIn t r2 := by
  have b1 := hI.1
  have e2 := e 2 (by omega) (by omega) (by omega) (by omega) (by omega) (by omega)
  have eb : ∀ j : Int, 65 ≤ j → j < 161 → r2 j = r j := fun j _ _ => e j (by omega) (by omega) (by omega) (by omega) (by omega) (by omega)
  have hs : rSame r r2 := ⟨e2, fun _ _ _ _ _ _ => eb _ (by omega) (by omega)⟩
  obtain ⟨a1, a2, a3, a4, a5, a6⟩ := id hI
  refine ⟨?_, fun k x y => ?_, fun c x y => ?_, fun c x y => ?_, ?_, ?_⟩
  · rw [n0, n1, e2, n5, e 3 (by omega) (by omega) (by omega) (by omega) (by omega) (by omega), e 4 (by omega) (by omega) (by omega) (by omega) (by omega) (by omega)]; omega
  · rw [n0] at y
    unfold rWo
    rw [wA_r (by omega)]
    by_cases q : k = r 0
    · subst q
      rw [show 6 + 3 * r 0 + 1 = 7 + 3 * r 0 by omega, show 6 + 3 * r 0 + 2 = 8 + 3 * r 0 by omega]
      omega
    · have g := a2 k x (by omega)
      unfold rWo at g
      rw [wA_r (by omega)] at g
      rw [e _ (by omega) (by omega) (by omega) (by omega) (by omega) (by omega), e _ (by omega) (by omega) (by omega) (by omega) (by omega) (by omega), e _ (by omega) (by omega) (by omega) (by omega) (by omega) (by omega)]
      exact g
  · rw [n1] at y
    by_cases q : c = r 1
    · have hm1 : m = 1 := by omega
      obtain ⟨h21, h21', h22, h22', h23, h24, h24', h25, h26, h27, h28, h29, h30, h31, hl⟩ := hc hm1
      have hw2 : ∀ k : Int, 0 ≤ k → k < r2 2 → r2 (71 + 8 * k) ≠ 100 + r 1 := fun k x y => by
        rw [e2] at y
        rw [eb _ (by omega) (by omega)]
        have g := a4 k x y
        unfold rBo at g
        omega
      have z := sFl_none hw2
      have z2 := sLf_none hw2
      subst q
      refine ⟨?_, ?_⟩
      · unfold rWo
        rw [wA_c x, show 21 + 11 * r 1 + 1 = 22 + 11 * r 1 by omega, show 21 + 11 * r 1 + 2 = 23 + 11 * r 1 by omega]
        omega
      · unfold rCo
        rw [z2, z.2, h25, h26, h27, h28, h29, h30, h31, hl]
        exact ⟨h24, h24', by omega, by omega, by omega, by omega, by omega, by omega, by omega, by omega, by omega, by omega, by omega, by omega, rfl, fun z p q => absurd q (by omega), fun y z p q s => absurd s (by omega)⟩
    · have hlt : c < r 1 := by omega
      refine ⟨?_, ?_⟩
      · have g := (a3 c x hlt).1
        unfold rWo at g ⊢
        rw [wA_c x] at g ⊢
        rw [e _ (by omega) (by omega) (by omega) (by omega) (by omega) (by omega), e _ (by omega) (by omega) (by omega) (by omega) (by omega) (by omega), e _ (by omega) (by omega) (by omega) (by omega) (by omega) (by omega)]
        exact g
      · exact (a3 c x hlt).2.same hs (fun z _ _ => e _ (by omega) (by omega) (by omega) (by omega) (by omega) (by omega)) (fun z _ _ => e _ (by omega) (by omega) (by omega) (by omega) (by omega) (by omega)) (by omega) (by omega)
  · rw [e2] at y
    have g := a4 c x y
    unfold rBo at g ⊢
    rw [n0, n1, eb _ (by omega) (by omega), eb _ (by omega) (by omega), eb _ (by omega) (by omega), eb _ (by omega) (by omega), eb _ (by omega) (by omega), eb _ (by omega) (by omega), eb _ (by omega) (by omega), eb _ (by omega) (by omega)]
    omega
  · have hT : sTot r2 = sTot r + w := by
      unfold sTot
      rw [n0, n1, e2, jsum_succ (by omega), hr.2.2.2.2.1, jsum_congr (f := fun i => r2 (8 + 3 * i)) (g := fun i => r (8 + 3 * i)) (fun k _ _ => e _ (by omega) (by omega) (by omega) (by omega) (by omega) (by omega)), jsum_congr (f := fun k => r2 (70 + 8 * k)) (g := fun k => r (70 + 8 * k)) (fun k _ _ => eb _ (by omega) (by omega))]
      rcases hm with ⟨rfl, h0, h1⟩ | ⟨rfl, h0, h1⟩
      · rw [Int.add_zero, jsum_congr (f := fun k => r2 (23 + 11 * k)) (g := fun k => r (23 + 11 * k)) (fun k _ _ => e _ (by omega) (by omega) (by omega) (by omega) (by omega) (by omega))]
        omega
      · rw [jsum_succ (by omega), (hc rfl).2.2.2.2.1, jsum_congr (f := fun k => r2 (23 + 11 * k)) (g := fun k => r (23 + 11 * k)) (fun k _ _ => e _ (by omega) (by omega) (by omega) (by omega) (by omega) (by omega))]
        omega
    rw [hT, n0]
    omega
  · rw [n1, e2, jsum_congr (f := fun k => r2 (72 + 8 * k)) (g := fun k => r (72 + 8 * k)) (fun k _ _ => eb _ (by omega) (by omega))]
    rcases hm with ⟨rfl, h0, h1⟩ | ⟨rfl, h0, h1⟩
    · rw [Int.add_zero, jsum_congr (f := fun k => r2 (30 + 11 * k) + r2 (31 + 11 * k)) (g := fun k => r (30 + 11 * k) + r (31 + 11 * k)) (fun c _ _ => by
        show r2 _ + r2 _ = r _ + r _
        rw [e _ (by omega) (by omega) (by omega) (by omega) (by omega) (by omega), e _ (by omega) (by omega) (by omega) (by omega) (by omega) (by omega)])]
      exact a6
    · have h30 := (hc rfl).2.2.2.2.2.2.2.2.2.2.2.2.1
      have h31 := (hc rfl).2.2.2.2.2.2.2.2.2.2.2.2.2.1
      rw [jsum_succ (by omega), h30, h31, jsum_congr (f := fun k => r2 (30 + 11 * k) + r2 (31 + 11 * k)) (g := fun k => r (30 + 11 * k) + r (31 + 11 * k)) (fun c _ _ => by
        show r2 _ + r2 _ = r _ + r _
        rw [e _ (by omega) (by omega) (by omega) (by omega) (by omega) (by omega), e _ (by omega) (by omega) (by omega) (by omega) (by omega) (by omega)])]
      rw [a6]
      omega
