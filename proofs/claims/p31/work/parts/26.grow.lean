/-! WHAT COMES NEW: a barge, a reach, a chamber -/
theorem jsum_succ {f : Int → Int} {n : Int} (h : 0 ≤ n) : jsum f (n + 1).toNat = jsum f n.toNat + f n := by
  rw [show (n + 1).toNat = n.toNat + 1 by omega]
  show jsum f n.toNat + f (n.toNat : Int) = _
  rw [Int.toNat_of_nonneg h]
theorem jsum_zero {f : Int → Int} : ∀ {n : Nat}, (∀ k : Int, 0 ≤ k → k < n → f k = 0) → jsum f n = 0
  | 0, _ => rfl
  | n + 1, h => by
    show jsum f n + f n = 0
    rw [jsum_zero (n := n) (fun k a b => h k a (by omega)), h n (by omega) (by omega)]
    rfl
def rAddB (p l w i h : Int) (r : Int → Int) : Int → Int :=
  rup (rup (rup (rup (rup (rup (rup (rup (rup r (65 + 8 * r 2) l) (66 + 8 * r 2) w) (67 + 8 * r 2) i) (68 + 8 * r 2) h) (69 + 8 * r 2) 0) (70 + 8 * r 2) 0) (71 + 8 * r 2) p) (72 + 8 * r 2) 0) 2 (r 2 + 1)
theorem rAddB_o {p l w i h : Int} {r : Int → Int} {j : Int} (h2 : j ≠ 2) (hj : j < 65 + 8 * r 2 ∨ 73 + 8 * r 2 ≤ j) : rAddB p l w i h r j = r j := by
  unfold rAddB
  rw [rup_ne h2, rup_ne (by omega), rup_ne (by omega), rup_ne (by omega), rup_ne (by omega), rup_ne (by omega), rup_ne (by omega), rup_ne (by omega), rup_ne (by omega)]
theorem rAddB_n {p l w i h : Int} {r : Int → Int} (h0 : 0 ≤ r 2) : rAddB p l w i h r 2 = r 2 + 1 ∧ rAddB p l w i h r (65 + 8 * r 2) = l ∧ rAddB p l w i h r (66 + 8 * r 2) = w ∧ rAddB p l w i h r (67 + 8 * r 2) = i ∧ rAddB p l w i h r (68 + 8 * r 2) = h ∧ rAddB p l w i h r (69 + 8 * r 2) = 0 ∧ rAddB p l w i h r (70 + 8 * r 2) = 0 ∧ rAddB p l w i h r (71 + 8 * r 2) = p ∧ rAddB p l w i h r (72 + 8 * r 2) = 0 := by
  unfold rAddB
  refine ⟨by rw [rup_eq], ?_, ?_, ?_, ?_, ?_, ?_, ?_, ?_⟩
  · rw [rup_ne (by omega), rup_ne (by omega), rup_ne (by omega), rup_ne (by omega), rup_ne (by omega), rup_ne (by omega), rup_ne (by omega), rup_ne (by omega), rup_eq]
  · rw [rup_ne (by omega), rup_ne (by omega), rup_ne (by omega), rup_ne (by omega), rup_ne (by omega), rup_ne (by omega), rup_ne (by omega), rup_eq]
  · rw [rup_ne (by omega), rup_ne (by omega), rup_ne (by omega), rup_ne (by omega), rup_ne (by omega), rup_ne (by omega), rup_eq]
  · rw [rup_ne (by omega), rup_ne (by omega), rup_ne (by omega), rup_ne (by omega), rup_ne (by omega), rup_eq]
  · rw [rup_ne (by omega), rup_ne (by omega), rup_ne (by omega), rup_ne (by omega), rup_eq]
  · rw [rup_ne (by omega), rup_ne (by omega), rup_ne (by omega), rup_eq]
  · rw [rup_ne (by omega), rup_ne (by omega), rup_eq]
  · rw [rup_ne (by omega), rup_eq]
theorem addB_sums {p l w i h : Int} {r : Int → Int} (h0 : 0 ≤ r 2) (x : Int) : sFl (rAddB p l w i h r) x = sFl r x + (if p = x then w else 0) ∧ sCn (rAddB p l w i h r) x = sCn r x + (if p = x then 1 else 0) := by
  obtain ⟨n2, n65, n66, n67, n68, n69, n70, n71, n72⟩ := rAddB_n (p := p) (l := l) (w := w) (i := i) (h := h) h0
  have e : ∀ k : Int, 0 ≤ k → k < (r 2).toNat → ∀ z : Int, 0 ≤ z → z < 8 → rAddB p l w i h r (65 + z + 8 * k) = r (65 + z + 8 * k) := fun k _ _ z _ _ => rAddB_o (by omega) (by omega)
  constructor
  · unfold sFl
    rw [n2, jsum_succ h0]
    have : (if rAddB p l w i h r (71 + 8 * r 2) = x then sW (rAddB p l w i h r) (r 2) else 0) = if p = x then w else 0 := by
      unfold sW
      rw [n71, n66, n69, n70]
      split <;> omega
    rw [this]
    congr 1
    refine jsum_congr (fun k a b => ?_)
    have e1 := e k a b 6 (by omega) (by omega)
    have e2 := e k a b 1 (by omega) (by omega)
    have e3 := e k a b 4 (by omega) (by omega)
    have e4 := e k a b 5 (by omega) (by omega)
    unfold sW
    rw [show (71 : Int) + 8 * k = 65 + 6 + 8 * k by omega, e1, show (66 : Int) + 8 * k = 65 + 1 + 8 * k by omega, e2, show (69 : Int) + 8 * k = 65 + 4 + 8 * k by omega, e3, show (70 : Int) + 8 * k = 65 + 5 + 8 * k by omega, e4]
  · unfold sCn
    rw [n2, jsum_succ h0, n71]
    congr 1
    refine jsum_congr (fun k a b => ?_)
    have e1 := e k a b 6 (by omega) (by omega)
    rw [show (71 : Int) + 8 * k = 65 + 6 + 8 * k by omega, e1]
theorem addB_left {p l w i h : Int} {r : Int → Int} (h0 : 0 ≤ r 2) (h2 : r 2 < 12) (hp : p < 100) (c : Int) (hc : 0 ≤ c ∧ c < 4) : sLf (rAddB p l w i h r) c = sLf r c := by
  obtain ⟨n2, n65, n66, n67, n68, n69, n70, n71, n72⟩ := rAddB_n (p := p) (l := l) (w := w) (i := i) (h := h) h0
  have e : ∀ k : Int, 0 ≤ k → k < (r 2).toNat → ∀ z : Int, 0 ≤ z → z < 8 → rAddB p l w i h r (65 + z + 8 * k) = r (65 + z + 8 * k) := fun k _ _ z _ _ => rAddB_o (by omega) (by omega)
  unfold sLf
  rw [rAddB_o (by omega) (by omega), n2, jsum_succ h0, n71, if_neg (show ¬ p = 100 + c by omega)]
  rw [jsum_congr (f := fun b => if rAddB p l w i h r (71 + 8 * b) = 100 + c then rAddB p l w i h r (65 + 8 * b) else 0) (g := fun b => if r (71 + 8 * b) = 100 + c then r (65 + 8 * b) else 0) (fun k a b => by
    have e1 := e k a b 6 (by omega) (by omega)
    have e2 := e k a b 0 (by omega) (by omega)
    show (if rAddB p l w i h r (71 + 8 * k) = 100 + c then rAddB p l w i h r (65 + 8 * k) else 0) = (if r (71 + 8 * k) = 100 + c then r (65 + 8 * k) else 0)
    rw [show (71 : Int) + 8 * k = 65 + 6 + 8 * k by omega, e1, show (65 : Int) + 8 * k = 65 + 0 + 8 * k by omega, e2])]
  omega
theorem jFR.addB {t : Int} {D D2 : JD} {b p l w i h : Int} {r : Int → Int} (hR : jFR D b r) (hI : rIn t r) (p0 : 0 ≤ p) (p1 : p < r 0) (h2 : r 2 < 12)
    (u : ∀ x y : Int, ¬ (x = b ∧ y = 5) → x ≠ b + 29 + r 2 → ¬ (x = b + 4 + p ∧ (y = 3 ∨ y = 4)) → D2 x y = D x y) (g5 : D2 b 5 = r 2 + 1) (g3 : D2 (b + 4 + p) 3 = sFl r p + w) (g4 : D2 (b + 4 + p) 4 = sCn r p + 1)
    (gb : D2 (b + 29 + r 2) 0 = l ∧ D2 (b + 29 + r 2) 1 = w ∧ D2 (b + 29 + r 2) 2 = i ∧ D2 (b + 29 + r 2) 3 = h ∧ D2 (b + 29 + r 2) 4 = 0 ∧ D2 (b + 29 + r 2) 5 = 0 ∧ D2 (b + 29 + r 2) 6 = p ∧ D2 (b + 29 + r 2) 7 = 0) : jFR D2 b (rAddB p l w i h r) := by
  have b1 := hI.1
  have h0 : 0 ≤ r 2 := by omega
  have hsum := addB_sums (p := p) (l := l) (w := w) (i := i) (h := h) h0
  have hlf := addB_left (p := p) (l := l) (w := w) (i := i) (h := h) h0 h2 (by omega)
  obtain ⟨n2, n65, n66, n67, n68, n69, n70, n71, n72⟩ := rAddB_n (p := p) (l := l) (w := w) (i := i) (h := h) h0
  have e : ∀ j : Int, j ≠ 2 → (j < 65 + 8 * r 2 ∨ 73 + 8 * r 2 ≤ j) → rAddB p l w i h r j = r j := fun j a b => rAddB_o a b
  obtain ⟨⟨a0, a1, a2, a3, a4, a5⟩, aw, ac, ab⟩ := hR
  generalize rAddB p l w i h r = r2 at *
  refine ⟨⟨?_, ?_, ?_, ?_, ?_, ?_⟩, fun k x y => ?_, fun c x y => ⟨?_, ?_⟩, fun c z x y p q => ?_⟩
  · rw [u _ _ (by omega) (by omega) (by omega), e _ (by omega) (by omega)]; exact a0
  · rw [u _ _ (by omega) (by omega) (by omega), e _ (by omega) (by omega)]; exact a1
  · rw [g5, n2]
  · rw [u _ _ (by omega) (by omega) (by omega), e _ (by omega) (by omega)]; exact a3
  · rw [u _ _ (by omega) (by omega) (by omega), e _ (by omega) (by omega)]; exact a4
  · rw [u _ _ (by omega) (by omega) (by omega), e _ (by omega) (by omega)]; exact a5
  · rw [e _ (by omega) (by omega)] at y
    have g := aw k x y
    unfold jWR at g ⊢
    rw [wA_r (by omega)] at g ⊢
    rw [u _ 0 (by omega) (by omega) (by omega), u _ 1 (by omega) (by omega) (by omega), u _ 2 (by omega) (by omega) (by omega), e _ (by omega) (by omega), e _ (by omega) (by omega), e _ (by omega) (by omega), (hsum k).1, (hsum k).2]
    by_cases q : p = k
    · subst q
      rw [g3, g4, if_pos rfl, if_pos rfl]
      exact ⟨g.1, g.2.1, g.2.2.1, rfl, rfl⟩
    · rw [u _ 3 (by omega) (by omega) (by omega), u _ 4 (by omega) (by omega) (by omega), if_neg q, if_neg q, Int.add_zero, Int.add_zero]
      exact g
  · rw [e _ (by omega) (by omega)] at y
    have g := (ac c x y).1
    unfold jWR at g ⊢
    rw [wA_c x] at g ⊢
    rw [u _ 0 (by omega) (by omega) (by omega), u _ 1 (by omega) (by omega) (by omega), u _ 2 (by omega) (by omega) (by omega), u _ 3 (by omega) (by omega) (by omega), u _ 4 (by omega) (by omega) (by omega), e _ (by omega) (by omega), e _ (by omega) (by omega), e _ (by omega) (by omega), (hsum (100 + c)).1, (hsum (100 + c)).2, if_neg (by omega), if_neg (by omega), Int.add_zero, Int.add_zero]
    exact g
  · rw [e _ (by omega) (by omega)] at y
    obtain ⟨e5, e6, e7, e4, er, q1, q2, q3, q4, q5, q6⟩ := (ac c x y).2
    have hl := hI.line x y
    unfold jCR
    rw [hlf c (by omega), e (24 + 11 * c) (by omega) (by omega), e (29 + 11 * c) (by omega) (by omega), e (161 + 13 * c) (by omega) (by omega), e (25 + 11 * c) (by omega) (by omega), e (26 + 11 * c) (by omega) (by omega), e (27 + 11 * c) (by omega) (by omega), e (28 + 11 * c) (by omega) (by omega), e (30 + 11 * c) (by omega) (by omega), e (31 + 11 * c) (by omega) (by omega)]
    refine ⟨by rw [u _ _ (by omega) (by omega) (by omega)]; exact e5, by rw [u _ _ (by omega) (by omega) (by omega)]; exact e6, by rw [u _ _ (by omega) (by omega) (by omega)]; exact e7, by rw [u _ _ (by omega) (by omega) (by omega)]; exact e4, fun y p q => by rw [u _ _ (by omega) (by omega) (by omega), e _ (by omega) (by omega)]; exact er y p q,
      by rw [u _ _ (by omega) (by omega) (by omega)]; exact q1, by rw [u _ _ (by omega) (by omega) (by omega)]; exact q2, by rw [u _ _ (by omega) (by omega) (by omega)]; exact q3, by rw [u _ _ (by omega) (by omega) (by omega)]; exact q4, by rw [u _ _ (by omega) (by omega) (by omega)]; exact q5, by rw [u _ _ (by omega) (by omega) (by omega)]; exact q6⟩
  · rw [n2] at y
    by_cases w : c = r 2
    · subst w
      obtain ⟨f0, f1, f2, f3, f4, f5, f6, f7⟩ := gb
      have hz : z = 0 ∨ z = 1 ∨ z = 2 ∨ z = 3 ∨ z = 4 ∨ z = 5 ∨ z = 6 ∨ z = 7 := by omega
      rcases hz with rfl | rfl | rfl | rfl | rfl | rfl | rfl | rfl
      · rw [f0, show 65 + 8 * r 2 + 0 = 65 + 8 * r 2 by omega, n65]
      · rw [f1, show 65 + 8 * r 2 + 1 = 66 + 8 * r 2 by omega, n66]
      · rw [f2, show 65 + 8 * r 2 + 2 = 67 + 8 * r 2 by omega, n67]
      · rw [f3, show 65 + 8 * r 2 + 3 = 68 + 8 * r 2 by omega, n68]
      · rw [f4, show 65 + 8 * r 2 + 4 = 69 + 8 * r 2 by omega, n69]
      · rw [f5, show 65 + 8 * r 2 + 5 = 70 + 8 * r 2 by omega, n70]
      · rw [f6, show 65 + 8 * r 2 + 6 = 71 + 8 * r 2 by omega, n71]
      · rw [f7, show 65 + 8 * r 2 + 7 = 72 + 8 * r 2 by omega, n72]
    · rw [u _ _ (by omega) (by omega) (by omega), e _ (by omega) (by omega)]
      exact ab c z x (by omega) p q
theorem rIn.addB {t : Int} {p l w i h : Int} {r : Int → Int} (hI : rIn t r) (p0 : 0 ≤ p) (p1 : p < r 0) (h2 : r 2 < 12) (hl : 5 ≤ l ∧ l ≤ 60) (hw : 10 ≤ w ∧ w ≤ 500) (hi : 1 ≤ i ∧ i ≤ 20) (hh : 10 ≤ h ∧ h ≤ 1000) (ht : 0 ≤ t) : rIn t (rAddB p l w i h r) := by
  have b1 := hI.1
  have h0 : 0 ≤ r 2 := by omega
  have hsum := addB_sums (p := p) (l := l) (w := w) (i := i) (h := h) h0
  have hlf := addB_left (p := p) (l := l) (w := w) (i := i) (h := h) h0 h2 (by omega)
  obtain ⟨n2, n65, n66, n67, n68, n69, n70, n71, n72⟩ := rAddB_n (p := p) (l := l) (w := w) (i := i) (h := h) h0
  have e : ∀ j : Int, j ≠ 2 → (j < 65 + 8 * r 2 ∨ 73 + 8 * r 2 ≤ j) → rAddB p l w i h r j = r j := fun j a b => rAddB_o a b
  obtain ⟨a1, a2, a3, a4, a5, a6⟩ := id hI
  generalize rAddB p l w i h r = r2 at *
  refine ⟨?_, fun k x y => ?_, fun c x y => ⟨?_, ?_⟩, fun c x y => ?_, ?_, ?_⟩
  · rw [e 0 (by omega) (by omega), e 1 (by omega) (by omega), n2, e 3 (by omega) (by omega), e 4 (by omega) (by omega), e 5 (by omega) (by omega)]; omega
  · rw [e _ (by omega) (by omega)] at y
    have g := a2 k x y
    unfold rWo at g ⊢
    rw [wA_r (by omega)] at g ⊢
    rw [e _ (by omega) (by omega), e _ (by omega) (by omega), e _ (by omega) (by omega)]
    exact g
  · rw [e _ (by omega) (by omega)] at y
    have g := (a3 c x y).1
    unfold rWo at g ⊢
    rw [wA_c x] at g ⊢
    rw [e _ (by omega) (by omega), e _ (by omega) (by omega), e _ (by omega) (by omega)]
    exact g
  · rw [e _ (by omega) (by omega)] at y
    have g := (a3 c x y).2
    have hln := hI.line x y
    unfold rCo at g ⊢
    rw [(hsum (100 + c)).2, if_neg (by omega), Int.add_zero, hlf c (by omega), n2, e (24 + 11 * c) (by omega) (by omega), e (25 + 11 * c) (by omega) (by omega), e (26 + 11 * c) (by omega) (by omega), e (27 + 11 * c) (by omega) (by omega), e (28 + 11 * c) (by omega) (by omega), e (29 + 11 * c) (by omega) (by omega), e (30 + 11 * c) (by omega) (by omega), e (31 + 11 * c) (by omega) (by omega), e (161 + 13 * c) (by omega) (by omega)]
    obtain ⟨g1, g2, g3, g4, g5, g6, g7, g8, g9, g10, g11, g12, g13, g14, g15, g16, g17⟩ := g
    refine ⟨g1, g2, g3, g4, g5, g6, g7, g8, g9, g10, g11, g12, g13, g14, g15, fun z p q => ?_, fun y z p q s => ?_⟩
    · obtain ⟨y1, y2, y3⟩ := g16 z p q
      rw [e (162 + 13 * c + z) (by omega) (by omega), e _ (by omega) (by omega)]
      exact ⟨y1, by omega, y3⟩
    · rw [e _ (by omega) (by omega), e _ (by omega) (by omega)]
      exact g17 y z p q s
  · rw [n2] at y
    unfold rBo
    rw [e 0 (by omega) (by omega), e 1 (by omega) (by omega)]
    by_cases q : c = r 2
    · subst q
      rw [n65, n66, n67, n68, n69, n70, n71, n72]
      omega
    · have g := a4 c x (by omega)
      unfold rBo at g
      rw [e _ (by omega) (by omega), e _ (by omega) (by omega), e _ (by omega) (by omega), e _ (by omega) (by omega), e _ (by omega) (by omega), e _ (by omega) (by omega), e _ (by omega) (by omega), e _ (by omega) (by omega)]
      exact g
  · have hT : sTot r2 = sTot r := by
      unfold sTot
      rw [e 0 (by omega) (by omega), e 1 (by omega) (by omega), n2, jsum_succ h0, n70, jsum_congr (f := fun i => r2 (8 + 3 * i)) (g := fun i => r (8 + 3 * i)) (fun k _ _ => e _ (by omega) (by omega)), jsum_congr (f := fun k => r2 (23 + 11 * k)) (g := fun k => r (23 + 11 * k)) (fun k _ _ => e _ (by omega) (by omega)), jsum_congr (f := fun k => r2 (70 + 8 * k)) (g := fun k => r (70 + 8 * k)) (fun k _ _ => e _ (by omega) (by omega))]
      omega
    rw [hT, e 0 (by omega) (by omega)]
    exact a5
  · rw [e 1 (by omega) (by omega), n2, jsum_succ h0, n72, jsum_congr (f := fun k => r2 (72 + 8 * k)) (g := fun k => r (72 + 8 * k)) (fun k _ _ => e _ (by omega) (by omega)), jsum_congr (f := fun k => r2 (30 + 11 * k) + r2 (31 + 11 * k)) (g := fun k => r (30 + 11 * k) + r (31 + 11 * k)) (fun c _ _ => by
      show r2 _ + r2 _ = r _ + r _
      rw [e _ (by omega) (by omega), e _ (by omega) (by omega)]), Int.add_zero]
    exact a6
