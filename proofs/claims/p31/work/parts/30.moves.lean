/-! A BARGE MOVES: from a reach into a chamber, or back -/
def rMvd (r r2 : Int → Int) (k q : Int) : Prop := r2 2 = r 2 ∧ r2 (71 + 8 * k) = q ∧ (∀ b : Int, 0 ≤ b → b < r 2 → b ≠ k → r2 (71 + 8 * b) = r (71 + 8 * b)) ∧ (∀ b z : Int, 0 ≤ b → b < r 2 → 0 ≤ z → z < 6 → r2 (65 + 8 * b + z) = r (65 + 8 * b + z))
theorem rMvd.w {r r2 : Int → Int} {k q : Int} (h : rMvd r r2 k q) {b : Int} (h0 : 0 ≤ b) (h1 : b < r 2) : sW r2 b = sW r b ∧ r2 (65 + 8 * b) = r (65 + 8 * b) := by
  have a1 := h.2.2.2 b 1 h0 h1 (by omega) (by omega)
  have a2 := h.2.2.2 b 4 h0 h1 (by omega) (by omega)
  have a3 := h.2.2.2 b 5 h0 h1 (by omega) (by omega)
  have a0 := h.2.2.2 b 0 h0 h1 (by omega) (by omega)
  unfold sW
  rw [show 66 + 8 * b = 65 + 8 * b + 1 by omega, show 69 + 8 * b = 65 + 8 * b + 4 by omega, show 70 + 8 * b = 65 + 8 * b + 5 by omega, a1, a2, a3]
  exact ⟨rfl, by simpa using a0⟩
theorem rMvd.fl {r r2 : Int → Int} {k q : Int} (h : rMvd r r2 k q) (h0 : 0 ≤ k) (h1 : k < r 2) (w : Int) : sFl r2 w = sFl r w + (if q = w then sW r k else 0) - (if r (71 + 8 * k) = w then sW r k else 0) := by
  unfold sFl
  rw [h.1, jsum_one (f := fun b => if r (71 + 8 * b) = w then sW r b else 0) (g := fun b => if r2 (71 + 8 * b) = w then sW r2 b else 0) (i := k) h0 (by omega) (fun b x y z => by
    show (if r2 (71 + 8 * b) = w then sW r2 b else 0) = (if r (71 + 8 * b) = w then sW r b else 0)
    rw [h.2.2.1 b x (by omega) z, (h.w x (by omega)).1])]
  show _ + ((if r2 (71 + 8 * k) = w then sW r2 k else 0) - (if r (71 + 8 * k) = w then sW r k else 0)) = _
  rw [h.2.1, (h.w h0 h1).1]
  omega
theorem rMvd.cn {r r2 : Int → Int} {k q : Int} (h : rMvd r r2 k q) (h0 : 0 ≤ k) (h1 : k < r 2) (w : Int) : sCn r2 w = sCn r w + (if q = w then 1 else 0) - (if r (71 + 8 * k) = w then 1 else 0) := by
  unfold sCn
  rw [h.1, jsum_one (f := fun b => if r (71 + 8 * b) = w then (1 : Int) else 0) (g := fun b => if r2 (71 + 8 * b) = w then (1 : Int) else 0) (i := k) h0 (by omega) (fun b x y z => by
    show (if r2 (71 + 8 * b) = w then (1 : Int) else 0) = (if r (71 + 8 * b) = w then (1 : Int) else 0)
    rw [h.2.2.1 b x (by omega) z])]
  show _ + ((if r2 (71 + 8 * k) = w then (1 : Int) else 0) - (if r (71 + 8 * k) = w then (1 : Int) else 0)) = _
  rw [h.2.1]
  omega
theorem rMvd.lf {r r2 : Int → Int} {k q : Int} (h : rMvd r r2 k q) (h0 : 0 ≤ k) (h1 : k < r 2) (c : Int) (hl : r2 (24 + 11 * c) = r (24 + 11 * c)) : sLf r2 c = sLf r c - (if q = 100 + c then r (65 + 8 * k) else 0) + (if r (71 + 8 * k) = 100 + c then r (65 + 8 * k) else 0) := by
  unfold sLf
  rw [h.1, hl, jsum_one (f := fun b => if r (71 + 8 * b) = 100 + c then r (65 + 8 * b) else 0) (g := fun b => if r2 (71 + 8 * b) = 100 + c then r2 (65 + 8 * b) else 0) (i := k) h0 (by omega) (fun b x y z => by
    show (if r2 (71 + 8 * b) = 100 + c then r2 (65 + 8 * b) else 0) = (if r (71 + 8 * b) = 100 + c then r (65 + 8 * b) else 0)
    rw [h.2.2.1 b x (by omega) z, (h.w x (by omega)).2])]
  show _ - (_ + ((if r2 (71 + 8 * k) = 100 + c then r2 (65 + 8 * k) else 0) - (if r (71 + 8 * k) = 100 + c then r (65 + 8 * k) else 0))) = _
  rw [h.2.1, (h.w h0 h1).2]
  omega
/-- r2 is r but for a passage of barge k by gate g of chamber c -/
def rPsd (r r2 : Int → Int) (c g k : Int) : Prop := ∀ j : Int, ¬ (161 + 13 * c ≤ j ∧ j < 174 + 13 * c) → j ≠ 71 + 8 * k → j ≠ 72 + 8 * k → j ≠ 30 + 11 * c + g → j ≠ 27 + 11 * c + g → r2 j = r j
theorem rPsd.mvd {r r2 : Int → Int} {c g k : Int} (e : rPsd r r2 c g k) (h0 : 0 ≤ c ∧ c < 4) (hg : g = 0 ∨ g = 1) (k0 : 0 ≤ k) (h2 : r 2 ≤ 12) {q : Int} (hq : r2 (71 + 8 * k) = q) : rMvd r r2 k q :=
  ⟨e 2 (by omega) (by omega) (by omega) (by omega) (by omega), hq, fun b x y z => e _ (by omega) (by omega) (by omega) (by omega) (by omega), fun b z x y p q => e _ (by omega) (by omega) (by omega) (by omega) (by omega)⟩
theorem rPsd.oth {r r2 : Int → Int} {c g k d : Int} (e : rPsd r r2 c g k) (hc : 0 ≤ c ∧ c < 4) (hg : g = 0 ∨ g = 1) (hk : 0 ≤ k ∧ k < 12) (hd : 0 ≤ d ∧ d < 4) (hn : d ≠ c) : (∀ j : Int, 21 + 11 * d ≤ j → j < 32 + 11 * d → r2 j = r j) ∧ (∀ j : Int, 161 + 13 * d ≤ j → j < 174 + 13 * d → r2 j = r j) :=
  ⟨fun j h1 h2 => e j (by omega) (by omega) (by omega) (by omega) (by omega), fun j h1 h2 => e j (by omega) (by omega) (by omega) (by omega) (by omega)⟩
theorem rCo.oth {t : Int} {r r2 : Int → Int} {d k : Int} (w : rCo t r d) (o1 : ∀ j : Int, 21 + 11 * d ≤ j → j < 32 + 11 * d → r2 j = r j) (o2 : ∀ j : Int, 161 + 13 * d ≤ j → j < 174 + 13 * d → r2 j = r j) (e2 : r2 2 = r 2) (hl : r (161 + 13 * d) ≤ 12) (hf : sLf r2 d = sLf r d) (hn : sCn r2 (100 + d) = sCn r (100 + d)) (hp : r (71 + 8 * k) ≠ 100 + d)
    (hm : ∀ b : Int, 0 ≤ b → b < r 2 → b ≠ k → r2 (71 + 8 * b) = r (71 + 8 * b)) : rCo (t + 1) r2 d := by
  unfold rCo at w ⊢
  rw [hf, hn, e2, o1 (24 + 11 * d) (by omega) (by omega), o1 (25 + 11 * d) (by omega) (by omega), o1 (26 + 11 * d) (by omega) (by omega), o1 (27 + 11 * d) (by omega) (by omega), o1 (28 + 11 * d) (by omega) (by omega), o1 (29 + 11 * d) (by omega) (by omega), o1 (30 + 11 * d) (by omega) (by omega), o1 (31 + 11 * d) (by omega) (by omega), o2 (161 + 13 * d) (by omega) (by omega)]
  obtain ⟨g1, g2, g3, g4, g5, g6, g7, g8, g9, g10, g11, g12, g13, g14, g15, g16, g17⟩ := w
  refine ⟨g1, g2, g3, g4, g5, g6, g7, g8, g9, g10, by omega, by omega, g13, g14, g15, fun z p s => ?_, fun y z p s v => ?_⟩
  · obtain ⟨y1, y2, y3⟩ := g16 z p s
    rw [o2 (162 + 13 * d + z) (by omega) (by omega)]
    refine ⟨y1, y2, ?_⟩
    rw [hm _ y1 y2 (fun h => hp (by rw [← h]; exact y3))]
    exact y3
  · rw [o2 (162 + 13 * d + y) (by omega) (by omega), o2 (162 + 13 * d + z) (by omega) (by omega)]
    exact g17 y z p s v
theorem jCR.oth {D D2 : JD} {c : Int} {r r2 : Int → Int} {d : Int} (w : jCR D c r d) (o1 : ∀ j : Int, 21 + 11 * d ≤ j → j < 32 + 11 * d → r2 j = r j) (o2 : ∀ j : Int, 161 + 13 * d ≤ j → j < 174 + 13 * d → r2 j = r j) (hl : r (161 + 13 * d) ≤ 12) (hf : sLf r2 d = sLf r d)
    (v0 : ∀ z : Int, D2 c z = D c z) (v2 : ∀ z : Int, D2 (c + 2) z = D (c + 2) z) (v3 : ∀ z : Int, D2 (c + 3) z = D (c + 3) z) (v4 : ∀ z : Int, D2 (c + 4) z = D (c + 4) z) : jCR D2 c r2 d := by
  obtain ⟨e5, e6, e7, e4, er, q⟩ := w
  unfold jCR
  rw [hf, o1 (24 + 11 * d) (by omega) (by omega), o1 (25 + 11 * d) (by omega) (by omega), o1 (26 + 11 * d) (by omega) (by omega), o1 (27 + 11 * d) (by omega) (by omega), o1 (28 + 11 * d) (by omega) (by omega), o1 (29 + 11 * d) (by omega) (by omega), o1 (30 + 11 * d) (by omega) (by omega), o1 (31 + 11 * d) (by omega) (by omega), o2 (161 + 13 * d) (by omega) (by omega), v0, v0, v0, v0, v2, v2, v2, v3, v3, v3]
  refine ⟨e5, e6, e7, e4, fun z p1 p2 => ?_, q⟩
  rw [v4, o2 (162 + 13 * d + z) (by omega) (by omega)]
  exact er z p1 p2
theorem jFR.pass {t : Int} {D D2 : JD} {b c g k q : Int} {r r2 : Int → Int} (hR : jFR D b r) (hI : rIn t r) (h0 : 0 ≤ c) (h1 : c < r 1) (hg : g = 0 ∨ g = 1) (k0 : 0 ≤ k) (k1 : k < r 2) (e : rPsd r r2 c g k) (hq : r2 (71 + 8 * k) = q) (hpq : (r (71 + 8 * k) = c + g ∧ q = 100 + c) ∨ (r (71 + 8 * k) = 100 + c ∧ q = c + g))
    (u : ∀ x y : Int, ¬ (x = b + 9 + 5 * c ∧ (y = 4 ∨ y = 6)) → x ≠ b + 9 + 5 * c + 4 → ¬ (x = b + 9 + 5 * c + 2 + g ∧ (y = 1 ∨ y = 2)) → ¬ (x = b + 4 + (c + g) ∧ (y = 3 ∨ y = 4)) → ¬ (x = b + 9 + 5 * c + 1 ∧ (y = 3 ∨ y = 4)) → ¬ (x = b + 29 + k ∧ (y = 6 ∨ y = 7)) → D2 x y = D x y)
    (f1 : D2 (b + 4 + (c + g)) 3 = sFl r2 (c + g) ∧ D2 (b + 4 + (c + g)) 4 = sCn r2 (c + g)) (f2 : D2 (b + 9 + 5 * c + 1) 3 = sFl r2 (100 + c) ∧ D2 (b + 9 + 5 * c + 1) 4 = sCn r2 (100 + c))
    (f3 : D2 (b + 9 + 5 * c) 6 = sLf r2 c ∧ D2 (b + 9 + 5 * c) 4 = r2 (161 + 13 * c) ∧ ∀ z : Int, 0 ≤ z → z < r2 (161 + 13 * c) → D2 (b + 9 + 5 * c + 4) z = r2 (162 + 13 * c + z))
    (f4 : D2 (b + 9 + 5 * c + 2 + g) 1 = r2 (27 + 11 * c + g) ∧ D2 (b + 9 + 5 * c + 2 + g) 2 = r2 (30 + 11 * c + g)) (f5 : D2 (b + 29 + k) 6 = q ∧ D2 (b + 29 + k) 7 = r2 (72 + 8 * k)) : jFR D2 b r2 := by
  have b1 := hI.1
  have m := e.mvd ⟨h0, by omega⟩ hg k0 (by omega) hq
  have hfl := m.fl k0 k1
  have hcn := m.cn k0 k1
  have hlf := m.lf k0 k1
  have e' : ∀ j : Int, j < 27 ∨ (65 ≤ j ∧ j < 161 ∧ j ≠ 71 + 8 * k ∧ j ≠ 72 + 8 * k) → r2 j = r j := fun j hj => e j (by omega) (by omega) (by omega) (by omega) (by omega)
  obtain ⟨⟨a0, a1, a2, a3, a4, a5⟩, aw, ac, ab⟩ := hR
  refine ⟨⟨?_, ?_, ?_, ?_, ?_, ?_⟩, fun i x y => ?_, fun d x y => ⟨?_, ?_⟩, fun d z x y p s => ?_⟩
  · rw [u _ _ (by omega) (by omega) (by omega) (by omega) (by omega) (by omega), e' _ (by omega)]; exact a0
  · rw [u _ _ (by omega) (by omega) (by omega) (by omega) (by omega) (by omega), e' _ (by omega)]; exact a1
  · rw [u _ _ (by omega) (by omega) (by omega) (by omega) (by omega) (by omega), e' _ (by omega)]; exact a2
  · rw [u _ _ (by omega) (by omega) (by omega) (by omega) (by omega) (by omega), e' _ (by omega)]; exact a3
  · rw [u _ _ (by omega) (by omega) (by omega) (by omega) (by omega) (by omega), e' _ (by omega)]; exact a4
  · rw [u _ _ (by omega) (by omega) (by omega) (by omega) (by omega) (by omega), e' _ (by omega)]; exact a5
  · rw [e' _ (by omega)] at y
    have w := aw i x y
    unfold jWR at w ⊢
    rw [wA_r (by omega)] at w ⊢
    rw [u _ 0 (by omega) (by omega) (by omega) (by omega) (by omega) (by omega), u _ 1 (by omega) (by omega) (by omega) (by omega) (by omega) (by omega), u _ 2 (by omega) (by omega) (by omega) (by omega) (by omega) (by omega), e' _ (by omega), e' _ (by omega), e' _ (by omega)]
    refine ⟨w.1, w.2.1, w.2.2.1, ?_⟩
    by_cases qi : i = c + g
    · rw [qi]; exact f1
    · rw [u _ 3 (by omega) (by omega) (by omega) (by omega) (by omega) (by omega), u _ 4 (by omega) (by omega) (by omega) (by omega) (by omega) (by omega), hfl, hcn, if_neg (by omega), if_neg (by omega), if_neg (by omega), if_neg (by omega)]
      omega
  · rw [e' _ (by omega)] at y
    have w := (ac d x y).1
    have j1 := e (21 + 11 * d) (by omega) (by omega) (by omega) (by omega) (by omega)
    have j2 := e (21 + 11 * d + 1) (by omega) (by omega) (by omega) (by omega) (by omega)
    have j3 := e (21 + 11 * d + 2) (by omega) (by omega) (by omega) (by omega) (by omega)
    unfold jWR at w ⊢
    rw [wA_c x] at w ⊢
    rw [u _ 0 (by omega) (by omega) (by omega) (by omega) (by omega) (by omega), u _ 1 (by omega) (by omega) (by omega) (by omega) (by omega) (by omega), u _ 2 (by omega) (by omega) (by omega) (by omega) (by omega) (by omega), j1, j2, j3]
    refine ⟨w.1, w.2.1, w.2.2.1, ?_⟩
    by_cases qi : d = c
    · rw [qi]; exact f2
    · rw [u _ 3 (by omega) (by omega) (by omega) (by omega) (by omega) (by omega), u _ 4 (by omega) (by omega) (by omega) (by omega) (by omega) (by omega), hfl, hcn, if_neg (by omega), if_neg (by omega), if_neg (by omega), if_neg (by omega)]
      omega
  · rw [e' _ (by omega)] at y
    obtain ⟨e5, e6, e7, e4, er, q1, q2, q3, q4, q5, q6⟩ := (ac d x y).2
    by_cases qi : d = c
    · subst qi
      have j24 := e (24 + 11 * d) (by omega) (by omega) (by omega) (by omega) (by omega)
      have j25 := e (25 + 11 * d) (by omega) (by omega) (by omega) (by omega) (by omega)
      have j26 := e (26 + 11 * d) (by omega) (by omega) (by omega) (by omega) (by omega)
      have j29 := e (29 + 11 * d) (by omega) (by omega) (by omega) (by omega) (by omega)
      have hd := hlf d j24
      unfold jCR
      rw [j24, j25, j26, j29, u _ 5 (by omega) (by omega) (by omega) (by omega) (by omega) (by omega), u _ 7 (by omega) (by omega) (by omega) (by omega) (by omega) (by omega), u (b + 9 + 5 * d + 2) 0 (by omega) (by omega) (by omega) (by omega) (by omega) (by omega), u (b + 9 + 5 * d + 3) 0 (by omega) (by omega) (by omega) (by omega) (by omega) (by omega)]
      obtain ⟨f31, f32, f33⟩ := f3
      refine ⟨e5, f31, e7, f32, f33, q1, q2, ?_⟩
      rcases hg with rfl | rfl
      · rw [Int.add_zero, Int.add_zero, Int.add_zero] at f4
        rw [u (b + 9 + 5 * d + 3) 1 (by omega) (by omega) (by omega) (by omega) (by omega) (by omega), u (b + 9 + 5 * d + 3) 2 (by omega) (by omega) (by omega) (by omega) (by omega) (by omega), e (28 + 11 * d) (by omega) (by omega) (by omega) (by omega) (by omega), e (31 + 11 * d) (by omega) (by omega) (by omega) (by omega) (by omega)]
        exact ⟨f4.1, q4, f4.2, q6⟩
      · rw [show b + 9 + 5 * d + 2 + 1 = b + 9 + 5 * d + 3 by omega, show 27 + 11 * d + 1 = 28 + 11 * d by omega, show 30 + 11 * d + 1 = 31 + 11 * d by omega] at f4
        rw [u (b + 9 + 5 * d + 2) 1 (by omega) (by omega) (by omega) (by omega) (by omega) (by omega), u (b + 9 + 5 * d + 2) 2 (by omega) (by omega) (by omega) (by omega) (by omega) (by omega), e (27 + 11 * d) (by omega) (by omega) (by omega) (by omega) (by omega), e (30 + 11 * d) (by omega) (by omega) (by omega) (by omega) (by omega)]
        exact ⟨q3, f4.1, q5, f4.2⟩
    · have ho := e.oth ⟨h0, by omega⟩ hg ⟨k0, by omega⟩ (d := d) ⟨x, by omega⟩ qi
      have hd := hlf d (ho.1 _ (by omega) (by omega))
      have hln := hI.line x y
      have cc := (ac d x y).2
      refine cc.oth ho.1 ho.2 hln.2.1 (by rw [hd, if_neg (by omega), if_neg (by omega)]; omega) (fun z => ?_) (fun z => ?_) (fun z => ?_) (fun z => ?_)
      · exact u _ _ (by omega) (by omega) (by omega) (by omega) (by omega) (by omega)
      · exact u _ _ (by omega) (by omega) (by omega) (by omega) (by omega) (by omega)
      · exact u _ _ (by omega) (by omega) (by omega) (by omega) (by omega) (by omega)
      · exact u _ _ (by omega) (by omega) (by omega) (by omega) (by omega) (by omega)
  · rw [e' 2 (by omega)] at y
    by_cases w : d = k ∧ (z = 6 ∨ z = 7)
    · obtain ⟨rfl, w | w⟩ := w
      · rw [w, f5.1, show 65 + 8 * d + 6 = 71 + 8 * d by omega, hq]
      · rw [w, f5.2, show 65 + 8 * d + 7 = 72 + 8 * d by omega]
    · rw [u _ _ (by omega) (by omega) (by omega) (by omega) (by omega) (by omega), e' _ (by omega)]
      exact ab d z x y p s
theorem rIn.pass {t : Int} {c g k q : Int} {r r2 : Int → Int} (hI : rIn t r) (h0 : 0 ≤ c) (h1 : c < r 1) (hg : g = 0 ∨ g = 1) (k0 : 0 ≤ k) (k1 : k < r 2) (e : rPsd r r2 c g k) (hq : r2 (71 + 8 * k) = q) (hpq : (r (71 + 8 * k) = c + g ∧ q = 100 + c ∧ r (65 + 8 * k) ≤ sLf r c) ∨ (r (71 + 8 * k) = 100 + c ∧ q = c + g))
    (f4 : r2 (30 + 11 * c + g) = r (30 + 11 * c + g) + 1 ∧ (r2 (27 + 11 * c + g) = r (27 + 11 * c + g) ∨ r2 (27 + 11 * c + g) = r (27 + 11 * c + g) + 1)) (f5 : r2 (72 + 8 * k) = r (72 + 8 * k) + 1)
    (f6 : r2 (161 + 13 * c) = sCn r2 (100 + c)) (f7 : ∀ z : Int, 0 ≤ z → z < r2 (161 + 13 * c) → 0 ≤ r2 (162 + 13 * c + z) ∧ r2 (162 + 13 * c + z) < r 2 ∧ r2 (71 + 8 * r2 (162 + 13 * c + z)) = 100 + c)
    (f8 : ∀ y z : Int, 0 ≤ y → y < z → z < r2 (161 + 13 * c) → r2 (162 + 13 * c + y) ≠ r2 (162 + 13 * c + z)) : rIn (t + 1) r2 := by
  have b1 := hI.1
  have m := e.mvd ⟨h0, by omega⟩ hg k0 (by omega) hq
  have hcn := m.cn k0 k1
  have hlf := m.lf k0 k1
  have e' : ∀ j : Int, j < 27 ∨ (65 ≤ j ∧ j < 161 ∧ j ≠ 71 + 8 * k ∧ j ≠ 72 + 8 * k) → r2 j = r j := fun j hj => e j (by omega) (by omega) (by omega) (by omega) (by omega)
  obtain ⟨a1, a2, a3, a4, a5, a6⟩ := id hI
  refine ⟨?_, fun i x y => ?_, fun d x y => ⟨?_, ?_⟩, fun d x y => ?_, ?_, ?_⟩
  · rw [e' 0 (by omega), e' 1 (by omega), e' 2 (by omega), e' 3 (by omega), e' 4 (by omega), e' 5 (by omega)]; omega
  · rw [e' _ (by omega)] at y
    have w := a2 i x y
    unfold rWo at w ⊢
    rw [wA_r (by omega)] at w ⊢
    rw [e' _ (by omega), e' _ (by omega), e' _ (by omega)]
    exact w
  · rw [e' _ (by omega)] at y
    have w := (a3 d x y).1
    unfold rWo at w ⊢
    rw [wA_c x] at w ⊢
    rw [e (21 + 11 * d) (by omega) (by omega) (by omega) (by omega) (by omega), e (21 + 11 * d + 1) (by omega) (by omega) (by omega) (by omega) (by omega), e (21 + 11 * d + 2) (by omega) (by omega) (by omega) (by omega) (by omega)]
    exact w
  · rw [e' _ (by omega)] at y
    by_cases qi : d = c
    · subst qi
      have w := (a3 d x y).2
      have j24 := e (24 + 11 * d) (by omega) (by omega) (by omega) (by omega) (by omega)
      have hd := hlf d j24
      unfold rCo at w ⊢
      rw [hd, e' 2 (by omega), j24, e (25 + 11 * d) (by omega) (by omega) (by omega) (by omega) (by omega), e (26 + 11 * d) (by omega) (by omega) (by omega) (by omega) (by omega), e (29 + 11 * d) (by omega) (by omega) (by omega) (by omega) (by omega)]
      obtain ⟨g1, g2, g3, g4, g5, g6, g7, g8, g9, g10, g11, g12, g13, g14, g15, g16, g17⟩ := w
      have hk := a4 k k0 k1
      unfold rBo at hk
      refine ⟨g1, g2, g3, g4, g5, g6, ?_, ?_, ?_, ?_, ?_, ?_, g13, ?_, f6, f7, f8⟩
      · rcases hg with rfl | rfl
        · rw [Int.add_zero, Int.add_zero] at f4; omega
        · rw [e (27 + 11 * d) (by omega) (by omega) (by omega) (by omega) (by omega)]; exact g7
      · rcases hg with rfl | rfl
        · rw [Int.add_zero, Int.add_zero] at f4; omega
        · rw [e (27 + 11 * d) (by omega) (by omega) (by omega) (by omega) (by omega), e (30 + 11 * d) (by omega) (by omega) (by omega) (by omega) (by omega)]; exact g8
      · rcases hg with rfl | rfl
        · rw [e (28 + 11 * d) (by omega) (by omega) (by omega) (by omega) (by omega)]; exact g9
        · rw [show 27 + 11 * d + 1 = 28 + 11 * d by omega, show 30 + 11 * d + 1 = 31 + 11 * d by omega] at f4; omega
      · rcases hg with rfl | rfl
        · rw [e (28 + 11 * d) (by omega) (by omega) (by omega) (by omega) (by omega), e (31 + 11 * d) (by omega) (by omega) (by omega) (by omega) (by omega)]; exact g10
        · rw [show 27 + 11 * d + 1 = 28 + 11 * d by omega, show 30 + 11 * d + 1 = 31 + 11 * d by omega] at f4; omega
      · rcases hg with rfl | rfl
        · rw [Int.add_zero, Int.add_zero] at f4; omega
        · rw [e (30 + 11 * d) (by omega) (by omega) (by omega) (by omega) (by omega)]; omega
      · rcases hg with rfl | rfl
        · rw [e (31 + 11 * d) (by omega) (by omega) (by omega) (by omega) (by omega)]; omega
        · rw [show 27 + 11 * d + 1 = 28 + 11 * d by omega, show 30 + 11 * d + 1 = 31 + 11 * d by omega] at f4; omega
      · rcases hpq with ⟨p1, p2, p3⟩ | ⟨p1, p2⟩
        · rw [if_pos p2, if_neg (by omega)]; omega
        · rw [if_neg (by omega), if_pos p1]; omega
    · have ho := e.oth ⟨h0, by omega⟩ hg ⟨k0, by omega⟩ (d := d) ⟨x, by omega⟩ qi
      have hd := hlf d (ho.1 _ (by omega) (by omega))
      have hln := hI.line x y
      have hcd := hcn (100 + d)
      have np : r (71 + 8 * k) ≠ 100 + d := by omega
      have nq : q ≠ 100 + d := by omega
      rw [if_neg nq, if_neg np] at hd hcd
      exact (a3 d x y).2.oth ho.1 ho.2 (e' 2 (by omega)) hln.2.1 (by omega) (by omega) np m.2.2.1
  · rw [e' 2 (by omega)] at y
    have w := a4 d x y
    unfold rBo at w ⊢
    rw [e' 0 (by omega), e' 1 (by omega), e' (65 + 8 * d) (by omega), e' (66 + 8 * d) (by omega), e' (67 + 8 * d) (by omega), e' (68 + 8 * d) (by omega), e' (69 + 8 * d) (by omega), e' (70 + 8 * d) (by omega)]
    by_cases qi : d = k
    · subst qi
      rw [hq, f5]
      omega
    · rw [e' (71 + 8 * d) (by omega), e' (72 + 8 * d) (by omega)]
      omega
  · have hT : sTot r2 = sTot r := by
      unfold sTot
      rw [e' 0 (by omega), e' 1 (by omega), e' 2 (by omega), jsum_congr (f := fun i => r2 (8 + 3 * i)) (g := fun i => r (8 + 3 * i)) (fun k _ _ => e' _ (by omega)), jsum_congr (f := fun k => r2 (23 + 11 * k)) (g := fun k => r (23 + 11 * k)) (fun d _ _ => e _ (by omega) (by omega) (by omega) (by omega) (by omega)), jsum_congr (f := fun k => r2 (70 + 8 * k)) (g := fun k => r (70 + 8 * k)) (fun d _ _ => e' _ (by omega))]
    rw [hT, e' 0 (by omega)]
    omega
  · rw [e' 1 (by omega), e' 2 (by omega), jsum_one (f := fun b => r (72 + 8 * b)) (g := fun b => r2 (72 + 8 * b)) (i := k) k0 (by omega) (fun b x y z => e' _ (by omega)),
      jsum_one (f := fun c => r (30 + 11 * c) + r (31 + 11 * c)) (g := fun c => r2 (30 + 11 * c) + r2 (31 + 11 * c)) (i := c) h0 (by omega) (fun d x y z => by
        show r2 _ + r2 _ = r _ + r _
        rw [e (30 + 11 * d) (by omega) (by omega) (by omega) (by omega) (by omega), e (31 + 11 * d) (by omega) (by omega) (by omega) (by omega) (by omega)])]
    show _ + (r2 (72 + 8 * k) - r (72 + 8 * k)) = _ + (r2 (30 + 11 * c) + r2 (31 + 11 * c) - (r (30 + 11 * c) + r (31 + 11 * c)))
    rw [f5]
    rcases hg with rfl | rfl
    · rw [Int.add_zero] at f4
      rw [e (31 + 11 * c) (by omega) (by omega) (by omega) (by omega) (by omega)]
      omega
    · rw [show 30 + 11 * c + 1 = 31 + 11 * c by omega] at f4
      rw [e (30 + 11 * c) (by omega) (by omega) (by omega) (by omega) (by omega)]
      omega
