/-! SHARING, on the row of numbers -/
theorem mul_bnd {a x A X : Int} (h0 : 0 ≤ a) (h1 : a ≤ A) (h2 : -X ≤ x) (h3 : x ≤ X) : -(A * X) ≤ a * x ∧ a * x ≤ A * X := by
  have hX : 0 ≤ X := by omega
  have p1 : a * x ≤ a * X := Int.mul_le_mul_of_nonneg_left h3 h0
  have p2 : a * X ≤ A * X := Int.mul_le_mul_of_nonneg_right h1 hX
  have p3 : a * (-x) ≤ a * X := Int.mul_le_mul_of_nonneg_left (by omega) h0
  rw [Int.mul_neg] at p3
  constructor <;> omega
theorem shRange {a b f g m n p q : Int} (ha : 100 ≤ a ∧ a ≤ 100000) (hb : 100 ≤ b ∧ b ≤ 100000) (hf : 0 ≤ f ∧ f ≤ 5000) (hg : 0 ≤ g ∧ g ≤ 5000) (hm : 0 ≤ m ∧ m ≤ 1000000000) (hn : 0 ≤ n ∧ n ≤ 1000000000) (hp : 0 ≤ p ∧ p ≤ 100000) (hq : 0 ≤ q ∧ q ≤ 100000) :
    i64 ((m + n + p + q) * 100 + (a * f + b * g)) ∧ i64 (a + b) ∧ 0 < a + b ∧ i64 (a * (((m + n + p + q) * 100 + (a * f + b * g)) / (a + b) - f)) ∧ i64 (a * (((m + n + p + q) * 100 + (a * f + b * g)) / (a + b) - f) / 100 - p) ∧ i64 (m + n) := by
  have b1 := mul_bnd (a := a) (x := f) (A := 100000) (X := 5000) (by omega) (by omega) (by omega) (by omega)
  have b2 := mul_bnd (a := b) (x := g) (A := 100000) (X := 5000) (by omega) (by omega) (by omega) (by omega)
  have n1 := Int.mul_nonneg (show 0 ≤ a by omega) hf.1
  have n2 := Int.mul_nonneg (show 0 ≤ b by omega) hg.1
  generalize hN : (m + n + p + q) * 100 + (a * f + b * g) = N
  have hN0 : 0 ≤ N := by omega
  have hN1 : N ≤ 300000000000 := by omega
  have q0 : 0 ≤ N / (a + b) := Int.ediv_nonneg hN0 (by omega)
  have q1 : N / (a + b) ≤ N := Int.ediv_le_self _ hN0
  have b3 := mul_bnd (a := a) (x := N / (a + b) - f) (A := 100000) (X := 300000000000) (by omega) (by omega) (by omega) (by omega)
  generalize a * (N / (a + b) - f) = P at b3 ⊢
  refine ⟨⟨by omega, by omega⟩, ⟨by omega, by omega⟩, by omega, ⟨by omega, by omega⟩, ⟨by omega, by omega⟩, ⟨by omega, by omega⟩⟩
theorem rIn.mono {t t2 : Int} {r : Int → Int} (h : rIn t r) (ht : t ≤ t2) : rIn t2 r := by
  obtain ⟨h1, h2, h3, h4, h5, h6⟩ := h
  refine ⟨by omega, h2, fun c a b => ?_, fun k a b => ?_, by omega, h6⟩
  · obtain ⟨w, x⟩ := h3 c a b
    refine ⟨w, ?_⟩
    unfold rCo at x ⊢
    refine ⟨x.1, x.2.1, x.2.2.1, x.2.2.2.1, x.2.2.2.2.1, x.2.2.2.2.2.1, x.2.2.2.2.2.2.1, x.2.2.2.2.2.2.2.1, x.2.2.2.2.2.2.2.2.1, x.2.2.2.2.2.2.2.2.2.1, by omega, by omega, x.2.2.2.2.2.2.2.2.2.2.2.2⟩
  · have x := h4 k a b
    unfold rBo at x ⊢
    omega
/-- what differs in waters alone -/
def rWs (r r2 : Int → Int) : Prop := ∀ j : Int, (∀ i : Int, 0 ≤ i → i < 5 → j ≠ 8 + 3 * i) → (∀ c : Int, 0 ≤ c → c < 4 → j ≠ 23 + 11 * c) → r2 j = r j
theorem rWs.same {r r2 : Int → Int} (h : rWs r r2) : rSame r r2 :=
  ⟨h 2 (fun i _ _ => by omega) (fun c _ _ => by omega), fun b k _ _ _ _ => h _ (fun i _ _ => by omega) (fun c _ _ => by omega)⟩
theorem rWs.wo {r r2 : Int → Int} {p : Int} (h : rWs r r2) (hp : (0 ≤ p ∧ p < 5) ∨ (100 ≤ p ∧ p < 104)) (w : rWo r p) (h0 : 0 ≤ r2 (wA p + 2)) : rWo r2 p := by
  obtain ⟨w1, w2, w3, w4, w5⟩ := w
  have e0 : r2 (wA p) = r (wA p) := by unfold wA; split <;> exact h _ (fun i _ _ => by omega) (fun c _ _ => by omega)
  have e1 : r2 (wA p + 1) = r (wA p + 1) := by unfold wA; split <;> exact h _ (fun i _ _ => by omega) (fun c _ _ => by omega)
  exact ⟨by rw [e0]; exact w1, by rw [e0]; exact w2, by rw [e1]; exact w3, by rw [e1]; exact w4, h0⟩
theorem rCo.same {t : Int} {r r2 : Int → Int} {c : Int} (hs : rSame r r2) (h : rCo t r c) (hc : ∀ k : Int, 3 ≤ k → k < 11 → r2 (21 + 11 * c + k) = r (21 + 11 * c + k)) (hl : ∀ k : Int, 0 ≤ k → k < 13 → r2 (161 + 13 * c + k) = r (161 + 13 * c + k)) (h12 : r 2 ≤ 12) (h0 : 0 ≤ r 2) : rCo t r2 c := by
  have g : ∀ k j : Int, 3 ≤ k → k < 11 → j = 21 + 11 * c + k → r2 j = r j := fun k j a b e => by rw [e]; exact hc k a b
  have e3 := g 3 (24 + 11 * c) (by omega) (by omega) (by omega)
  have e4 := g 4 (25 + 11 * c) (by omega) (by omega) (by omega)
  have e5 := g 5 (26 + 11 * c) (by omega) (by omega) (by omega)
  have e6 := g 6 (27 + 11 * c) (by omega) (by omega) (by omega)
  have e7 := g 7 (28 + 11 * c) (by omega) (by omega) (by omega)
  have e8 := g 8 (29 + 11 * c) (by omega) (by omega) (by omega)
  have e9 := g 9 (30 + 11 * c) (by omega) (by omega) (by omega)
  have e10 := g 10 (31 + 11 * c) (by omega) (by omega) (by omega)
  have el : r2 (161 + 13 * c) = r (161 + 13 * c) := by have := hl 0 (by omega) (by omega); simpa using this
  unfold rCo at h ⊢
  rw [e3, e4, e5, e6, e7, e8, e9, e10, el, sLf_same hs c e3, sCn_same hs]
  obtain ⟨a1, a2, a3, a4, a5, a6, a7, a8, a9, a10, a11, a12, a13, a14, a15, a16, a17⟩ := h
  have hn : r (161 + 13 * c) ≤ 12 := by
    rw [a15]
    unfold sCn
    have := jsum_le (f := fun b => if r (71 + 8 * b) = 100 + c then (1 : Int) else 0) (M := 1) (n := (r 2).toNat) (fun k _ _ => by show (if _ then (1 : Int) else 0) ≤ 1; split <;> omega)
    omega
  have ez : ∀ z : Int, 0 ≤ z → z < r (161 + 13 * c) → r2 (162 + 13 * c + z) = r (162 + 13 * c + z) := fun z b0 b1 => by
    have := hl (z + 1) (by omega) (by omega)
    rwa [show 161 + 13 * c + (z + 1) = 162 + 13 * c + z by omega] at this
  refine ⟨a1, a2, a3, a4, a5, a6, a7, a8, a9, a10, a11, a12, a13, a14, a15, fun z b0 b1 => ?_, fun y z b0 b1 b2 => ?_⟩
  · obtain ⟨x1, x2, x3⟩ := a16 z b0 b1
    rw [ez z b0 b1, hs.1]
    exact ⟨x1, x2, by rw [sWhere_same hs x1 x2]; exact x3⟩
  · rw [ez y b0 (by omega), ez z (by omega) b2]
    exact a17 y z b0 b1 b2
theorem rBo.same {t : Int} {r r2 : Int → Int} {b : Int} (hs : rSame r r2) (h : rBo t r b) (h0 : 0 ≤ b) (h1 : b < r 2) (e0 : r2 0 = r 0) (e1 : r2 1 = r 1) : rBo t r2 b := by
  have g : ∀ k j : Int, 0 ≤ k → k < 8 → j = 65 + 8 * b + k → r2 j = r j := fun k j a c e => by rw [e]; exact hs.2 b k h0 h1 a c
  unfold rBo at h ⊢
  rw [g 0 (65 + 8 * b) (by omega) (by omega) (by omega), g 1 (66 + 8 * b) (by omega) (by omega) (by omega), g 2 (67 + 8 * b) (by omega) (by omega) (by omega), g 3 (68 + 8 * b) (by omega) (by omega) (by omega),
    g 4 (69 + 8 * b) (by omega) (by omega) (by omega), g 5 (70 + 8 * b) (by omega) (by omega) (by omega), g 6 (71 + 8 * b) (by omega) (by omega) (by omega), g 7 (72 + 8 * b) (by omega) (by omega) (by omega), e0, e1]
  exact h
theorem rIn.water {t : Int} {r r2 : Int → Int} (h : rIn t r) (hw : rWs r r2) (h0 : ∀ i : Int, 0 ≤ i → i < r 0 → 0 ≤ r2 (8 + 3 * i)) (h1 : ∀ c : Int, 0 ≤ c → c < r 1 → 0 ≤ r2 (23 + 11 * c)) (ht : sTot r2 ≤ sTot r) : rIn t r2 := by
  obtain ⟨a1, a2, a3, a4, a5, a6⟩ := h
  have hs := hw.same
  have g : ∀ j : Int, 0 ≤ j → j < 6 → r2 j = r j := fun j _ _ => hw j (fun i _ _ => by omega) (fun c _ _ => by omega)
  have e0 := g 0 (by omega) (by omega)
  have e1 := g 1 (by omega) (by omega)
  have e2 := g 2 (by omega) (by omega)
  have e3 := g 3 (by omega) (by omega)
  have e4 := g 4 (by omega) (by omega)
  have e5 := g 5 (by omega) (by omega)
  refine ⟨by rw [e0, e1, e2, e3, e4, e5]; exact a1, fun i x y => ?_, fun c x y => ?_, fun b x y => ?_, by rw [e0]; omega, ?_⟩
  · rw [e0] at y
    exact hw.wo (Or.inl ⟨x, by omega⟩) (a2 i x y) (by rw [wA_r (by omega), show 6 + 3 * i + 2 = 8 + 3 * i by omega]; exact h0 i x y)
  · rw [e1] at y
    refine ⟨hw.wo (Or.inr ⟨by omega, by omega⟩) (a3 c x y).1 (by rw [wA_c x, show 21 + 11 * c + 2 = 23 + 11 * c by omega]; exact h1 c x y), ?_⟩
    exact (a3 c x y).2.same hs (fun k _ _ => hw _ (fun i _ _ => by omega) (fun c' _ _ => by omega)) (fun k _ _ => hw _ (fun i _ _ => by omega) (fun c' _ _ => by omega)) (by omega) (by omega)
  · rw [e2] at y
    exact (a4 b x y).same hs x y e0 e1
  · rw [e2, e1]
    rw [show jsum (fun b => r2 (72 + 8 * b)) (r 2).toNat = jsum (fun b => r (72 + 8 * b)) (r 2).toNat from jsum_congr (fun k _ _ => hw _ (fun i _ _ => by omega) (fun c' _ _ => by omega)),
      show jsum (fun c => r2 (30 + 11 * c) + r2 (31 + 11 * c)) (r 1).toNat = jsum (fun c => r (30 + 11 * c) + r (31 + 11 * c)) (r 1).toNat from jsum_congr (fun k _ _ => by
        show r2 _ + r2 _ = r _ + r _
        rw [hw (30 + 11 * k) (fun i _ _ => by omega) (fun c' _ _ => by omega), hw (31 + 11 * k) (fun i _ _ => by omega) (fun c' _ _ => by omega)])]
    exact a6
theorem sSh_ws {r : Int → Int} {c g : Int} (hc : 0 ≤ c ∧ c < 4) (hg : g = 0 ∨ g = 1) : rWs r (sSh r c g) := by
  intro j h1 h2
  have a := h1 (c + g) (by omega) (by omega)
  have b := h2 c hc.1 hc.2
  unfold sSh
  rw [rup_ne b, rup_ne a]
theorem sSh_c {r : Int → Int} {c g : Int} : sSh r c g (23 + 11 * c) = sShd r c g := by unfold sSh; rw [rup_eq]
theorem sSh_r {r : Int → Int} {c g : Int} (hc : 0 ≤ c ∧ c < 4) (hg : g = 0 ∨ g = 1) : sSh r c g (8 + 3 * (c + g)) = r (23 + 11 * c) + r (8 + 3 * (c + g)) - sShd r c g := by
  unfold sSh
  rw [rup_ne (by omega), rup_eq]
theorem sSh_o {r : Int → Int} {c g j : Int} (h1 : j ≠ 8 + 3 * (c + g)) (h2 : j ≠ 23 + 11 * c) : sSh r c g j = r j := by
  unfold sSh
  rw [rup_ne h2, rup_ne h1]
theorem sShd_b {r : Int → Int} {c g : Int} (h : 0 ≤ r (23 + 11 * c) + r (8 + 3 * (c + g))) : 0 ≤ sShd r c g ∧ sShd r c g ≤ r (23 + 11 * c) + r (8 + 3 * (c + g)) := by
  unfold sShd
  generalize r (21 + 11 * c) * (sHt r c g - r (22 + 11 * c)) / 100 - sFl r (100 + c) = x
  omega
theorem rIn.wr {t : Int} {r : Int → Int} (h : rIn t r) {i : Int} (h0 : 0 ≤ i) (h1 : i < r 0) : 0 ≤ r (8 + 3 * i) := by
  have := (h.2.1 i h0 h1).2.2.2.2
  rwa [wA_r (by have := h.1; omega), show 6 + 3 * i + 2 = 8 + 3 * i by omega] at this
theorem rIn.wc {t : Int} {r : Int → Int} (h : rIn t r) {c : Int} (h0 : 0 ≤ c) (h1 : c < r 1) : 0 ≤ r (23 + 11 * c) := by
  have := (h.2.2.1 c h0 h1).1.2.2.2.2
  rwa [wA_c h0, show 21 + 11 * c + 2 = 23 + 11 * c by omega] at this
theorem rIn.reach {t : Int} {r : Int → Int} (h : rIn t r) {c g : Int} (h0 : 0 ≤ c) (h1 : c < r 1) (hg : g = 0 ∨ g = 1) : 0 ≤ c + g ∧ c + g < r 0 := by
  have := h.1
  omega
theorem sTot_sh {t : Int} {r : Int → Int} {c g : Int} (h : rIn t r) (h0 : 0 ≤ c) (h1 : c < r 1) (hg : g = 0 ∨ g = 1) : sTot (sSh r c g) = sTot r := by
  have hc4 : c < 4 := by have := h.1; omega
  have hw := sSh_ws (r := r) ⟨h0, hc4⟩ hg
  have hr := h.reach h0 h1 hg
  have b1 := h.1
  unfold sTot
  rw [hw 0 (fun i _ _ => by omega) (fun c _ _ => by omega), hw 1 (fun i _ _ => by omega) (fun c _ _ => by omega), hw 2 (fun i _ _ => by omega) (fun c _ _ => by omega)]
  rw [jsum_one (f := fun i => r (8 + 3 * i)) (g := fun i => sSh r c g (8 + 3 * i)) (i := c + g) hr.1 (by omega) (fun k x y z => sSh_o (by omega) (by omega)),
    jsum_one (f := fun k => r (23 + 11 * k)) (g := fun k => sSh r c g (23 + 11 * k)) (i := c) h0 (by omega) (fun k x y z => sSh_o (by omega) (by omega)),
    show jsum (fun b => sSh r c g (70 + 8 * b)) (r 2).toNat = jsum (fun b => r (70 + 8 * b)) (r 2).toNat from jsum_congr (fun k _ _ => hw _ (fun i _ _ => by omega) (fun c _ _ => by omega))]
  have e1 := sSh_r (r := r) ⟨h0, hc4⟩ hg
  have e2 := sSh_c (r := r) (c := c) (g := g)
  show jsum _ _ + (sSh r c g (8 + 3 * (c + g)) - r (8 + 3 * (c + g))) + (jsum _ _ + (sSh r c g (23 + 11 * c) - r (23 + 11 * c))) + _ = _
  omega
theorem rIn.share {t : Int} {r : Int → Int} {c g : Int} (h : rIn t r) (h0 : 0 ≤ c) (h1 : c < r 1) (hg : g = 0 ∨ g = 1) : rIn t (sSh r c g) := by
  have hc4 : c < 4 := by have := h.1; omega
  have hr := h.reach h0 h1 hg
  have w1 := h.wr hr.1 hr.2
  have w2 := h.wc h0 h1
  have hb := sShd_b (r := r) (c := c) (g := g) (by omega)
  refine h.water (sSh_ws ⟨h0, hc4⟩ hg) (fun i x y => ?_) (fun k x y => ?_) (Int.le_of_eq (sTot_sh h h0 h1 hg))
  · by_cases e : i = c + g
    · subst e
      rw [sSh_r ⟨h0, hc4⟩ hg]
      omega
    · have b1 := h.1
      rw [sSh_o (by omega) (by omega)]
      exact h.wr x y
  · by_cases e : k = c
    · subst e
      rw [sSh_c]
      exact hb.1
    · have b1 := h.1
      rw [sSh_o (by omega) (by omega)]
      exact h.wc x y
theorem sAllN_keep {r : Int → Int} : ∀ (k : Nat) (j : Int), (k : Int) ≤ 4 → (∀ i : Int, 0 ≤ i → i < 5 → j ≠ 8 + 3 * i) → (∀ c : Int, 0 ≤ c → c < 4 → j ≠ 23 + 11 * c) → (∀ c : Int, 0 ≤ c → c < k → r (29 + 11 * c) = -100000005 ∨ r (29 + 11 * c) = 0 ∨ r (29 + 11 * c) = 1) → sAllN r k j = r j
  | 0, _, _, _, _, _ => rfl
  | k + 1, j, hk, h1, h2, hg => by
    have ih := fun j a b => sAllN_keep (r := r) k j (by omega) a b (fun c x y => hg c x (by omega))
    have e29 := ih (29 + 11 * k) (fun i _ _ => by omega) (fun c _ _ => by omega)
    show (if 0 ≤ sAllN r k (29 + 11 * k) then sSh (sAllN r k) k (sAllN r k (29 + 11 * k)) else sAllN r k) j = r j
    rw [e29]
    have hk2 := hg k (by omega) (by omega)
    split
    · rw [sSh_ws (r := sAllN r k) (c := k) (g := r (29 + 11 * k)) ⟨by omega, by omega⟩ (by omega) j h1 h2]
      exact ih j h1 h2
    · exact ih j h1 h2
theorem rIn.gates {t : Int} {r : Int → Int} (h : rIn t r) : ∀ c : Int, 0 ≤ c → c < r 1 → r (29 + 11 * c) = -100000005 ∨ r (29 + 11 * c) = 0 ∨ r (29 + 11 * c) = 1 :=
  fun c x y => (h.2.2.1 c x y).2.2.2.2.2.2.2.2.2.2.2.2.2.1
theorem rIn.allN {t : Int} {r : Int → Int} (h : rIn t r) : ∀ k : Nat, (k : Int) ≤ r 1 → rIn t (sAllN r k)
  | 0, _ => h
  | k + 1, hk => by
    have ih := h.allN k (by omega)
    have b1 := h.1
    have e29 := sAllN_keep (r := r) k (29 + 11 * k) (by omega) (fun i _ _ => by omega) (fun c _ _ => by omega) (fun c x y => h.gates c x (by omega))
    have e1 := sAllN_keep (r := r) k 1 (by omega) (fun i _ _ => by omega) (fun c _ _ => by omega) (fun c x y => h.gates c x (by omega))
    have hk2 := h.gates k (by omega) (by omega)
    show rIn t (if 0 ≤ sAllN r k (29 + 11 * k) then sSh (sAllN r k) k (sAllN r k (29 + 11 * k)) else sAllN r k)
    rw [e29]
    split
    · exact ih.share (by omega) (by omega) (by omega)
    · exact ih
theorem rIn.all {t : Int} {r : Int → Int} (h : rIn t r) : rIn t (sAll r) := h.allN _ (by have := h.1; omega)
