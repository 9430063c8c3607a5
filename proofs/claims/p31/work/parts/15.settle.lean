/-! A FLIGHT HOLDS A ROW: what changes waters alone; settle() -/
theorem jFR.ct {t : Int} {D : JD} {b : Int} {r : Int → Int} (h : jFR D b r) (hI : rIn t r) : jCt D b := by
  obtain ⟨⟨h0, h1, h2, -⟩, -⟩ := h
  have a := hI.1
  unfold jCt
  rw [h0, h1, h2]
  omega
theorem jFR.water {t : Int} {D D2 : JD} {b : Int} {r r2 : Int → Int} (h : jFR D b r) (hI : rIn t r) (hw : rWs r r2) (hd : ∀ x k : Int, (∀ i : Int, 0 ≤ i → i < 5 → ¬ (x = b + 4 + i ∧ k = 2)) → (∀ c : Int, 0 ≤ c → c < 4 → ¬ (x = b + 9 + 5 * c + 1 ∧ k = 2)) → D2 x k = D x k)
    (h0 : ∀ i : Int, 0 ≤ i → i < r 0 → D2 (b + 4 + i) 2 = r2 (8 + 3 * i)) (h1 : ∀ c : Int, 0 ≤ c → c < r 1 → D2 (b + 9 + 5 * c + 1) 2 = r2 (23 + 11 * c)) : jFR D2 b r2 := by
  obtain ⟨⟨a0, a1, a2, a3, a4, a5⟩, aw, ac, ab⟩ := h
  have hb := hI.1
  have hs := hw.same
  have g : ∀ j : Int, 0 ≤ j → j < 6 → r2 j = r j := fun j _ _ => hw j (fun i _ _ => by omega) (fun c _ _ => by omega)
  have f : ∀ k : Int, D2 b k = D b k := fun k => hd b k (fun i _ _ => by omega) (fun c _ _ => by omega)
  refine ⟨⟨?_, ?_, ?_, ?_, ?_, ?_⟩, fun i x y => ?_, fun c x y => ⟨?_, ?_⟩, fun k z x y p q => ?_⟩
  · rw [f, g 0 (by omega) (by omega)]; exact a0
  · rw [f, g 1 (by omega) (by omega)]; exact a1
  · rw [f, g 2 (by omega) (by omega)]; exact a2
  · rw [f, g 3 (by omega) (by omega)]; exact a3
  · rw [f, g 4 (by omega) (by omega)]; exact a4
  · rw [f, g 5 (by omega) (by omega)]; exact a5
  · rw [g 0 (by omega) (by omega)] at y
    have e := aw i x y
    have wa := wA_r (w := i) (by omega)
    have k0 : ∀ k : Int, k ≠ 2 → D2 (b + 4 + i) k = D (b + 4 + i) k := fun k hk => hd _ _ (fun i _ _ => by omega) (fun c _ _ => by omega)
    unfold jWR at e ⊢
    rw [wa] at e ⊢
    refine ⟨by rw [k0 0 (by omega), hw _ (fun i _ _ => by omega) (fun c _ _ => by omega)]; exact e.1, by rw [k0 1 (by omega), hw _ (fun i _ _ => by omega) (fun c _ _ => by omega)]; exact e.2.1, by rw [h0 i x y]; congr 1; omega, by rw [k0 3 (by omega), sFl_same hs]; exact e.2.2.2.1, by rw [k0 4 (by omega), sCn_same hs]; exact e.2.2.2.2⟩
  · rw [g 1 (by omega) (by omega)] at y
    have e := (ac c x y).1
    have wa := wA_c (c := c) x
    have k0 : ∀ k : Int, k ≠ 2 → D2 (b + 9 + 5 * c + 1) k = D (b + 9 + 5 * c + 1) k := fun k hk => hd _ _ (fun i _ _ => by omega) (fun c _ _ => by omega)
    unfold jWR at e ⊢
    rw [wa] at e ⊢
    refine ⟨by rw [k0 0 (by omega), hw _ (fun i _ _ => by omega) (fun c _ _ => by omega)]; exact e.1, by rw [k0 1 (by omega), hw _ (fun i _ _ => by omega) (fun c _ _ => by omega)]; exact e.2.1, by rw [h1 c x y]; congr 1; omega, by rw [k0 3 (by omega), sFl_same hs]; exact e.2.2.2.1, by rw [k0 4 (by omega), sCn_same hs]; exact e.2.2.2.2⟩
  · rw [g 1 (by omega) (by omega)] at y
    have e := (ac c x y).2
    have k0 : ∀ o k : Int, o = 0 ∨ o = 2 ∨ o = 3 ∨ o = 4 → D2 (b + 9 + 5 * c + o) k = D (b + 9 + 5 * c + o) k := fun o k ho => hd _ _ (fun i _ _ => by omega) (fun c _ _ => by omega)
    have kk : ∀ k : Int, D2 (b + 9 + 5 * c) k = D (b + 9 + 5 * c) k := fun k => by have := k0 0 k (by omega); rwa [show b + 9 + 5 * c + 0 = b + 9 + 5 * c by omega] at this
    have n : ∀ j : Int, (∃ k : Int, 3 ≤ k ∧ k < 11 ∧ j = 21 + 11 * c + k) ∨ 161 ≤ j → r2 j = r j := fun j hj => by
      rcases hj with ⟨k, k1, k2, rfl⟩ | hj
      · exact hw _ (fun i _ _ => by omega) (fun c _ _ => by omega)
      · exact hw _ (fun i _ _ => by omega) (fun c _ _ => by omega)
    obtain ⟨e1, e2, e3, e4, e5, e6, e7, e8, e9, e10, e11⟩ := e
    have n24 := n (24 + 11 * c) (Or.inl ⟨3, by omega, by omega, by omega⟩)
    have n29 := n (29 + 11 * c) (Or.inl ⟨8, by omega, by omega, by omega⟩)
    have nl := n (161 + 13 * c) (Or.inr (by omega))
    refine ⟨by rw [kk, n24]; exact e1, by rw [kk, sLf_same hs c n24]; exact e2, by rw [kk, n29]; exact e3, by rw [kk, nl]; exact e4, fun z p q => ?_, ?_, ?_, ?_, ?_, ?_, ?_⟩
    · rw [nl] at q
      rw [k0 4 _ (by omega), n _ (Or.inr (by omega))]
      exact e5 z p q
    · rw [k0 2 _ (by omega), n _ (Or.inl ⟨4, by omega, by omega, by omega⟩)]; exact e6
    · rw [k0 3 _ (by omega), n _ (Or.inl ⟨5, by omega, by omega, by omega⟩)]; exact e7
    · rw [k0 2 _ (by omega), n _ (Or.inl ⟨6, by omega, by omega, by omega⟩)]; exact e8
    · rw [k0 3 _ (by omega), n _ (Or.inl ⟨7, by omega, by omega, by omega⟩)]; exact e9
    · rw [k0 2 _ (by omega), n _ (Or.inl ⟨9, by omega, by omega, by omega⟩)]; exact e10
    · rw [k0 3 _ (by omega), n _ (Or.inl ⟨10, by omega, by omega, by omega⟩)]; exact e11
  · rw [hs.1] at y
    rw [hd _ _ (fun i _ _ => by omega) (fun c _ _ => by omega), hw _ (fun i _ _ => by omega) (fun c _ _ => by omega)]
    exact ab k z x y p q
theorem rIn.floats {t : Int} {r : Int → Int} (h : rIn t r) (w : Int) : 0 ≤ sFl r w ∧ sFl r w ≤ 18000 := by
  have b1 := h.1
  have hb := h.2.2.2.1
  unfold sFl
  constructor
  · refine jsum_nonneg (fun k x y => ?_)
    have := hb k x (by omega)
    unfold rBo at this
    show 0 ≤ (if r (71 + 8 * k) = w then sW r k else 0)
    unfold sW
    split <;> omega
  · have := jsum_le (f := fun b => if r (71 + 8 * b) = w then sW r b else 0) (M := 1500) (n := (r 2).toNat) (fun k x y => by
      have := hb k x (by omega)
      unfold rBo at this
      show (if r (71 + 8 * k) = w then sW r k else 0) ≤ (1500 : Int)
      unfold sW
      split <;> omega)
    omega
theorem rIn.maxw {t : Int} {r : Int → Int} (h : rIn t r) (ht : t ≤ 60000) : sTot r ≤ 650000000 ∧ (∀ i : Int, 0 ≤ i → i < r 0 → r (8 + 3 * i) ≤ 650000000) ∧ (∀ c : Int, 0 ≤ c → c < r 1 → r (23 + 11 * c) ≤ 650000000) := by
  have b1 := h.1
  have hT := h.2.2.2.2.1
  have p1 := jsum_nonneg (f := fun i => r (8 + 3 * i)) (n := (r 0).toNat) (fun k x y => h.wr x (by omega))
  have p2 := jsum_nonneg (f := fun c => r (23 + 11 * c)) (n := (r 1).toNat) (fun k x y => h.wc x (by omega))
  have p3 := jsum_nonneg (f := fun b => r (70 + 8 * b)) (n := (r 2).toNat) (fun k x y => by
    have := h.2.2.2.1 k x (by omega)
    unfold rBo at this
    show 0 ≤ r (70 + 8 * k)
    omega)
  unfold sTot at hT ⊢
  refine ⟨by omega, fun i x y => ?_, fun c x y => ?_⟩
  · have := jsum_mem (f := fun i => r (8 + 3 * i)) (i := i) (n := (r 0).toNat) (fun k x y => h.wr x (by omega)) x (by omega)
    omega
  · have := jsum_mem (f := fun c => r (23 + 11 * c)) (i := c) (n := (r 1).toNat) (fun k x y => h.wc x (by omega)) x (by omega)
    omega
/-- what a water of a flight is, in numbers -/
theorem jFR.wr {D : JD} {b : Int} {r : Int → Int} (h : jFR D b r) {i : Int} (h0 : 0 ≤ i) (h1 : i < r 0) (h5 : r 0 ≤ 5) : D (b + 4 + i) 0 = r (6 + 3 * i) ∧ D (b + 4 + i) 1 = r (7 + 3 * i) ∧ D (b + 4 + i) 2 = r (8 + 3 * i) ∧ D (b + 4 + i) 3 = sFl r i ∧ D (b + 4 + i) 4 = sCn r i := by
  have e := h.2.1 i h0 h1
  unfold jWR at e
  rw [wA_r (by omega)] at e
  rw [show 7 + 3 * i = 6 + 3 * i + 1 by omega, show 8 + 3 * i = 6 + 3 * i + 2 by omega]
  exact e
theorem jFR.wc {D : JD} {b : Int} {r : Int → Int} (h : jFR D b r) {c : Int} (h0 : 0 ≤ c) (h1 : c < r 1) : D (b + 9 + 5 * c + 1) 0 = r (21 + 11 * c) ∧ D (b + 9 + 5 * c + 1) 1 = r (22 + 11 * c) ∧ D (b + 9 + 5 * c + 1) 2 = r (23 + 11 * c) ∧ D (b + 9 + 5 * c + 1) 3 = sFl r (100 + c) ∧ D (b + 9 + 5 * c + 1) 4 = sCn r (100 + c) := by
  have e := (h.2.2.1 c h0 h1).1
  unfold jWR at e
  rw [wA_c h0] at e
  rw [show 22 + 11 * c = 21 + 11 * c + 1 by omega, show 23 + 11 * c = 21 + 11 * c + 2 by omega]
  exact e
theorem rIn.ar {t : Int} {r : Int → Int} (h : rIn t r) {i : Int} (h0 : 0 ≤ i) (h1 : i < r 0) : 100 ≤ r (6 + 3 * i) ∧ r (6 + 3 * i) ≤ 100000 ∧ 0 ≤ r (7 + 3 * i) ∧ r (7 + 3 * i) ≤ 5000 ∧ 0 ≤ r (8 + 3 * i) := by
  have e := h.2.1 i h0 h1
  unfold rWo at e
  rw [wA_r (by have := h.1; omega), show 6 + 3 * i + 1 = 7 + 3 * i by omega, show 6 + 3 * i + 2 = 8 + 3 * i by omega] at e
  exact e
theorem rIn.ac {t : Int} {r : Int → Int} (h : rIn t r) {c : Int} (h0 : 0 ≤ c) (h1 : c < r 1) : 100 ≤ r (21 + 11 * c) ∧ r (21 + 11 * c) ≤ 100000 ∧ 0 ≤ r (22 + 11 * c) ∧ r (22 + 11 * c) ≤ 5000 ∧ 0 ≤ r (23 + 11 * c) := by
  have e := (h.2.2.1 c h0 h1).1
  unfold rWo at e
  rw [wA_c h0, show 21 + 11 * c + 1 = 22 + 11 * c by omega, show 21 + 11 * c + 2 = 23 + 11 * c by omega] at e
  exact e
theorem jFR.shOk {t : Int} {D : JD} {b : Int} {r : Int → Int} (h : jFR D b r) (hI : rIn t r) (ht : t ≤ 60000) {c g : Int} (h0 : 0 ≤ c) (h1 : c < r 1) (hg : g = 0 ∨ g = 1) : dShareOk D (b + 9 + 5 * c + 1) (b + 4 + (c + g)) ∧ dShare D (b + 9 + 5 * c + 1) (b + 4 + (c + g)) = sShd r c g := by
  have hr := hI.reach h0 h1 hg
  obtain ⟨w0, w1, w2, w3, -⟩ := h.wc h0 h1
  obtain ⟨r0, r1, r2, r3, -⟩ := h.wr hr.1 hr.2 (by have := hI.1; omega)
  have m := hI.maxw ht
  have m1 := m.2.1 _ hr.1 hr.2
  have m2 := m.2.2 _ h0 h1
  have a1 := hI.ar hr.1 hr.2
  have a2 := hI.ac h0 h1
  have f1 := hI.floats (100 + c)
  have f2 := hI.floats (c + g)
  unfold dShareOk dShare
  rw [w0, w1, w2, w3, r0, r1, r2, r3]
  exact ⟨shRange ⟨by omega, by omega⟩ ⟨by omega, by omega⟩ ⟨by omega, by omega⟩ ⟨by omega, by omega⟩ ⟨by omega, by omega⟩ ⟨by omega, by omega⟩ ⟨by omega, by omega⟩ ⟨by omega, by omega⟩, rfl⟩
theorem jFR.share {t : Int} {D : JD} {b : Int} {r : Int → Int} (h : jFR D b r) (hI : rIn t r) {c g : Int} (h0 : 0 ≤ c) (h1 : c < r 1) (hg : g = 0 ∨ g = 1) : jFR (jup (jup D (b + 9 + 5 * c + 1) 2 (sShd r c g)) (b + 4 + (c + g)) 2 (D (b + 9 + 5 * c + 1) 2 + D (b + 4 + (c + g)) 2 - sShd r c g)) b (sSh r c g) := by
  have hr := hI.reach h0 h1 hg
  have b1 := hI.1
  have w2 := (h.wc h0 h1).2.2.1
  have r2 := (h.wr hr.1 hr.2 (by omega)).2.2.1
  refine h.water hI (sSh_ws ⟨h0, by omega⟩ hg) (fun x k y z => ?_) (fun i x y => ?_) (fun k x y => ?_)
  · have y1 := y (c + g) (by omega) (by omega)
    have z1 := z c (by omega) (by omega)
    simp only [jup]
    rw [if_neg y1, if_neg z1]
  · by_cases e : i = c + g
    · subst e
      rw [jup_eq, sSh_r ⟨h0, by omega⟩ hg, w2, r2]
    · rw [jup_ne (by omega), jup_ne (by omega), sSh_o (by omega) (by omega)]
      exact (h.wr x y (by omega)).2.2.1
  · by_cases e : k = c
    · subst e
      rw [jup_ne (by omega), jup_eq, sSh_c]
    · rw [jup_ne (by omega), jup_ne (by omega), sSh_o (by omega) (by omega)]
      exact (h.wc x y).2.2.1
/-- nothing changes outside a flight -/
def jFx (D D2 : JD) (b : Int) : Prop := ∀ x k : Int, x < b ∨ b + 41 ≤ x → D2 x k = D x k
theorem settle_loop {G : JG} {S : JS} {D0 : JD} {d : Nat} {b t : Int} {r : Int → Int} (hF : jFl S b) (hI0 : rIn t r) (ht : t ≤ 60000) : ∀ (n i : Nat) (D : JD), (i : Int) + n = r 1 → jFR D b (sAllN r i) → rIn t (sAllN r i) → jFx D0 D b → ∀ l2 l3 : Option JV,
    JX G yX2_settle cX2_settle 4 none (d + 4) (0, 0) (0, 0) S D 2 [some (.inr (.inr (some b))), some (.inl i), l2, l3] [] (jnP S (fun D2 => jFR D2 b (sAll r) ∧ jFx D0 D2 b)) := by
  have hb1 := hI0.1
  intro n
  induction n with
  | zero =>
    intro i D hn hR hI hX l2 l3
    have fk := hF.1
    have hc := hR.ct hI
    have b1 := hI.1
    have e4 := hR.1.2.1
    have c4 := hc.2.2.2.1
    have k1 := sAllN_keep (r := r) i 1 (by omega) (fun i _ _ => by omega) (fun c _ _ => by omega) (fun c x y => hI0.gates c x (by omega))
    rw [k1] at e4
    refine x_iload_n dX2_settle_2 rfl ?_
    refine x_aload_n dX2_settle_3 rfl ?_
    refine gf_RX2_36 dX2_settle_4 rfl (by assumption) ?_
    refine x_ic_ge (tgt := 48) dX2_settle_7 (by decide) ⟨by omega, by omega⟩ ⟨by omega, by omega⟩ (fun hb7 => ?_) (fun h => (h (by omega)).elim)
    exact x_return dX2_settle_48 rfl ⟨Nat.le_refl _, Nat.le_refl _⟩ ⟨rfl, rfl, by unfold sAll; rw [show (r 1).toNat = i by omega]; exact hR, hX⟩
  | succ n ih =>
    intro i D hn hR hI hX l2 l3
    have fk := hF.1
    have hc := hR.ct hI
    have b1 := hI.1
    have e4 := hR.1.2.1
    have c4 := hc.2.2.2.1
    have k1 := sAllN_keep (r := r) i 1 (by omega) (fun i _ _ => by omega) (fun c _ _ => by omega) (fun c x y => hI0.gates c x (by omega))
    rw [k1] at e4
    have cc := (hF.2.2.2.2.2.2.2.2.2.2.2.1 (i : Int) (by omega) (by omega)).2
    have cck := cc.1
    have cw := cc.2.1
    have cwk := cc.2.2.2.2.2.1
    have k29 := sAllN_keep (r := r) i (29 + 11 * i) (by omega) (fun i _ _ => by omega) (fun c _ _ => by omega) (fun c x y => hI0.gates c x (by omega))
    have hg := hI0.gates i (by omega) (by omega)
    have e7 := (hR.2.2.1 i (by omega) (by omega)).2.2.2.1
    rw [k29] at e7
    by_cases q : r (29 + 11 * i) = -100000005
    · rw [if_pos q] at e7
      have es : sAllN r (i + 1) = sAllN r i := by
        show (if 0 ≤ sAllN r i (29 + 11 * i) then sSh (sAllN r i) i (sAllN r i (29 + 11 * i)) else sAllN r i) = _
        rw [k29, if_neg (by omega)]
      refine x_iload_n dX2_settle_2 rfl ?_
      refine x_aload_n dX2_settle_3 rfl ?_
      refine gf_RX2_36 dX2_settle_4 rfl (by assumption) ?_
      refine x_ic_ge (tgt := 48) dX2_settle_7 (by decide) ⟨by omega, by omega⟩ ⟨by omega, by omega⟩ (fun h => absurd h (by omega)) (fun hb7 => ?_)
      refine x_aload_n dX2_settle_10 rfl ?_
      refine x_iload_n dX2_settle_11 rfl ?_
      refine c_RX2_52d dX2_settle_12 rfl (kX2_chamberAt_y hF hc ⟨by omega, by omega⟩) (by assumption) (Nat.le_of_ble_eq_true rfl) (Nat.le_of_ble_eq_true rfl) ⟨Nat.le_refl _, Nat.le_refl _⟩ ?_
      refine x_astore_n dX2_settle_15 (by decide) ?_
      show JX _ _ _ _ _ _ _ _ _ _ _ [_, _, _, _] _ _
      refine x_aload_n dX2_settle_16 rfl ?_
      refine x_ifnull (tgt := 42) dX2_settle_17 (by decide) (fun h => by cases h) (fun hb17 => ?_)
      refine x_aload_n dX2_settle_20 rfl ?_
      refine x_iload_n dX2_settle_21 rfl ?_
      refine x_aload_n dX2_settle_22 rfl ?_
      refine gf_RX2_119 dX2_settle_23 rfl (by assumption) ?_
      refine c_RX2_122d dX2_settle_26 rfl (kX2_reachBehind_n hF hc ⟨by omega, by omega⟩ ⟨by omega, by omega⟩ (by omega)) (by assumption) (Nat.le_of_ble_eq_true rfl) (Nat.le_of_ble_eq_true rfl) ⟨Nat.le_refl _, Nat.le_refl _⟩ ?_
      refine x_astore_n dX2_settle_29 (by decide) ?_
      show JX _ _ _ _ _ _ _ _ _ _ _ [_, _, _, _] _ _
      refine x_aload_n dX2_settle_30 rfl ?_
      refine x_ifnull (tgt := 42) dX2_settle_31 (by decide) (fun hb31 => ?_) (fun h => absurd rfl h)
      refine x_iinc dX2_settle_42 rfl (by decide) ?_
      show JX _ _ _ _ _ _ _ _ _ _ _ [_, _, _, _] _ _
      refine x_goto (tgt := 2) dX2_settle_45 (by decide) ?_
      exact ih (i + 1) D (by omega) (by rw [es]; exact hR) (by rw [es]; exact hI) hX _ _
    · rw [if_neg q] at e7
      have es : sAllN r (i + 1) = sSh (sAllN r i) i (r (29 + 11 * i)) := by
        show (if 0 ≤ sAllN r i (29 + 11 * i) then sSh (sAllN r i) i (sAllN r i (29 + 11 * i)) else sAllN r i) = _
        rw [k29, if_pos (by omega)]
      have hg2 : r (29 + 11 * i) = 0 ∨ r (29 + 11 * i) = 1 := by omega
      obtain ⟨so, sd⟩ := hR.shOk hI ht (c := i) (by omega) (by omega) hg2
      have sh := hR.share hI (c := i) (by omega) (by omega) hg2
      rw [← sd] at sh
      have rb : fRe D b ((i : Int) + D (b + 9 + 5 * i) 7) = some (b + 4 + ((i : Int) + r (29 + 11 * i))) := by
        unfold fRe
        rw [e7, if_pos (by have := hR.1.1; have := hI.1; omega)]
      have rk := (hF.2.2.2.2.2.2.2.2.2.2.1 ((i : Int) + r (29 + 11 * i)) (by omega) (by omega)).2
      refine x_iload_n dX2_settle_2 rfl ?_
      refine x_aload_n dX2_settle_3 rfl ?_
      refine gf_RX2_36 dX2_settle_4 rfl (by assumption) ?_
      refine x_ic_ge (tgt := 48) dX2_settle_7 (by decide) ⟨by omega, by omega⟩ ⟨by omega, by omega⟩ (fun h => absurd h (by omega)) (fun hb7 => ?_)
      refine x_aload_n dX2_settle_10 rfl ?_
      refine x_iload_n dX2_settle_11 rfl ?_
      refine c_RX2_52d dX2_settle_12 rfl (kX2_chamberAt_y hF hc ⟨by omega, by omega⟩) (by assumption) (Nat.le_of_ble_eq_true rfl) (Nat.le_of_ble_eq_true rfl) ⟨Nat.le_refl _, Nat.le_refl _⟩ ?_
      refine x_astore_n dX2_settle_15 (by decide) ?_
      show JX _ _ _ _ _ _ _ _ _ _ _ [_, _, _, _] _ _
      refine x_aload_n dX2_settle_16 rfl ?_
      refine x_ifnull (tgt := 42) dX2_settle_17 (by decide) (fun h => by cases h) (fun hb17 => ?_)
      refine x_aload_n dX2_settle_20 rfl ?_
      refine x_iload_n dX2_settle_21 rfl ?_
      refine x_aload_n dX2_settle_22 rfl ?_
      refine gf_RX2_119 dX2_settle_23 rfl (by assumption) ?_
      refine c_RX2_122d dX2_settle_26 rfl (kX2_reachBehind_y hF hc ⟨by omega, by omega⟩ (by rw [e7]; exact hg2)) (by assumption) (Nat.le_of_ble_eq_true rfl) (Nat.le_of_ble_eq_true rfl) ⟨Nat.le_refl _, Nat.le_refl _⟩ ?_
      rw [rb]
      refine x_astore_n dX2_settle_29 (by decide) ?_
      show JX _ _ _ _ _ _ _ _ _ _ _ [_, _, _, _] _ _
      refine x_aload_n dX2_settle_30 rfl ?_
      refine x_ifnull (tgt := 42) dX2_settle_31 (by decide) (fun h => by cases h) (fun hb31 => ?_)
      refine x_aload_n dX2_settle_34 rfl ?_
      refine gf_RX2_68 dX2_settle_35 rfl (by assumption) ?_
      rw [cw]
      refine x_aload_n dX2_settle_38 rfl ?_
      refine c_RX2_126d dX2_settle_39 rfl (kX6_shareWith cwk rk (by omega) so) (by assumption) (Nat.le_of_ble_eq_true rfl) (Nat.le_of_ble_eq_true rfl) ⟨Nat.le_refl _, Nat.le_refl _⟩ ?_
      refine x_iinc dX2_settle_42 rfl (by decide) ?_
      show JX _ _ _ _ _ _ _ _ _ _ _ [_, _, _, _] _ _
      refine x_goto (tgt := 2) dX2_settle_45 (by decide) ?_
      exact ih (i + 1) _ (by omega) (by rw [es]; exact sh) (by rw [es]; exact hI.share (by omega) (by omega) hg2) (fun x k hx => by rw [jup_ne (by omega), jup_ne (by omega)]; exact hX x k hx) _ _
theorem kX2_settle {G : JG} {S : JS} {D : JD} {d : Nat} {b t : Int} {r : Int → Int} (hF : jFl S b) (hR : jFR D b r) (hI : rIn t r) (ht : t ≤ 60000) : JM G yX2_settle cX2_settle 4 none (d + 4) (0, 0) S D [.inr (.inr (some b))] (jnP S (fun D2 => jFR D2 b (sAll r) ∧ jFx D D2 b)) := by
  have b1 := hI.1
  show JX _ _ _ _ _ _ _ _ _ _ _ [_, _, _, _] _ _
  refine x_iconst dX2_settle_0 ?_
  refine x_istore_n dX2_settle_1 (by decide) ?_
  show JX _ _ _ _ _ _ _ _ _ _ _ [_, _, _, _] _ _
  exact settle_loop hF hI ht (r 1).toNat 0 D (by omega) hR hI (fun _ _ _ => rfl) _ _
