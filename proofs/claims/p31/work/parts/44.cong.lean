/-! ROWS THAT AGREE ON THEIR 213 PLACES -/
theorem rIn.cong {t : Int} {r r2 : Int → Int} (hI : rIn t r) (e : ∀ j : Int, 0 ≤ j → j < 213 → r2 j = r j) : rIn t r2 := by
  have b1 := hI.1
  have hs : rSame r r2 := ⟨e 2 (by omega) (by omega), fun _ _ _ _ _ _ => e _ (by omega) (by omega)⟩
  obtain ⟨a1, a2, a3, a4, a5, a6⟩ := id hI
  have e0 := e 0 (by omega) (by omega)
  have e1 := e 1 (by omega) (by omega)
  have e2 := e 2 (by omega) (by omega)
  refine ⟨by rw [e0, e1, e2, e 3 (by omega) (by omega), e 4 (by omega) (by omega), e 5 (by omega) (by omega)]; exact a1, fun i x y => ?_, fun k x y => ⟨?_, ?_⟩, fun k x y => ?_, ?_, ?_⟩
  · rw [e0] at y
    have g := a2 i x y
    unfold rWo at g ⊢
    rw [wA_r (by omega)] at g ⊢
    rw [e _ (by omega) (by omega), e _ (by omega) (by omega), e _ (by omega) (by omega)]
    exact g
  · rw [e1] at y
    have g := (a3 k x y).1
    unfold rWo at g ⊢
    rw [wA_c x] at g ⊢
    rw [e _ (by omega) (by omega), e _ (by omega) (by omega), e _ (by omega) (by omega)]
    exact g
  · rw [e1] at y
    exact (a3 k x y).2.same hs (fun z _ _ => e _ (by omega) (by omega)) (fun z _ _ => e _ (by omega) (by omega)) (by omega) (by omega)
  · rw [e2] at y
    exact (a4 k x y).same hs x y e0 e1
  · have : sTot r2 = sTot r := by
      unfold sTot
      rw [e0, e1, e2, jsum_congr (f := fun i => r2 (8 + 3 * i)) (g := fun i => r (8 + 3 * i)) (fun k _ _ => e _ (by omega) (by omega)), jsum_congr (f := fun k => r2 (23 + 11 * k)) (g := fun k => r (23 + 11 * k)) (fun k _ _ => e _ (by omega) (by omega)), jsum_congr (f := fun k => r2 (70 + 8 * k)) (g := fun k => r (70 + 8 * k)) (fun k _ _ => e _ (by omega) (by omega))]
    rw [this, e0]
    exact a5
  · rw [e1, e2, jsum_congr (f := fun k => r2 (72 + 8 * k)) (g := fun k => r (72 + 8 * k)) (fun k _ _ => e _ (by omega) (by omega)), jsum_congr (f := fun k => r2 (30 + 11 * k) + r2 (31 + 11 * k)) (g := fun k => r (30 + 11 * k) + r (31 + 11 * k)) (fun k _ _ => by
      show r2 _ + r2 _ = r _ + r _
      rw [e _ (by omega) (by omega), e _ (by omega) (by omega)])]
    exact a6
theorem jFR.cong {t : Int} {D : JD} {b : Int} {r r2 : Int → Int} (h : jFR D b r) (hI : rIn t r) (e : ∀ j : Int, 0 ≤ j → j < 213 → r2 j = r j) : jFR D b r2 := by
  have b1 := hI.1
  have hs : rSame r r2 := ⟨e 2 (by omega) (by omega), fun _ _ _ _ _ _ => e _ (by omega) (by omega)⟩
  have e0 := e 0 (by omega) (by omega)
  have e1 := e 1 (by omega) (by omega)
  have e2 := e 2 (by omega) (by omega)
  obtain ⟨a0, aw, ac, ab⟩ := h
  refine ⟨by rw [e0, e1, e2, e 3 (by omega) (by omega), e 4 (by omega) (by omega), e 5 (by omega) (by omega)]; exact a0, fun i x y => ?_, fun k x y => ⟨?_, ?_⟩, fun k z x y p q => ?_⟩
  · rw [e0] at y
    have g := aw i x y
    unfold jWR at g ⊢
    rw [wA_r (by omega)] at g ⊢
    rw [e _ (by omega) (by omega), e _ (by omega) (by omega), e _ (by omega) (by omega), sFl_same hs, sCn_same hs]
    exact g
  · rw [e1] at y
    have g := (ac k x y).1
    unfold jWR at g ⊢
    rw [wA_c x] at g ⊢
    rw [e _ (by omega) (by omega), e _ (by omega) (by omega), e _ (by omega) (by omega), sFl_same hs, sCn_same hs]
    exact g
  · rw [e1] at y
    exact (ac k x y).2.frame hs (fun z _ _ => e _ (by omega) (by omega)) (fun z _ _ => e _ (by omega) (by omega)) (hI.line x y).2.1 (fun z => rfl) (fun z => rfl) (fun z => rfl) (fun z => rfl)
  · rw [e2] at y
    rw [e _ (by omega) (by omega)]
    exact ab k z x y p q
