/-! THE REFERENCE: doSluice, doOpen, doLoad, doPump -/
theorem jDo_put {D D2 : JD} {M v : Int} {r r2 : Int → Int} (h1 : D2 (M + 1) = r2) (h2 : ∀ x : Int, x ≠ M + 1 → D2 x = D x) : jDo D M r (v, some r2, 0) (.inl v) D2 :=
  ⟨rfl, fun x _ h => h2 x h, fun k _ => by rw [h2 M (by omega)], h1, by rw [if_pos rfl, h2 M (by omega)]⟩
/-- acts keep what holds of every state -/
theorem rIn.load {t : Int} {r : Int → Int} {k v : Int} (hI : rIn t r) (h0 : 0 ≤ k) (h1 : k < r 2) (hv : 0 ≤ r (69 + 8 * k) + v ∧ v ≤ r (68 + 8 * k) - r (69 + 8 * k) - r (70 + 8 * k)) : rIn t (rLoad k v r) :=
  hI.put (t2 := t) (f := 69 + 8 * k) (v := v) (by omega) h0 h1 (by omega) (by omega) (by omega) (by have := hI.2.2.2.2.1; split <;> omega)
theorem sTot_put1 {t : Int} {r : Int → Int} {k v : Int} (hI : rIn t r) (h0 : 0 ≤ k) (h1 : k < r 2) : sTot (rup r (70 + 8 * k) (r (70 + 8 * k) + v)) = sTot r + v := by
  have b1 := hI.1
  unfold sTot
  rw [rup_ne (show (0 : Int) ≠ 70 + 8 * k by omega), rup_ne (show (1 : Int) ≠ 70 + 8 * k by omega), rup_ne (show (2 : Int) ≠ 70 + 8 * k by omega), jsum_congr (f := fun i => rup r (70 + 8 * k) (r (70 + 8 * k) + v) (8 + 3 * i)) (g := fun i => r (8 + 3 * i)) (fun j x y => rup_ne (by omega)),
    jsum_congr (f := fun c => rup r (70 + 8 * k) (r (70 + 8 * k) + v) (23 + 11 * c)) (g := fun c => r (23 + 11 * c)) (fun j x y => rup_ne (by omega)), jsum_one (f := fun b => r (70 + 8 * b)) (g := fun b => rup r (70 + 8 * k) (r (70 + 8 * k) + v) (70 + 8 * b)) (i := k) h0 (by omega) (fun j x y z => rup_ne (by omega))]
  show _ + (_ + (rup r (70 + 8 * k) (r (70 + 8 * k) + v) (70 + 8 * k) - r (70 + 8 * k))) = _
  rw [rup_eq]
  omega
theorem rIn.pump {t : Int} {r : Int → Int} {k v : Int} (hI : rIn t r) (h0 : 0 ≤ k) (h1 : k < r 2) (ht : -1000 ≤ v ∧ v ≤ 1000) (hv : v ≤ r (wA (r (71 + 8 * k)) + 2) ∧ 0 ≤ r (70 + 8 * k) + v ∧ v ≤ r (68 + 8 * k) - r (69 + 8 * k) - r (70 + 8 * k)) : rIn (t + 1) (rPump k v r) := by
  have b1 := hI.1
  obtain ⟨bp, w0, w1, i0, i1, d0, d1⟩ := hI.bw h0 h1
  have bl := bp.lin hI 0
  have hIa := hI.put (t2 := t + 1) (f := 70 + 8 * k) (v := v) (by omega) h0 h1 (by omega) (by omega) (by omega) (by have := hI.2.2.2.2.1; split <;> omega)
  have g0 : rup r (70 + 8 * k) (r (70 + 8 * k) + v) 0 = r 0 := rup_ne (by omega)
  have g1 : rup r (70 + 8 * k) (r (70 + 8 * k) + v) 1 = r 1 := rup_ne (by omega)
  have bp2 : rPl (rup r (70 + 8 * k) (r (70 + 8 * k) + v)) (r (71 + 8 * k)) := by unfold rPl; rw [g0, g1]; omega
  have wb : wA (r (71 + 8 * k)) + 2 < 60 := by unfold wA; split <;> omega
  have wb2 : 6 ≤ wA (r (71 + 8 * k)) := by unfold wA; split <;> omega
  have gw : rup r (70 + 8 * k) (r (70 + 8 * k) + v) (wA (r (71 + 8 * k)) + 2) = r (wA (r (71 + 8 * k)) + 2) := rup_ne (by omega)
  have hI2 := hIa.wat1 (t2 := t + 1) (x := r (wA (r (71 + 8 * k)) + 2) - v) bp2 (by omega) (by omega) (by have := hIa.2.2.2.2.1; rw [g0] at this; rw [gw, g0]; have e := sTot_put1 (v := v) hI h0 h1; have := hI.2.2.2.2.1; omega)
  rw [show rup (rup r (70 + 8 * k) (r (70 + 8 * k) + v)) (wA (r (71 + 8 * k)) + 2) (r (wA (r (71 + 8 * k)) + 2) - v) = rPump k v r from rup_comm (by omega)] at hI2
  exact hI2