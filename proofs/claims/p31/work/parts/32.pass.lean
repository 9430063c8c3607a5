/-! A PASSAGE in the class: cells -/
theorem dIn_o {D : JD} {c b l g x y : Int} (h1 : ¬ (x = c ∧ (y = 4 ∨ y = 6))) (h2 : x ≠ c + 4) : dIn D c b l g x y = D x y := by
  unfold dIn
  by_cases hx : x = c
  · subst hx
    show jup (jup _ x 4 _) x 6 _ x y = _
    rw [jup_nk (by omega), jup_nk (by omega)]
    split
    · rw [jup_ne (by omega), jcp_ne (by omega)]
    · rw [jup_ne (by omega)]
  · show jup (jup _ c 4 _) c 6 _ x y = _
    rw [jup_ne hx, jup_ne hx]
    split
    · rw [jup_ne h2, jcp_ne h2]
    · rw [jup_ne h2]
theorem dIn_n {D : JD} {c b l g : Int} : dIn D c b l g c 4 = D c 4 + 1 ∧ dIn D c b l g c 6 = D c 6 - l := by
  unfold dIn
  constructor
  · show jup (jup _ c 4 _) c 6 _ c 4 = _
    rw [jup_nk (by omega), jup_eq]
  · show jup (jup _ c 4 _) c 6 _ c 6 = _
    rw [jup_eq]
theorem dIn_0 {D : JD} {c b l z : Int} (h0 : 0 ≤ z) (h1 : z ≤ D c 4) : dIn D c b l 0 (c + 4) z = if z = 0 then b else D (c + 4) (z - 1) := by
  unfold dIn
  show jup (jup (jup (jcp D (c + 4) 0 (c + 4) 1 (D c 4)) (c + 4) 0 b) c 4 _) c 6 _ (c + 4) z = _
  rw [jup_ne (by omega), jup_ne (by omega)]
  by_cases h : z = 0
  · rw [if_pos h, h, jup_eq]
  · rw [if_neg h, jup_nk h]
    unfold jcp
    rw [if_pos (by omega)]
    congr 1
    omega
theorem dIn_1 {D : JD} {c b l z : Int} : dIn D c b l 1 (c + 4) z = if z = D c 4 then b else D (c + 4) z := by
  unfold dIn
  show jup (jup (jup D (c + 4) (D c 4) b) c 4 _) c 6 _ (c + 4) z = _
  rw [jup_ne (by omega), jup_ne (by omega)]
  by_cases h : z = D c 4
  · rw [if_pos h, h, jup_eq]
  · rw [if_neg h, jup_nk h]
theorem dOut_o {D : JD} {c l g x y : Int} (h1 : ¬ (x = c ∧ (y = 4 ∨ y = 6))) (h2 : x ≠ c + 4) : dOut D c l g x y = D x y := by
  have e : jup (jup D c 4 (D c 4 - 1)) c 6 (D c 6 + l) x y = D x y := by
    by_cases hx : x = c
    · subst hx
      rw [jup_nk (by omega), jup_nk (by omega)]
    · rw [jup_ne hx, jup_ne hx]
  unfold dOut
  by_cases hg : g = 0
  · simp only [hg, if_true]
    rw [jcp_ne h2, e]
  · simp only [if_neg hg]
    exact e
theorem dOut_n {D : JD} {c l g : Int} : dOut D c l g c 4 = D c 4 - 1 ∧ dOut D c l g c 6 = D c 6 + l := by
  have e : jup (jup D c 4 (D c 4 - 1)) c 6 (D c 6 + l) c 4 = D c 4 - 1 ∧ jup (jup D c 4 (D c 4 - 1)) c 6 (D c 6 + l) c 6 = D c 6 + l := ⟨by rw [jup_nk (by omega), jup_eq], by rw [jup_eq]⟩
  unfold dOut
  by_cases hg : g = 0
  · simp only [hg, if_true]
    rw [jcp_ne (by omega), jcp_ne (by omega)]
    exact e
  · simp only [if_neg hg]
    exact e
theorem dOut_z {D : JD} {c l g z : Int} (h0 : 0 ≤ z) (h1 : z < D c 4 - 1) : dOut D c l g (c + 4) z = if g = 0 then D (c + 4) (z + 1) else D (c + 4) z := by
  unfold dOut
  by_cases hg : g = 0
  · simp only [hg, if_true]
    unfold jcp
    rw [if_pos (by omega), jup_ne (by omega), jup_ne (by omega)]
    congr 1
    omega
  · simp only [if_neg hg]
    rw [jup_ne (by omega), jup_ne (by omega)]
def dMv (D : JD) (wp wq bb q W : Int) : JD :=
  let D1 := jup (jup D wp 3 (D wp 3 - W)) wp 4 (D wp 4 - 1)
  let D2 := jup (jup D1 wq 3 (D1 wq 3 + W)) wq 4 (D1 wq 4 + 1)
  jup (jup D2 bb 6 q) bb 7 (D bb 7 + 1)
theorem dMv_o {D : JD} {wp wq bb q W x y : Int} (h1 : ¬ (x = wp ∧ (y = 3 ∨ y = 4))) (h2 : ¬ (x = wq ∧ (y = 3 ∨ y = 4))) (h3 : ¬ (x = bb ∧ (y = 6 ∨ y = 7))) : dMv D wp wq bb q W x y = D x y := by
  unfold dMv jup
  show (if x = bb ∧ y = 7 then _ else if x = bb ∧ y = 6 then _ else if x = wq ∧ y = 4 then _ else if x = wq ∧ y = 3 then _ else if x = wp ∧ y = 4 then _ else if x = wp ∧ y = 3 then _ else D x y) = D x y
  rw [if_neg (by omega), if_neg (by omega), if_neg (by omega), if_neg (by omega), if_neg (by omega), if_neg (by omega)]
theorem dMv_n {D : JD} {wp wq bb q W : Int} (n1 : wp ≠ wq) (n2 : wp ≠ bb) (n3 : wq ≠ bb) : (dMv D wp wq bb q W wp 3 = D wp 3 - W ∧ dMv D wp wq bb q W wp 4 = D wp 4 - 1) ∧ (dMv D wp wq bb q W wq 3 = D wq 3 + W ∧ dMv D wp wq bb q W wq 4 = D wq 4 + 1) ∧ dMv D wp wq bb q W bb 6 = q ∧ dMv D wp wq bb q W bb 7 = D bb 7 + 1 := by
  unfold dMv
  refine ⟨⟨?_, ?_⟩, ⟨?_, ?_⟩, ?_, ?_⟩
  · show jup (jup (jup (jup (jup (jup D wp 3 _) wp 4 _) wq 3 _) wq 4 _) bb 6 q) bb 7 _ wp 3 = _
    rw [jup_ne n2, jup_ne n2, jup_ne n1, jup_ne n1, jup_nk (by omega), jup_eq]
  · show jup (jup (jup (jup (jup (jup D wp 3 _) wp 4 _) wq 3 _) wq 4 _) bb 6 q) bb 7 _ wp 4 = _
    rw [jup_ne n2, jup_ne n2, jup_ne n1, jup_ne n1, jup_eq]
  · show jup (jup (jup (jup (jup (jup D wp 3 _) wp 4 _) wq 3 _) wq 4 _) bb 6 q) bb 7 _ wq 3 = _
    rw [jup_ne n3, jup_ne n3, jup_nk (by omega), jup_eq, jup_ne (fun h => n1 h.symm), jup_ne (fun h => n1 h.symm)]
  · show jup (jup (jup (jup (jup (jup D wp 3 _) wp 4 _) wq 3 _) wq 4 _) bb 6 q) bb 7 _ wq 4 = _
    rw [jup_ne n3, jup_ne n3, jup_eq, jup_ne (fun h => n1 h.symm), jup_ne (fun h => n1 h.symm)]
  · show jup (jup _ bb 6 q) bb 7 _ bb 6 = _
    rw [jup_nk (by omega), jup_eq]
  · show jup (jup _ bb 6 q) bb 7 _ bb 7 = _
    rw [jup_eq]
theorem dPass_o {D : JD} {w x y : Int} (h : ¬ (x = w ∧ (y = 1 ∨ y = 2))) : dPass D w x y = D x y := by
  unfold dPass jup
  split
  · show (if x = w ∧ y = 1 then _ else if x = w ∧ y = 2 then _ else D x y) = D x y
    rw [if_neg (by omega), if_neg (by omega)]
  · show (if x = w ∧ y = 2 then _ else D x y) = D x y
    rw [if_neg (by omega)]
theorem dPass_n {D : JD} {w : Int} : dPass D w w 2 = D w 2 + 1 ∧ dPass D w w 1 = D w 1 + (if (D w 2 + 1) % 8 = 0 then 1 else 0) := by
  unfold dPass
  by_cases h : (D w 2 + 1) % 8 = 0
  · rw [if_pos h, if_pos h]
    exact ⟨by rw [jup_nk (by omega), jup_eq], by rw [jup_eq]⟩
  · rw [if_neg h, if_neg h]
    exact ⟨by rw [jup_eq], by rw [jup_nk (by omega)]; omega⟩
theorem kX2_move {G : JG} {S : JS} {D : JD} {d : Nat} {b p q bb wp wq W : Int} (hF : jFl S b) (hc : jCt D b) (rp : i32 p) (rq : i32 q) (hbk : jK S bb = 0) (hwp : jK S wp = 6) (hwq : jK S wq = 6) (hp : D bb 6 = p) (fp : fWa D b p = some wp) (fq : fWa D b q = some wq) (hW : D bb 1 + D bb 4 + D bb 5 = W) (rW : i32 W) (n2 : wp ≠ bb) (n3 : wq ≠ bb) : JM G yX2_move cX2_move 5 none (d + 2) (0, 0) S D [.inr (.inr (some b)), .inr (.inr (some bb)), .inl q] (jn S (dMv D wp wq bb q W)) := by
  have fk := hF.1
  have n2s : bb ≠ wp := fun h => n2 h.symm
  have n3s : bb ≠ wq := fun h => n3 h.symm
  show JX _ _ _ _ _ _ _ _ _ _ _ [_, _, _, _, _] _ _
  refine x_aload_n dX2_move_0 rfl ?_
  refine x_aload_n dX2_move_1 rfl ?_
  refine gf_RX2_91 dX2_move_2 rfl (by assumption) ?_
  rw [hp]
  refine c_RX2_81d dX2_move_5 rfl (kX2_waterAt hF hc rp) (by assumption) (Nat.le_of_ble_eq_true rfl) (Nat.le_of_ble_eq_true rfl) ⟨Nat.le_refl _, Nat.le_refl _⟩ ?_
  rw [fp]
  refine x_astore_n dX2_move_8 (by decide) ?_
  show JX _ _ _ _ _ _ _ _ _ _ _ [_, _, _, _, _] _ _
  refine x_aload_n dX2_move_9 rfl ?_
  refine x_iload_n dX2_move_10 rfl ?_
  refine c_RX2_81d dX2_move_11 rfl (kX2_waterAt hF hc rq) (by assumption) (Nat.le_of_ble_eq_true rfl) (Nat.le_of_ble_eq_true rfl) ⟨Nat.le_refl _, Nat.le_refl _⟩ ?_
  rw [fq]
  refine x_astore dX2_move_14 (by decide) ?_
  show JX _ _ _ _ _ _ _ _ _ _ _ [_, _, _, _, _] _ _
  refine x_aload_n dX2_move_16 rfl ?_
  refine x_ifnull (tgt := 25) dX2_move_17 (by decide) (fun h => by cases h) (fun hb17 => ?_)
  refine x_aload dX2_move_20 rfl ?_
  refine x_ifnonnull (tgt := 26) dX2_move_22 (by decide) (fun hb22 => ?_) (fun h => by cases h)
  refine x_aload_n dX2_move_26 rfl ?_
  refine x_aload_n dX2_move_27 rfl ?_
  refine c_RX2_110d dX2_move_28 rfl (kX0_weight hbk) (by assumption) (Nat.le_of_ble_eq_true rfl) (Nat.le_of_ble_eq_true rfl) ⟨Nat.le_refl _, Nat.le_refl _⟩ ?_
  rw [hW]
  refine c_RX2_113d dX2_move_31 rfl (kX6_letOut hwp rW) (by assumption) (Nat.le_of_ble_eq_true rfl) (Nat.le_of_ble_eq_true rfl) ⟨Nat.le_refl _, Nat.le_refl _⟩ ?_
  refine x_aload dX2_move_34 rfl ?_
  refine x_aload_n dX2_move_36 rfl ?_
  refine c_RX2_110d dX2_move_37 rfl (kX0_weight hbk) (by assumption) (Nat.le_of_ble_eq_true rfl) (Nat.le_of_ble_eq_true rfl) ⟨Nat.le_refl _, Nat.le_refl _⟩ ?_
  rw [jup_ne n2s, jup_ne n2s, jup_ne n2s, jup_ne n2s, jup_ne n2s, jup_ne n2s, hW]
  refine c_RX2_87d dX2_move_40 rfl (kX6_takeIn hwq rW) (by assumption) (Nat.le_of_ble_eq_true rfl) (Nat.le_of_ble_eq_true rfl) ⟨Nat.le_refl _, Nat.le_refl _⟩ ?_
  refine x_aload_n dX2_move_43 rfl ?_
  refine x_iload_n dX2_move_44 rfl ?_
  refine pf_RX2_91 dX2_move_45 rfl (by assumption) ?_
  refine x_aload_n dX2_move_48 rfl ?_
  refine x_dup dX2_move_49 (fun _ h => by cases h) ?_
  refine gf_RX2_116 dX2_move_50 rfl (by assumption) ?_
  rw [jup_nk (show (7 : Int) ≠ 6 by decide), jup_ne n3s, jup_ne n3s, jup_ne n2s, jup_ne n2s]
  refine x_iconst dX2_move_53 ?_
  refine x_iadd dX2_move_54 ?_
  refine pf_RX2_116 dX2_move_55 rfl (by assumption) ?_
  exact x_return dX2_move_58 rfl ⟨Nat.le_refl _, Nat.le_refl _⟩ ⟨rfl, rfl, rfl⟩
theorem jCt.fr {D D2 : JD} {b : Int} (h : jCt D b) (e : ∀ k : Int, D2 b k = D b k) : jCt D2 b := by
  unfold jCt at h ⊢
  rw [e, e, e]
  exact h
theorem fWa_fr {D D2 : JD} {b p : Int} (e : ∀ k : Int, D2 b k = D b k) : fWa D2 b p = fWa D b p := by
  unfold fWa fRe
  rw [e, e]
theorem jFR.enter {t : Int} {D : JD} {b c g k cc sl wp wq bb : Int} {r : Int → Int} (hR : jFR D b r) (hI : rIn t r) (c0 : 0 ≤ c) (c1 : c < r 1) (hg : g = 0 ∨ g = 1) (k0 : 0 ≤ k) (k1 : k < r 2) (hp : r (71 + 8 * k) = c + g)
    (hcc : cc = b + 9 + 5 * c) (hsl : sl = b + 9 + 5 * c + 2 + g) (hwp : wp = b + 4 + (c + g)) (hwq : wq = b + 9 + 5 * c + 1) (hbb : bb = b + 29 + k) :
    jFR (dPass (dMv (dIn D cc k (r (65 + 8 * k)) g) wp wq bb (100 + c) (sW r k)) sl) b (rEnter k c g r) := by
  subst hcc hsl hwp hwq hbb
  have b1 := hI.1
  have hpp : r (71 + 8 * k) ≠ 100 + c := by omega
  have e := psd_in (g := g) hI c0 c1 k0 k1 hpp
  have il : ∀ j : Int, 161 ≤ j → rEnter k c g r j = rLineIn c g k r j := fun j hj => in_line hI c0 c1 hg k0 k1 hj
  obtain ⟨n1, n2, n3, n4⟩ := in_num hI c0 c1 hg k0 k1 hpp
  have m := e.mvd ⟨c0, by omega⟩ hg k0 (by omega) n1
  have hfl := m.fl k0 k1
  have hcn := m.cn k0 k1
  have hlf := m.lf k0 k1 c (e _ (by omega) (by omega) (by omega) (by omega) (by omega))
  have hln := hI.line c0 c1
  obtain ⟨e5, e6, e7, e4, er, q1, q2, q3, q4, q5, q6⟩ := (hR.2.2.1 c c0 c1).2
  obtain ⟨w0, w1, w2, w3, w4⟩ := hR.wc c0 c1
  obtain ⟨v0, v1, v2, v3, v4⟩ := hR.wr (i := c + g) (by omega) (by omega) (by omega)
  obtain ⟨z0, z1, z2, z3, z4, z5, z6, z7⟩ := hR.ba k0 k1
  have nl : rEnter k c g r (161 + 13 * c) = r (161 + 13 * c) + 1 := by rw [il _ (by omega), rLineIn_n]
  obtain ⟨⟨p1, p2⟩, ⟨p3, p4⟩, p5, p6⟩ := dMv_n (D := dIn D (b + 9 + 5 * c) k (r (65 + 8 * k)) g) (wp := b + 4 + (c + g)) (wq := b + 9 + 5 * c + 1) (bb := b + 29 + k) (q := 100 + c) (W := sW r k) (by omega) (by omega) (by omega)
  have i1 := dIn_n (D := D) (c := b + 9 + 5 * c) (b := k) (l := r (65 + 8 * k)) (g := g)
  refine hR.pass hI c0 c1 hg k0 k1 e n1 (Or.inl ⟨hp, rfl⟩) (fun x y a1 a2 a3 a4 a5 a6 => ?_) ⟨?_, ?_⟩ ⟨?_, ?_⟩ ⟨?_, ?_, fun z x y => ?_⟩ ⟨?_, ?_⟩ ⟨?_, ?_⟩
  · rw [dPass_o a3, dMv_o a4 a5 a6, dIn_o a1 a2]
  · rw [dPass_o (by omega), p1, dIn_o (by omega) (by omega), v3, hfl, if_neg (by omega), if_pos hp]; omega
  · rw [dPass_o (by omega), p2, dIn_o (by omega) (by omega), v4, hcn, if_neg (by omega), if_pos hp]; omega
  · rw [dPass_o (by omega), p3, dIn_o (by omega) (by omega), w3, hfl, if_pos rfl, if_neg hpp]; omega
  · rw [dPass_o (by omega), p4, dIn_o (by omega) (by omega), w4, hcn, if_pos rfl, if_neg hpp]; omega
  · rw [dPass_o (by omega), dMv_o (by omega) (by omega) (by omega), i1.2, e6, hlf, if_pos rfl, if_neg hpp]; omega
  · rw [dPass_o (by omega), dMv_o (by omega) (by omega) (by omega), i1.1, e4, nl]
  · rw [nl] at y
    rw [dPass_o (by omega), dMv_o (by omega) (by omega) (by omega), il _ (by omega)]
    rcases hg with rfl | rfl
    · rw [dIn_0 x (by omega), rLineIn_0 x (by omega)]
      by_cases h : z = 0
      · rw [if_pos h, if_pos h]
      · rw [if_neg h, if_neg h]; exact er _ (by omega) (by omega)
    · rw [dIn_1, rLineIn_1 x, e4]
      by_cases h : z = r (161 + 13 * c)
      · rw [if_pos h, if_pos h]
      · rw [if_neg h, if_neg h]; exact er _ (by omega) (by omega)
  · rw [dPass_n.2, dMv_o (by omega) (by omega) (by omega), dMv_o (by omega) (by omega) (by omega), dIn_o (by omega) (by omega), dIn_o (by omega) (by omega), n4]
    rcases hg with rfl | rfl
    · rw [Int.add_zero, Int.add_zero, Int.add_zero, q3, q5]
    · rw [show b + 9 + 5 * c + 2 + 1 = b + 9 + 5 * c + 3 by omega, show 27 + 11 * c + 1 = 28 + 11 * c by omega, show 30 + 11 * c + 1 = 31 + 11 * c by omega, q4, q6]
  · rw [dPass_n.1, dMv_o (by omega) (by omega) (by omega), dIn_o (by omega) (by omega), n3]
    rcases hg with rfl | rfl
    · rw [Int.add_zero, Int.add_zero, q5]
    · rw [show b + 9 + 5 * c + 2 + 1 = b + 9 + 5 * c + 3 by omega, show 30 + 11 * c + 1 = 31 + 11 * c by omega, q6]
  · rw [dPass_o (by omega), p5]
  · rw [dPass_o (by omega), p6, dIn_o (by omega) (by omega), z7, n2]
theorem jFR.leave {t : Int} {D : JD} {b c g k cc sl wp wq bb : Int} {r : Int → Int} (hR : jFR D b r) (hI : rIn t r) (c0 : 0 ≤ c) (c1 : c < r 1) (hg : g = 0 ∨ g = 1) (k0 : 0 ≤ k) (k1 : k < r 2) (hp : r (71 + 8 * k) = 100 + c)
    (hcc : cc = b + 9 + 5 * c) (hsl : sl = b + 9 + 5 * c + 2 + g) (hwp : wp = b + 9 + 5 * c + 1) (hwq : wq = b + 4 + (c + g)) (hbb : bb = b + 29 + k) :
    jFR (dPass (dMv (dOut D cc (r (65 + 8 * k)) g) wp wq bb (c + g) (sW r k)) sl) b (rLeave k c g r) := by
  subst hcc hsl hwp hwq hbb
  have b1 := hI.1
  have e := psd_out (g := g) (k := k) hI c0 c1
  have il : ∀ j : Int, 161 ≤ j → rLeave k c g r j = rLineOut c g r j := fun j hj => out_line hI c0 c1 hg k0 k1 hj
  obtain ⟨n1, n2, n3, n4⟩ := out_num hI c0 c1 hg k0 k1
  have m := e.mvd ⟨c0, by omega⟩ hg k0 (by omega) n1
  have hfl := m.fl k0 k1
  have hcn := m.cn k0 k1
  have hlf := m.lf k0 k1 c (e _ (by omega) (by omega) (by omega) (by omega) (by omega))
  have hln := hI.line c0 c1
  obtain ⟨e5, e6, e7, e4, er, q1, q2, q3, q4, q5, q6⟩ := (hR.2.2.1 c c0 c1).2
  obtain ⟨w0, w1, w2, w3, w4⟩ := hR.wc c0 c1
  obtain ⟨v0, v1, v2, v3, v4⟩ := hR.wr (i := c + g) (by omega) (by omega) (by omega)
  obtain ⟨z0, z1, z2, z3, z4, z5, z6, z7⟩ := hR.ba k0 k1
  have nl : rLeave k c g r (161 + 13 * c) = r (161 + 13 * c) - 1 := by rw [il _ (by omega), rLineOut_n]
  obtain ⟨⟨p1, p2⟩, ⟨p3, p4⟩, p5, p6⟩ := dMv_n (D := dOut D (b + 9 + 5 * c) (r (65 + 8 * k)) g) (wp := b + 9 + 5 * c + 1) (wq := b + 4 + (c + g)) (bb := b + 29 + k) (q := c + g) (W := sW r k) (by omega) (by omega) (by omega)
  have i1 := dOut_n (D := D) (c := b + 9 + 5 * c) (l := r (65 + 8 * k)) (g := g)
  refine hR.pass hI c0 c1 hg k0 k1 e n1 (Or.inr ⟨hp, rfl⟩) (fun x y a1 a2 a3 a4 a5 a6 => ?_) ⟨?_, ?_⟩ ⟨?_, ?_⟩ ⟨?_, ?_, fun z x y => ?_⟩ ⟨?_, ?_⟩ ⟨?_, ?_⟩
  · rw [dPass_o a3, dMv_o a5 a4 a6, dOut_o a1 a2]
  · rw [dPass_o (by omega), p3, dOut_o (by omega) (by omega), v3, hfl, if_pos rfl, if_neg (by omega)]; omega
  · rw [dPass_o (by omega), p4, dOut_o (by omega) (by omega), v4, hcn, if_pos rfl, if_neg (by omega)]; omega
  · rw [dPass_o (by omega), p1, dOut_o (by omega) (by omega), w3, hfl, if_neg (by omega), if_pos hp]; omega
  · rw [dPass_o (by omega), p2, dOut_o (by omega) (by omega), w4, hcn, if_neg (by omega), if_pos hp]; omega
  · rw [dPass_o (by omega), dMv_o (by omega) (by omega) (by omega), i1.2, e6, hlf, if_neg (by omega), if_pos hp]; omega
  · rw [dPass_o (by omega), dMv_o (by omega) (by omega) (by omega), i1.1, e4, nl]
  · rw [nl] at y
    rw [dPass_o (by omega), dMv_o (by omega) (by omega) (by omega), il _ (by omega), dOut_z x (by omega), rLineOut_z x y]
    split
    · exact er _ (by omega) (by omega)
    · exact er _ (by omega) (by omega)
  · rw [dPass_n.2, dMv_o (by omega) (by omega) (by omega), dMv_o (by omega) (by omega) (by omega), dOut_o (by omega) (by omega), dOut_o (by omega) (by omega), n4]
    rcases hg with rfl | rfl
    · rw [Int.add_zero, Int.add_zero, Int.add_zero, q3, q5]
    · rw [show b + 9 + 5 * c + 2 + 1 = b + 9 + 5 * c + 3 by omega, show 27 + 11 * c + 1 = 28 + 11 * c by omega, show 30 + 11 * c + 1 = 31 + 11 * c by omega, q4, q6]
  · rw [dPass_n.1, dMv_o (by omega) (by omega) (by omega), dOut_o (by omega) (by omega), n3]
    rcases hg with rfl | rfl
    · rw [Int.add_zero, Int.add_zero, q5]
    · rw [show b + 9 + 5 * c + 2 + 1 = b + 9 + 5 * c + 3 by omega, show 30 + 11 * c + 1 = 31 + 11 * c by omega, q6]
  · rw [dPass_o (by omega), p5]
  · rw [dPass_o (by omega), p6, dOut_o (by omega) (by omega), z7, n2]
