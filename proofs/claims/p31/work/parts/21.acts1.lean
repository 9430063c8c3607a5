/-! THE CLASS: its layout, its state, what an act does to it -/
def jBL (S : JS) (X : Int) : Prop := jK S X = 7 ∧ jR S X 0 = some (X + 1) ∧ jR S X 1 = some (X + 42) ∧ jR S X 2 = some (X + 249) ∧ jR S X 3 = some (X + 250) ∧ jFl S (X + 1) ∧ jHs S (X + 42) ∧ jK S (X + 249) = 15 ∧ jL S (X + 249) = 2 ∧ jK S (X + 250) = 4 ∧ jR S (X + 250) 0 = some (X + 251) ∧ jK S (X + 251) = 10 ∧ jL S (X + 251) = 60
def jSt (D : JD) (X t cz n : Int) (hs : Int → Int → Int) (r : Int → Int) (q : Int) : Prop := D X 5 = cz ∧ D X 4 = q ∧ jFR D (X + 1) r ∧ rIn t r ∧ jHi D (X + 42) t n hs
def rcN (cz n : Int) : Int := if cz = 0 then sRecN n else n
def rcH (cz n : Int) (hs : Int → Int → Int) (r : Int → Int) : Int → Int → Int := if cz = 0 then sRecH n hs r else hs
/-- outside of the object, but for its slots and text -/
def jXo (D D2 : JD) (X : Int) : Prop := ∀ x k : Int, x < X ∨ X + 249 ≤ x → D2 x k = D x k
def jXh (D D2 : JD) (X : Int) : Prop := ∀ x k : Int, x < X + 42 ∨ X + 249 ≤ x → D2 x k = D x k
/-- an act's end: its answer, its new row (behind sharing), or the reason of a refusal -/
def jCl (D : JD) (X t2 cz n : Int) (hs : Int → Int → Int) (r : Int → Int) (q : Int) (z : Int × Option (Int → Int) × Int) (w : JV) (D2 : JD) : Prop :=
  w = .inl z.1 ∧ jXo D D2 X ∧ (match z.2.1 with
    | some r2 => jSt D2 X t2 cz (rcN cz n) (rcH cz n hs r) (sAll r2) q
    | none => jSt D2 X t2 cz n hs r (if z.2.2 = 0 then q else z.2.2))
theorem jSt.mono {D : JD} {X t t2 cz n q : Int} {hs : Int → Int → Int} {r : Int → Int} (h : jSt D X t cz n hs r q) (ht : t ≤ t2) : jSt D X t2 cz n hs r q := ⟨h.1, h.2.1, h.2.2.1, h.2.2.2.1.mono ht, h.2.2.2.2.mono ht⟩
theorem jCl_none {D : JD} {X t t2 cz n q v : Int} {hs : Int → Int → Int} {r : Int → Int} (h : jSt D X t cz n hs r q) (ht : t ≤ t2) : jCl D X t2 cz n hs r q (v, none, 0) (.inl v) D := ⟨rfl, fun _ _ _ => rfl, h.mono ht⟩
theorem jCl_ref {D : JD} {X t t2 cz n q v e : Int} {hs : Int → Int → Int} {r : Int → Int} (h : jSt D X t cz n hs r q) (ht : t ≤ t2) (he : e ≠ 0) : jCl D X t2 cz n hs r q (v, none, e) (.inl v) (jup D X 4 e) := by
  refine ⟨rfl, fun x k hx => jup_ne (by omega), ?_⟩
  show jSt (jup D X 4 e) X t2 cz n hs r (if e = 0 then q else e)
  rw [if_neg he]
  have b1 := h.2.2.2.1.1
  exact ⟨by rw [jup_nk (by omega)]; exact h.1, jup_eq, h.2.2.1.frame h.2.2.2.1 (fun x k _ _ => jup_ne (by omega)), h.2.2.2.1.mono ht, (h.2.2.2.2.frame (fun x k _ _ => jup_ne (by omega))).mono ht⟩
theorem jSt.fin {D D1 D2 D3 : JD} {X t t2 cz n q : Int} {hs : Int → Int → Int} {r r3 : Int → Int} (x1 : jXh D D1 X) (st1 : jSt D1 X t cz n hs r q) (x2 : ∀ x k : Int, x < X + 1 ∨ X + 42 ≤ x → D2 x k = D1 x k) (x3 : jFx D2 D3 (X + 1)) (hR3 : jFR D3 (X + 1) r3) (hI3 : rIn t2 r3) (ht : t ≤ t2) :
    jSt D3 X t2 cz n hs r3 q ∧ jXo D D3 X := by
  obtain ⟨a1, a2, a3, a4, a5⟩ := st1
  have e : ∀ x k : Int, x < X + 1 ∨ X + 42 ≤ x → D3 x k = D1 x k := fun x k h => by rw [x3 x k (by omega), x2 x k h]
  exact ⟨⟨by rw [e X 5 (by omega)]; exact a1, by rw [e X 4 (by omega)]; exact a2, hR3, hI3, (a5.frame (fun x k _ _ => e x k (by omega))).mono ht⟩, fun x k h => by rw [e x k (by omega), x1 x k (by omega)]⟩
theorem jCl_some {D D1 D2 D3 : JD} {X t t2 cz n q v : Int} {hs : Int → Int → Int} {r r2 : Int → Int} (x1 : jXh D D1 X) (st1 : jSt D1 X t cz (rcN cz n) (rcH cz n hs r) r q) (x2 : ∀ x k : Int, x < X + 1 ∨ X + 42 ≤ x → D2 x k = D1 x k) (x3 : jFx D2 D3 (X + 1)) (hR3 : jFR D3 (X + 1) (sAll r2)) (hI2 : rIn t2 r2) (ht : t ≤ t2) :
    jCl D X t2 cz n hs r q (v, some r2, 0) (.inl v) D3 := by
  have h := jSt.fin x1 st1 x2 x3 hR3 hI2.all ht
  exact ⟨rfl, h.2, h.1⟩
theorem kX7_record_0 {G : JG} {S : JS} {D : JD} {d : Nat} {X t cz n q : Int} {hs : Int → Int → Int} {r : Int → Int} (hB : jBL S X) (hz : cz = 0) (hst : jSt D X t cz n hs r q) : JM G yX7_record cX7_record 1 none (d + 4) (0, 0) S D [.inr (.inr (some X))] (jnP S (fun D2 => jSt D2 X t cz (rcN cz n) (rcH cz n hs r) r q ∧ jXh D D2 X)) := by
  obtain ⟨bk, bf, bh, bs, bo, hF, hH, sk, sl, ok, ot, tk, tl⟩ := hB
  have fk := hF.1
  have hhk := hH.1
  obtain ⟨s5, s4, hR, hI, hi⟩ := id hst
  have hc := hR.ct hI
  have b1 := hI.1
  show JX _ _ _ _ _ _ _ _ _ _ _ [_] _ _
  refine x_aload_n dX7_record_0 rfl ?_
  refine gf_RX7_38 dX7_record_1 rfl (by assumption) ?_
  refine x_if_ne (tgt := 18) dX7_record_4 (by decide) ⟨by omega, by omega⟩ (fun h => absurd h (by omega)) (fun hb4 => ?_)
  refine x_aload_n dX7_record_7 rfl ?_
  refine gf_RX7_19 dX7_record_8 rfl (by assumption) ?_
  rw [bh]
  refine x_aload_n dX7_record_11 rfl ?_
  refine gf_RX7_10 dX7_record_12 rfl (by assumption) ?_
  rw [bf]
  refine c_RX7_318p dX7_record_15 rfl (kX3_add hH hF (by omega) hR hI hi) (by assumption) (Nat.le_of_ble_eq_true rfl) (Nat.le_of_ble_eq_true rfl) ⟨Nat.le_refl _, Nat.le_refl _⟩ (fun D1 h1 => ?_)
  exact x_return dX7_record_18 rfl ⟨Nat.le_refl _, Nat.le_refl _⟩ ⟨rfl, rfl, by
      obtain ⟨g1, g2⟩ := h1
      unfold rcN rcH
      rw [if_pos hz, if_pos hz]
      exact ⟨⟨by rw [g2 X 5 (by omega)]; exact s5, by rw [g2 X 4 (by omega)]; exact s4, hR.frame hI (fun x k _ _ => g2 x k (by omega)), hI, g1⟩, fun x k hx => g2 x k (by omega)⟩⟩
theorem kX7_record_1 {G : JG} {S : JS} {D : JD} {d : Nat} {X t cz n q : Int} {hs : Int → Int → Int} {r : Int → Int} (hB : jBL S X) (hz : cz = 1) (hst : jSt D X t cz n hs r q) : JM G yX7_record cX7_record 1 none (d + 4) (0, 0) S D [.inr (.inr (some X))] (jnP S (fun D2 => jSt D2 X t cz (rcN cz n) (rcH cz n hs r) r q ∧ jXh D D2 X)) := by
  obtain ⟨bk, bf, bh, bs, bo, hF, hH, sk, sl, ok, ot, tk, tl⟩ := hB
  have fk := hF.1
  have hhk := hH.1
  obtain ⟨s5, s4, hR, hI, hi⟩ := id hst
  have hc := hR.ct hI
  have b1 := hI.1
  show JX _ _ _ _ _ _ _ _ _ _ _ [_] _ _
  refine x_aload_n dX7_record_0 rfl ?_
  refine gf_RX7_38 dX7_record_1 rfl (by assumption) ?_
  refine x_if_ne (tgt := 18) dX7_record_4 (by decide) ⟨by omega, by omega⟩ (fun hb4 => ?_) (fun h => (h (by omega)).elim)
  exact x_return dX7_record_18 rfl ⟨Nat.le_refl _, Nat.le_refl _⟩ ⟨rfl, rfl, by
      unfold rcN rcH
      rw [if_neg (by omega), if_neg (by omega)]
      exact ⟨hst, fun _ _ _ => rfl⟩⟩
theorem kX7_record {G : JG} {S : JS} {D : JD} {d : Nat} {X t cz n q : Int} {hs : Int → Int → Int} {r : Int → Int} (hB : jBL S X) (hz : cz = 0 ∨ cz = 1) (hst : jSt D X t cz n hs r q) : JM G yX7_record cX7_record 1 none (d + 4) (0, 0) S D [.inr (.inr (some X))] (jnP S (fun D2 => jSt D2 X t cz (rcN cz n) (rcH cz n hs r) r q ∧ jXh D D2 X)) := by
  rcases hz with hz | hz
  · exact kX7_record_0 hB hz hst
  · exact kX7_record_1 hB hz hst
theorem kX7_refuse {G : JG} {S : JS} {D : JD} {d : Nat} {X e : Int} (hB : jBL S X) : JM G yX7_refuse cX7_refuse 2 (some .int) d (0, 0) S D [.inr (.inr (some X)), .inl e] (jr (.inl (-100000003)) S (jup D X 4 e)) := by
  obtain ⟨bk, bf, bh, bs, bo, hF, hH, sk, sl, ok, ot, tk, tl⟩ := hB
  have fk := hF.1
  have hhk := hH.1
  show JX _ _ _ _ _ _ _ _ _ _ _ [_, _] _ _
  refine x_aload_n dX7_refuse_0 rfl ?_
  refine x_iload_n dX7_refuse_1 rfl ?_
  refine pf_RX7_34 dX7_refuse_2 rfl (by assumption) ?_
  refine x_ldcw (e := -100000003) dX7_refuse_5 ct_RX7_317 (by decide) ?_
  exact x_ireturn dX7_refuse_8 rfl rfl ⟨Nat.le_refl _, Nat.le_refl _⟩ ⟨rfl, rfl, rfl⟩
theorem jFR.clr {t : Int} {D : JD} {b v : Int} {r : Int → Int} (h : jFR D b r) (hI : rIn t r) (hv : 0 ≤ v ∧ v ≤ 50) : jFR (jup D b 6 v) b (rup r 3 v) ∧ rIn t (rup r 3 v) := by
  have b1 := hI.1
  have hs : rSame r (rup r 3 v) := ⟨rup_ne (by omega), fun _ _ _ _ _ _ => rup_ne (by omega)⟩
  have e : ∀ j : Int, j ≠ 3 → rup r 3 v j = r j := fun j hj => rup_ne hj
  constructor
  · obtain ⟨⟨a0, a1, a2, a3, a4, a5⟩, aw, ac, ab⟩ := h
    have f : ∀ x k : Int, x ≠ b ∨ k ≠ 6 → jup D b 6 v x k = D x k := fun x k hx => by rcases hx with hx | hx; exact jup_ne hx; exact jup_nk hx
    refine ⟨⟨by rw [f _ _ (by omega), e _ (by omega)]; exact a0, by rw [f _ _ (by omega), e _ (by omega)]; exact a1, by rw [f _ _ (by omega), e _ (by omega)]; exact a2, by rw [jup_eq, rup_eq], by rw [f _ _ (by omega), e _ (by omega)]; exact a4, by rw [f _ _ (by omega), e _ (by omega)]; exact a5⟩, fun i x y => ?_, fun k x y => ⟨?_, ?_⟩, fun k z x y p q => ?_⟩
    · rw [e _ (by omega)] at y
      have g := aw i x y
      unfold jWR at g ⊢
      rw [wA_r (by omega)] at g ⊢
      rw [f _ _ (by omega), f _ _ (by omega), f _ _ (by omega), f _ _ (by omega), f _ _ (by omega), e _ (by omega), e _ (by omega), e _ (by omega), sFl_same hs, sCn_same hs]
      exact g
    · rw [e _ (by omega)] at y
      have g := (ac k x y).1
      unfold jWR at g ⊢
      rw [wA_c x] at g ⊢
      rw [f _ _ (by omega), f _ _ (by omega), f _ _ (by omega), f _ _ (by omega), f _ _ (by omega), e _ (by omega), e _ (by omega), e _ (by omega), sFl_same hs, sCn_same hs]
      exact g
    · rw [e _ (by omega)] at y
      exact (ac k x y).2.frame hs (fun z _ _ => e _ (by omega)) (fun z _ _ => e _ (by omega)) (hI.line x y).2.1 (fun z => f _ _ (by omega)) (fun z => f _ _ (by omega)) (fun z => f _ _ (by omega)) (fun z => f _ _ (by omega))
    · rw [e _ (by omega)] at y
      rw [f _ _ (by omega), e _ (by omega)]
      exact ab k z x y p q
  · obtain ⟨a1, a2, a3, a4, a5, a6⟩ := hI
    refine ⟨by rw [e 0 (by omega), e 1 (by omega), e 2 (by omega), e 4 (by omega), e 5 (by omega), rup_eq]; omega, fun i x y => ?_, fun k x y => ⟨?_, ?_⟩, fun k x y => ?_, ?_, ?_⟩
    · rw [e _ (by omega)] at y
      have g := a2 i x y
      unfold rWo at g ⊢
      rw [wA_r (by omega)] at g ⊢
      rw [e _ (by omega), e _ (by omega), e _ (by omega)]
      exact g
    · rw [e _ (by omega)] at y
      have g := (a3 k x y).1
      unfold rWo at g ⊢
      rw [wA_c x] at g ⊢
      rw [e _ (by omega), e _ (by omega), e _ (by omega)]
      exact g
    · rw [e _ (by omega)] at y
      exact (a3 k x y).2.same hs (fun z _ _ => e _ (by omega)) (fun z _ _ => e _ (by omega)) (by omega) (by omega)
    · rw [e _ (by omega)] at y
      exact (a4 k x y).same hs x y (e _ (by omega)) (e _ (by omega))
    · have : sTot (rup r 3 v) = sTot r := by
        unfold sTot
        rw [e 0 (by omega), e 1 (by omega), e 2 (by omega), jsum_congr (f := fun i => rup r 3 v (8 + 3 * i)) (g := fun i => r (8 + 3 * i)) (fun k _ _ => e _ (by omega)), jsum_congr (f := fun k => rup r 3 v (23 + 11 * k)) (g := fun k => r (23 + 11 * k)) (fun k _ _ => e _ (by omega)), jsum_congr (f := fun k => rup r 3 v (70 + 8 * k)) (g := fun k => r (70 + 8 * k)) (fun k _ _ => e _ (by omega))]
      rw [this, e 0 (by omega)]
      exact a5
    · rw [e 1 (by omega), e 2 (by omega), jsum_congr (f := fun k => rup r 3 v (72 + 8 * k)) (g := fun k => r (72 + 8 * k)) (fun k _ _ => e _ (by omega)), jsum_congr (f := fun k => rup r 3 v (30 + 11 * k) + rup r 3 v (31 + 11 * k)) (g := fun k => r (30 + 11 * k) + r (31 + 11 * k)) (fun k _ _ => by
        show rup r 3 v _ + rup r 3 v _ = r _ + r _
        rw [e _ (by omega), e _ (by omega)])]
      exact a6
abbrev Zr : Type := Int × Option (Int → Int) × Int
def zSetClearance (v : Int) (r : Int → Int) : Zr := if 0 ≤ v ∧ v ≤ 50 then (r 3, some (rup r 3 v), 0) else (-100000002, none, 0)
theorem kX7_setClearance_e {G : JG} {S : JS} {D : JD} {d : Nat} {X t cz n q : Int} {hs : Int → Int → Int} {r : Int → Int} {v : Int} (hB : jBL S X) (hz : cz = 0 ∨ cz = 1) (hst : jSt D X t cz n hs r q) (ht : t + 100 ≤ 60000) (rv : i32 v) (h : ¬ (0 ≤ v ∧ v ≤ 50)) : JM G yX7_setClearance cX7_setClearance 3 (some .int) (d + 5) (0, 0) S D [.inr (.inr (some X)), .inl v] (jrP S (jCl D X (t + 100) cz n hs r q (-100000002, none, 0))) := by
  have hB0 := hB
  obtain ⟨bk, bf, bh, bs, bo, hF, hH, sk, sl, ok, ot, tk, tl⟩ := id hB
  have fk := hF.1
  have hhk := hH.1
  obtain ⟨s5, s4, hR, hI, hi⟩ := id hst
  have hc := hR.ct hI
  have b1 := hI.1
  show JX _ _ _ _ _ _ _ _ _ _ _ [_, _, _] _ _
  refine x_iload_n dX7_setClearance_0 rfl ?_
  refine x_iconst dX7_setClearance_1 ?_
  refine x_bipush dX7_setClearance_2 (by decide) ?_
  refine c_RX7_65d dX7_setClearance_4 rfl (kX7_isWithin rv ⟨by omega, by omega⟩ ⟨by omega, by omega⟩) (Nat.le_of_ble_eq_true rfl) (Nat.le_of_ble_eq_true rfl) ⟨Nat.le_refl _, Nat.le_refl _⟩ ?_
  refine x_if_ne (tgt := 13) dX7_setClearance_7 (by decide) ⟨by split <;> omega, by split <;> omega⟩ (fun h => absurd h (by omega)) (fun hb7 => ?_)
  refine x_ldc (e := -100000002) dX7_setClearance_10 ct_RX7_46 (by decide) ?_
  exact x_ireturn dX7_setClearance_12 rfl rfl ⟨Nat.le_refl _, Nat.le_refl _⟩ ⟨rfl, _, rfl, jCl_none hst (by omega)⟩
theorem kX7_setClearance_y {G : JG} {S : JS} {D : JD} {d : Nat} {X t cz n q : Int} {hs : Int → Int → Int} {r : Int → Int} {v : Int} (hB : jBL S X) (hz : cz = 0 ∨ cz = 1) (hst : jSt D X t cz n hs r q) (ht : t + 100 ≤ 60000) (rv : i32 v) (h : 0 ≤ v ∧ v ≤ 50) : JM G yX7_setClearance cX7_setClearance 3 (some .int) (d + 5) (0, 0) S D [.inr (.inr (some X)), .inl v] (jrP S (jCl D X (t + 100) cz n hs r q (r 3, some (rup r 3 v), 0))) := by
  have hB0 := hB
  obtain ⟨bk, bf, bh, bs, bo, hF, hH, sk, sl, ok, ot, tk, tl⟩ := id hB
  have fk := hF.1
  have hhk := hH.1
  obtain ⟨s5, s4, hR, hI, hi⟩ := id hst
  have hc := hR.ct hI
  have b1 := hI.1
  show JX _ _ _ _ _ _ _ _ _ _ _ [_, _, _] _ _
  refine x_iload_n dX7_setClearance_0 rfl ?_
  refine x_iconst dX7_setClearance_1 ?_
  refine x_bipush dX7_setClearance_2 (by decide) ?_
  refine c_RX7_65d dX7_setClearance_4 rfl (kX7_isWithin rv ⟨by omega, by omega⟩ ⟨by omega, by omega⟩) (Nat.le_of_ble_eq_true rfl) (Nat.le_of_ble_eq_true rfl) ⟨Nat.le_refl _, Nat.le_refl _⟩ ?_
  refine x_if_ne (tgt := 13) dX7_setClearance_7 (by decide) ⟨by split <;> omega, by split <;> omega⟩ (fun hb7 => ?_) (fun h => (h (by omega)).elim)
  refine x_aload_n dX7_setClearance_13 rfl ?_
  refine c_RX7_51p dX7_setClearance_14 rfl (kX7_record hB hz hst) (by assumption) (Nat.le_of_ble_eq_true rfl) (Nat.le_of_ble_eq_true rfl) ⟨Nat.le_refl _, Nat.le_refl _⟩ (fun D1 h1 => ?_)
  obtain ⟨st1, x1⟩ := h1
  obtain ⟨t5, t4, hR1, hI1, hi1⟩ := id st1
  have hc1 := hR1.ct hI1
  refine x_aload_n dX7_setClearance_17 rfl ?_
  refine gf_RX7_10 dX7_setClearance_18 rfl (by assumption) ?_
  rw [bf]
  refine gf_RX7_84 dX7_setClearance_21 rfl (by assumption) ?_
  rw [hR1.1.2.2.2.1]
  refine x_istore_n dX7_setClearance_24 (by decide) ?_
  show JX _ _ _ _ _ _ _ _ _ _ _ [_, _, _] _ _
  refine x_aload_n dX7_setClearance_25 rfl ?_
  refine gf_RX7_10 dX7_setClearance_26 rfl (by assumption) ?_
  rw [bf]
  refine x_iload_n dX7_setClearance_29 rfl ?_
  refine pf_RX7_84 dX7_setClearance_30 rfl (by assumption) ?_
  obtain ⟨hR2, hI2⟩ := hR1.clr (hI1.mono (show t ≤ t + 100 by omega)) h
  refine x_aload_n dX7_setClearance_33 rfl ?_
  refine gf_RX7_10 dX7_setClearance_34 rfl (by assumption) ?_
  rw [bf]
  refine c_RX7_58p dX7_setClearance_37 rfl (kX2_settle hF hR2 hI2 (by omega)) (by assumption) (Nat.le_of_ble_eq_true rfl) (Nat.le_of_ble_eq_true rfl) ⟨Nat.le_refl _, Nat.le_refl _⟩ (fun D3 h3 => ?_)
  refine x_iload_n dX7_setClearance_40 rfl ?_
  exact x_ireturn dX7_setClearance_41 rfl rfl ⟨Nat.le_refl _, Nat.le_refl _⟩ ⟨rfl, _, rfl, jCl_some x1 st1 (fun x k hx => by exact jup_ne (by omega)) h3.2 h3.1 hI2 (by omega)⟩
theorem kX7_setClearance {G : JG} {S : JS} {D : JD} {d : Nat} {X t cz n q : Int} {hs : Int → Int → Int} {r : Int → Int} {v : Int} (hB : jBL S X) (hz : cz = 0 ∨ cz = 1) (hst : jSt D X t cz n hs r q) (ht : t + 100 ≤ 60000) (rv : i32 v) : JM G yX7_setClearance cX7_setClearance 3 (some .int) (d + 5) (0, 0) S D [.inr (.inr (some X)), .inl v] (jrP S (jCl D X (t + 100) cz n hs r q (zSetClearance v r))) := by
  unfold zSetClearance
  by_cases h : 0 ≤ v ∧ v ≤ 50
  · rw [if_pos h]; exact kX7_setClearance_y hB hz hst ht rv h
  · rw [if_neg h]; exact kX7_setClearance_e hB hz hst ht rv h
