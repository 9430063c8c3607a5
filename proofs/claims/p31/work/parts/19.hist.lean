/-! THE HISTORY -/
theorem jWR.frame {D D2 : JD} {w : Int} {r : Int → Int} {p : Int} (h : jWR D w r p) (hd : ∀ k : Int, D2 w k = D w k) : jWR D2 w r p := by
  unfold jWR at h ⊢
  rw [hd, hd, hd, hd, hd]
  exact h
theorem jFR.frame {t : Int} {D D2 : JD} {b : Int} {r : Int → Int} (h : jFR D b r) (hI : rIn t r) (hd : ∀ x k : Int, b ≤ x → x < b + 41 → D2 x k = D x k) : jFR D2 b r := by
  have b1 := hI.1
  obtain ⟨a0, aw, ac, ab⟩ := h
  have f : ∀ k : Int, D2 b k = D b k := fun k => hd b k (by omega) (by omega)
  refine ⟨by rw [f, f, f, f, f, f]; exact a0, fun i x y => (aw i x y).frame (fun k => hd _ k (by omega) (by omega)), fun c x y => ⟨(ac c x y).1.frame (fun k => hd _ k (by omega) (by omega)), ?_⟩, fun k z x y p q => by rw [hd _ z (by omega) (by omega)]; exact ab k z x y p q⟩
  obtain ⟨e5, e6, e7, e4, er, q⟩ := (ac c x y).2
  have g0 : ∀ k : Int, D2 (b + 9 + 5 * c) k = D (b + 9 + 5 * c) k := fun k => hd _ k (by omega) (by omega)
  have g2 : ∀ k : Int, D2 (b + 9 + 5 * c + 2) k = D (b + 9 + 5 * c + 2) k := fun k => hd _ k (by omega) (by omega)
  have g3 : ∀ k : Int, D2 (b + 9 + 5 * c + 3) k = D (b + 9 + 5 * c + 3) k := fun k => hd _ k (by omega) (by omega)
  unfold jCR
  rw [g0, g0, g0, g0, g2, g2, g2, g3, g3, g3]
  exact ⟨e5, e6, e7, e4, fun z p1 p2 => by rw [hd _ z (by omega) (by omega)]; exact er z p1 p2, q⟩
def jHs (S : JS) (hh : Int) : Prop := jK S hh = 3 ∧ jR S hh 0 = some (hh + 1) ∧ jK S (hh + 1) = 15 ∧ jL S (hh + 1) = 5 ∧ ∀ i : Int, 0 ≤ i → i < 5 → jR S (hh + 1) i = some (hh + 2 + 41 * i) ∧ jFl S (hh + 2 + 41 * i)
def jHi (D : JD) (hh t n : Int) (hs : Int → Int → Int) : Prop := 0 ≤ D hh 1 ∧ D hh 1 < 5 ∧ D hh 2 = n ∧ 0 ≤ n ∧ n ≤ 5 ∧ ∀ k : Int, 0 ≤ k → k < n → jFR D (hh + 2 + 41 * ((D hh 1 + k) % 5)) (hs k) ∧ rIn t (hs k)
def sRecN (n : Int) : Int := if n = 5 then 5 else n + 1
def sRecH (n : Int) (hs : Int → Int → Int) (r : Int → Int) : Int → Int → Int := fun k => if n = 5 then (if k < 4 then hs (k + 1) else r) else if k = n then r else hs k
theorem jHi.frame {D D2 : JD} {hh t n : Int} {hs : Int → Int → Int} (h : jHi D hh t n hs) (hd : ∀ x k : Int, hh ≤ x → x < hh + 207 → D2 x k = D x k) : jHi D2 hh t n hs := by
  obtain ⟨h1, h2, h3, h4, h5, h6⟩ := h
  have e1 := hd hh 1 (by omega) (by omega)
  have e2 := hd hh 2 (by omega) (by omega)
  unfold jHi
  rw [e1, e2]
  exact ⟨h1, h2, h3, h4, h5, fun k x y => ⟨(h6 k x y).1.frame (h6 k x y).2 (fun z w p q => hd z w (by omega) (by omega)), (h6 k x y).2⟩⟩
theorem jHi.mono {D : JD} {hh t t2 n : Int} {hs : Int → Int → Int} (h : jHi D hh t n hs) (ht : t ≤ t2) : jHi D hh t2 n hs := by
  obtain ⟨h1, h2, h3, h4, h5, h6⟩ := h
  exact ⟨h1, h2, h3, h4, h5, fun k x y => ⟨(h6 k x y).1, (h6 k x y).2.mono ht⟩⟩
theorem kX3_stateAt {G : JG} {S : JS} {D : JD} {d : Nat} {hh k o : Int} (hH : jHs S hh) (ho : D hh 1 = o) (h0 : 0 ≤ o) (h1 : o < 5) (hk0 : 0 ≤ k) (hk1 : k ≤ 5) : JM G yX3_stateAt cX3_stateAt 3 (some (.object "BargeLocks$Flight")) d (0, 0) S D [.inr (.inr (some hh)), .inl k] (jr (.inr (.inr (some (hh + 2 + 41 * ((o + k) % 5))))) S D) := by
  obtain ⟨fk, f0, k1, l1, fr⟩ := hH
  have fri := fr ((o + k) % 5) (by omega) (by omega)
  show JX _ _ _ _ _ _ _ _ _ _ _ [_, _, _] _ _
  refine x_aload_n dX3_stateAt_0 rfl ?_
  refine gf_RX3_18 dX3_stateAt_1 rfl (by assumption) ?_
  rw [ho]
  refine x_iload_n dX3_stateAt_4 rfl ?_
  refine x_iadd dX3_stateAt_5 ?_
  refine x_iconst dX3_stateAt_6 ?_
  refine x_irem dX3_stateAt_7 ⟨by omega, by omega⟩ ⟨by omega, by omega⟩ (by omega) ?_
  rw [Int.tmod_eq_emod_of_nonneg (show 0 ≤ o + k by omega)]
  refine x_istore_n dX3_stateAt_8 (by decide) ?_
  show JX _ _ _ _ _ _ _ _ _ _ _ [_, _, _] _ _
  refine x_iload_n dX3_stateAt_9 rfl ?_
  refine x_if_lt (tgt := 31) dX3_stateAt_10 (by decide) ⟨by omega, by omega⟩ (fun h => absurd h (by omega)) (fun hb10 => ?_)
  refine x_iload_n dX3_stateAt_13 rfl ?_
  refine x_aload_n dX3_stateAt_14 rfl ?_
  refine gf_RX3_11 dX3_stateAt_15 rfl (by assumption) ?_
  rw [f0]
  refine x_alen (c := 15) dX3_stateAt_18 (by decide) (by assumption) ?_
  refine x_ic_ge (tgt := 31) dX3_stateAt_19 (by decide) ⟨by omega, by omega⟩ ⟨by omega, by omega⟩ (fun h => absurd h (by omega)) (fun hb19 => ?_)
  refine x_aload_n dX3_stateAt_22 rfl ?_
  refine gf_RX3_11 dX3_stateAt_23 rfl (by assumption) ?_
  rw [f0]
  refine x_iload_n dX3_stateAt_26 rfl ?_
  refine x_aald (c := 15) dX3_stateAt_27 (by decide) rfl (by assumption) ⟨by omega, by omega⟩ ?_
  refine x_goto (tgt := 32) dX3_stateAt_28 (by decide) ?_
  exact x_areturn dX3_stateAt_32 rfl (Or.inl ⟨_, rfl⟩) ⟨Nat.le_refl _, Nat.le_refl _⟩ ⟨by rw [fri.1], rfl, rfl⟩
theorem jCp.pre {D2 D D0 : JD} {o b : Int} (h : jCp D2 o D b) (hd : ∀ x k : Int, b ≤ x → x < b + 41 → D x k = D0 x k) : jCp D2 o D0 b := by
  obtain ⟨c0, c1, c2, c3⟩ := h
  refine ⟨fun k x y => by rw [c0 k x y, hd _ _ (by omega) (by omega)], fun i k x y p q => by rw [c1 i k x y p q, hd _ _ (by omega) (by omega)], fun i k x y => ?_, fun i k x y p q => by rw [c3 i k x y p q, hd _ _ (by omega) (by omega)]⟩
  obtain ⟨a1, a2, a3, a4, a5⟩ := c2 i k x y
  exact ⟨fun p q => by rw [a1 p q, hd _ _ (by omega) (by omega)], fun p q => by rw [a2 p q, hd _ _ (by omega) (by omega)], fun p q => by rw [a3 p q, hd _ _ (by omega) (by omega)], fun p q => by rw [a4 p q, hd _ _ (by omega) (by omega)], fun p q => by rw [a5 p q, hd _ _ (by omega) (by omega)]⟩
theorem kX3_add_full {G : JG} {S : JS} {D : JD} {d : Nat} {hh b t n : Int} {r : Int → Int} {hs : Int → Int → Int} (hH : jHs S hh) (hF : jFl S b) (hdis : b + 41 ≤ hh ∨ hh + 207 ≤ b) (hR : jFR D b r) (hI : rIn t r) (hi : jHi D hh t n hs) (hn : n = 5) : JM G yX3_add cX3_add 3 none (d + 3) (0, 0) S D [.inr (.inr (some hh)), .inr (.inr (some b))] (jnP S (fun D2 => jHi D2 hh t (sRecN n) (sRecH n hs r) ∧ ∀ x k : Int, (x < hh ∨ hh + 207 ≤ x) → D2 x k = D x k)) := by
  subst hn
  obtain ⟨h1, h2, h3, h4, h5, h6⟩ := hi
  have fk := hH.1
  have fl := (hH.2.2.2.2 (((D hh 1 + 1) % 5 + (5 - 1)) % 5) (by omega) (by omega)).2
  show JX _ _ _ _ _ _ _ _ _ _ _ [_, _, _] _ _
  refine x_aload_n dX3_add_0 rfl ?_
  refine gf_RX3_22 dX3_add_1 rfl (by assumption) ?_
  rw [h3]
  refine x_iconst dX3_add_4 ?_
  refine x_ic_ne (tgt := 30) dX3_add_5 (by decide) ⟨by omega, by omega⟩ ⟨by omega, by omega⟩ (fun h => absurd h (by omega)) (fun hb5 => ?_)
  refine x_aload_n dX3_add_8 rfl ?_
  refine x_aload_n dX3_add_9 rfl ?_
  refine gf_RX3_18 dX3_add_10 rfl (by assumption) ?_
  refine x_iconst dX3_add_13 ?_
  refine x_iadd dX3_add_14 ?_
  refine x_iconst dX3_add_15 ?_
  refine x_irem dX3_add_16 ⟨by omega, by omega⟩ ⟨by omega, by omega⟩ (by omega) ?_
  rw [Int.tmod_eq_emod_of_nonneg (show 0 ≤ D hh 1 + 1 by omega)]
  refine pf_RX3_18 dX3_add_17 rfl (by assumption) ?_
  refine x_aload_n dX3_add_20 rfl ?_
  refine x_dup dX3_add_21 (fun _ h => by cases h) ?_
  refine gf_RX3_22 dX3_add_22 rfl (by assumption) ?_
  rw [jup_nk (show (2 : Int) ≠ 1 by omega), h3]
  refine x_iconst dX3_add_25 ?_
  refine x_isub dX3_add_26 ?_
  refine pf_RX3_22 dX3_add_27 rfl (by assumption) ?_
  refine x_aload_n dX3_add_30 rfl ?_
  refine x_aload_n dX3_add_31 rfl ?_
  refine gf_RX3_22 dX3_add_32 rfl (by assumption) ?_
  rw [jup_eq]
  refine c_RX3_25d dX3_add_35 rfl (kX3_stateAt (o := ((D hh 1 + 1) % 5)) hH (by rw [jup_nk (by omega), jup_eq]) (by omega) (by omega) (by omega) (by omega)) (by assumption) (Nat.le_of_ble_eq_true rfl) (Nat.le_of_ble_eq_true rfl) ⟨Nat.le_refl _, Nat.le_refl _⟩ ?_
  refine x_astore_n dX3_add_38 (by decide) ?_
  show JX _ _ _ _ _ _ _ _ _ _ _ [_, _, _] _ _
  refine x_aload_n dX3_add_39 rfl ?_
  refine x_ifnull (tgt := 58) dX3_add_40 (by decide) (fun h => by cases h) (fun hb40 => ?_)
  refine x_aload_n dX3_add_43 rfl ?_
  refine x_aload_n dX3_add_44 rfl ?_
  refine c_RX3_29p dX3_add_45 rfl (kX2_copyTo hF fl (by omega)) hF.1 (Nat.le_of_ble_eq_true rfl) (Nat.le_of_ble_eq_true rfl) ⟨Nat.le_refl _, Nat.le_refl _⟩ (fun D3 hcp => ?_)
  obtain ⟨cp, fr2⟩ := hcp
  have e1 : D3 hh 1 = ((D hh 1 + 1) % 5) := by rw [fr2 hh 1 (by omega)]; rw [jup_nk (by omega), jup_eq]
  have e2 : D3 hh 2 = 4 := by rw [fr2 hh 2 (by omega)]; rw [jup_eq]; omega
  refine x_aload_n dX3_add_48 rfl ?_
  refine x_dup dX3_add_49 (fun _ h => by cases h) ?_
  refine gf_RX3_22 dX3_add_50 rfl (by assumption) ?_
  rw [e2]
  refine x_iconst dX3_add_53 ?_
  refine x_iadd dX3_add_54 ?_
  refine pf_RX3_22 dX3_add_55 rfl (by assumption) ?_
  refine x_return dX3_add_58 rfl ⟨Nat.le_refl _, Nat.le_refl _⟩ ?_
  refine ⟨rfl, rfl, ⟨?_, ?_, ?_, ?_, ?_, fun k x y => ?_⟩, fun x k hx => ?_⟩
  · rw [jup_nk (by omega)]; rw [e1]; omega
  · rw [jup_nk (by omega)]; rw [e1]; omega
  · rw [jup_eq]; unfold sRecN; omega
  · unfold sRecN; omega
  · unfold sRecN; omega
  · rw [jup_nk (show (1 : Int) ≠ 2 by omega), e1]
    by_cases q : k = 4
    · rw [q]
      have e : sRecH 5 hs r 4 = r := by unfold sRecH; first | rw [if_pos rfl, if_neg (by omega)] | rw [if_neg hn, if_pos rfl]
      rw [e]
      exact ⟨(hR.copy hI (jCp.pre cp (fun z w p q => by rw [jup_ne (by omega), jup_ne (by omega)]))).frame hI (fun z w p q => by rw [jup_ne (by omega)]), hI⟩
    · have hk := h6 (k + 1) (by omega) (by unfold sRecN at y; omega)
      have e : sRecH 5 hs r k = hs (k + 1) := by unfold sRecH; first | rw [if_pos rfl, if_pos (by unfold sRecN at y; omega)] | rw [if_neg hn, if_neg q]
      rw [e]
      refine ⟨?_, hk.2⟩
      have hk1 := hk.1
      rw [show (D hh 1 + (k + 1)) % 5 = ((D hh 1 + 1) % 5 + k) % 5 by omega] at hk1
      exact hk1.frame hk.2 (fun z w p q => by unfold sRecN at y; rw [jup_ne (by omega), fr2 z w (by omega)]; rw [jup_ne (by omega), jup_ne (by omega)])
  · rw [jup_ne (by omega), fr2 x k (by omega)]; rw [jup_ne (by omega), jup_ne (by omega)]
theorem kX3_add_part {G : JG} {S : JS} {D : JD} {d : Nat} {hh b t n : Int} {r : Int → Int} {hs : Int → Int → Int} (hH : jHs S hh) (hF : jFl S b) (hdis : b + 41 ≤ hh ∨ hh + 207 ≤ b) (hR : jFR D b r) (hI : rIn t r) (hi : jHi D hh t n hs) (hn : ¬ n = 5) : JM G yX3_add cX3_add 3 none (d + 3) (0, 0) S D [.inr (.inr (some hh)), .inr (.inr (some b))] (jnP S (fun D2 => jHi D2 hh t (sRecN n) (sRecH n hs r) ∧ ∀ x k : Int, (x < hh ∨ hh + 207 ≤ x) → D2 x k = D x k)) := by
  obtain ⟨h1, h2, h3, h4, h5, h6⟩ := hi
  have fk := hH.1
  have fl := (hH.2.2.2.2 ((D hh 1 + n) % 5) (by omega) (by omega)).2
  show JX _ _ _ _ _ _ _ _ _ _ _ [_, _, _] _ _
  refine x_aload_n dX3_add_0 rfl ?_
  refine gf_RX3_22 dX3_add_1 rfl (by assumption) ?_
  rw [h3]
  refine x_iconst dX3_add_4 ?_
  refine x_ic_ne (tgt := 30) dX3_add_5 (by decide) ⟨by omega, by omega⟩ ⟨by omega, by omega⟩ (fun hb5 => ?_) (fun h => (h (by omega)).elim)
  refine x_aload_n dX3_add_30 rfl ?_
  refine x_aload_n dX3_add_31 rfl ?_
  refine gf_RX3_22 dX3_add_32 rfl (by assumption) ?_
  rw [h3]
  refine c_RX3_25d dX3_add_35 rfl (kX3_stateAt (o := (D hh 1)) hH (by rfl) (by omega) (by omega) (by omega) (by omega)) (by assumption) (Nat.le_of_ble_eq_true rfl) (Nat.le_of_ble_eq_true rfl) ⟨Nat.le_refl _, Nat.le_refl _⟩ ?_
  refine x_astore_n dX3_add_38 (by decide) ?_
  show JX _ _ _ _ _ _ _ _ _ _ _ [_, _, _] _ _
  refine x_aload_n dX3_add_39 rfl ?_
  refine x_ifnull (tgt := 58) dX3_add_40 (by decide) (fun h => by cases h) (fun hb40 => ?_)
  refine x_aload_n dX3_add_43 rfl ?_
  refine x_aload_n dX3_add_44 rfl ?_
  refine c_RX3_29p dX3_add_45 rfl (kX2_copyTo hF fl (by omega)) hF.1 (Nat.le_of_ble_eq_true rfl) (Nat.le_of_ble_eq_true rfl) ⟨Nat.le_refl _, Nat.le_refl _⟩ (fun D3 hcp => ?_)
  obtain ⟨cp, fr2⟩ := hcp
  have e1 : D3 hh 1 = (D hh 1) := by rw [fr2 hh 1 (by omega)]
  have e2 : D3 hh 2 = n := by rw [fr2 hh 2 (by omega)]; exact h3
  refine x_aload_n dX3_add_48 rfl ?_
  refine x_dup dX3_add_49 (fun _ h => by cases h) ?_
  refine gf_RX3_22 dX3_add_50 rfl (by assumption) ?_
  rw [e2]
  refine x_iconst dX3_add_53 ?_
  refine x_iadd dX3_add_54 ?_
  refine pf_RX3_22 dX3_add_55 rfl (by assumption) ?_
  refine x_return dX3_add_58 rfl ⟨Nat.le_refl _, Nat.le_refl _⟩ ?_
  refine ⟨rfl, rfl, ⟨?_, ?_, ?_, ?_, ?_, fun k x y => ?_⟩, fun x k hx => ?_⟩
  · rw [jup_nk (by omega)]; rw [e1]; omega
  · rw [jup_nk (by omega)]; rw [e1]; omega
  · rw [jup_eq]; unfold sRecN; omega
  · unfold sRecN; omega
  · unfold sRecN; omega
  · rw [jup_nk (show (1 : Int) ≠ 2 by omega), e1]
    by_cases q : k = n
    · rw [q]
      have e : sRecH n hs r n = r := by unfold sRecH; first | rw [if_pos rfl, if_neg (by omega)] | rw [if_neg hn, if_pos rfl]
      rw [e]
      exact ⟨(hR.copy hI (jCp.pre cp (fun z w p q => rfl))).frame hI (fun z w p q => by rw [jup_ne (by omega)]), hI⟩
    · have hk := h6 k (by omega) (by unfold sRecN at y; omega)
      have e : sRecH n hs r k = hs k := by unfold sRecH; first | rw [if_pos rfl, if_pos (by unfold sRecN at y; omega)] | rw [if_neg hn, if_neg q]
      rw [e]
      refine ⟨?_, hk.2⟩
      have hk1 := hk.1
      rw [show (D hh 1 + k) % 5 = (D hh 1 + k) % 5 by omega] at hk1
      exact hk1.frame hk.2 (fun z w p q => by unfold sRecN at y; rw [jup_ne (by omega), fr2 z w (by omega)])
  · rw [jup_ne (by omega), fr2 x k (by omega)]
theorem kX3_add {G : JG} {S : JS} {D : JD} {d : Nat} {hh b t n : Int} {r : Int → Int} {hs : Int → Int → Int} (hH : jHs S hh) (hF : jFl S b) (hdis : b + 41 ≤ hh ∨ hh + 207 ≤ b) (hR : jFR D b r) (hI : rIn t r) (hi : jHi D hh t n hs) : JM G yX3_add cX3_add 3 none (d + 3) (0, 0) S D [.inr (.inr (some hh)), .inr (.inr (some b))] (jnP S (fun D2 => jHi D2 hh t (sRecN n) (sRecH n hs r) ∧ ∀ x k : Int, (x < hh ∨ hh + 207 ≤ x) → D2 x k = D x k)) := by
  by_cases hn : n = 5
  · exact kX3_add_full hH hF hdis hR hI hi hn
  · exact kX3_add_part hH hF hdis hR hI hi hn
