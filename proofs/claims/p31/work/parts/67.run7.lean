/-! THE CLASS: runOrders -/
theorem jSt.fr {D D2 : JD} {X t cz n q : Int} {hs : Int → Int → Int} {r : Int → Int} (h : jSt D X t cz n hs r q) (e : ∀ x k : Int, X ≤ x → x < X + 249 → D2 x k = D x k) : jSt D2 X t cz n hs r q :=
  ⟨by rw [e X 5 (by omega) (by omega)]; exact h.1, by rw [e X 4 (by omega) (by omega)]; exact h.2.1, h.2.2.1.frame h.2.2.2.1 (fun x k p q => e x k (by omega) (by omega)), h.2.2.2.1, h.2.2.2.2.frame (fun x k p q => e x k (by omega) (by omega))⟩
theorem jHi.re {D D2 : JD} {hh t t2 n : Int} {hs : Int → Int → Int} (h : jHi D2 hh t2 n hs) (h0 : jHi D hh t n hs) : jHi D2 hh t n hs := by
  obtain ⟨a1, a2, a3, a4, a5, a6⟩ := h
  exact ⟨a1, a2, a3, a4, a5, fun k x y => ⟨(a6 k x y).1, (h0.2.2.2.2.2 k x y).2⟩⟩
/-- an order's end: its time is one more at the most -/
theorem jCl.some1 {D D2 : JD} {X t t2 n q : Int} {hs : Int → Int → Int} {r r2 : Int → Int} {z : Zr} {w : JV} (h0 : jSt D X t 1 n hs r q) (h : jCl D X t2 1 n hs r q z w D2) (hz : z.2.1 = some r2) (hI : rIn (t + 1) r2) : jSt D2 X (t + 1) 1 n hs (sAll r2) q := by
  obtain ⟨-, -, h3⟩ := h
  rw [hz] at h3
  have h4 : jSt D2 X t2 1 (rcN 1 n) (rcH 1 n hs r) (sAll r2) q := h3
  unfold rcN rcH at h4
  rw [if_neg (by decide), if_neg (by decide)] at h4
  exact ⟨h4.1, h4.2.1, h4.2.2.1, hI.all, (h4.2.2.2.2.re h0.2.2.2.2).mono (by omega)⟩
theorem jCl.none1 {D D2 : JD} {X t t2 n q : Int} {hs : Int → Int → Int} {r : Int → Int} {z : Zr} {w : JV} (h0 : jSt D X t 1 n hs r q) (h : jCl D X t2 1 n hs r q z w D2) (hz : z.2.1 = none) : jSt D2 X t 1 n hs r (if z.2.2 = 0 then q else z.2.2) := by
  obtain ⟨-, -, h3⟩ := h
  rw [hz] at h3
  have h4 : jSt D2 X t2 1 n hs r (if z.2.2 = 0 then q else z.2.2) := h3
  exact ⟨h4.1, h4.2.1, h4.2.2.1, h0.2.2.2.1, h4.2.2.2.2.re h0.2.2.2.2⟩
theorem carry7_0 {G : JG} {S : JS} {D : JD} {d : Nat} {X t n q : Int} {hs : Int → Int → Int} {r : Int → Int} {o : oOrd} (hB : jBL S X) (hst : jSt D X t 1 n hs r q) (ht : t + 100 ≤ 60000) (v3 : D (X + 250) 3 = o.1) (v4 : D (X + 250) 4 = o.2.1) (v5 : o.1 ≠ 2 → D (X + 250) 5 = o.2.2) (oq : oOk o) (hK : o.1 = 0) : JM G yX7_carryOut cX7_carryOut 1 (some .int) (d + 6) (0, 0) S D [.inr (.inr (some X))] (jrP S (jCl D X (t + 100) 1 n hs r q (zOrd o r))) := by
  have hB0 := hB
  obtain ⟨bk, bf, bh, bs, bo, hF, hH, sk, sl, ok, ot, tk, tl⟩ := id hB
  have fk := hF.1
  have hhk := hH.1
  obtain ⟨s5, s4, hR, hI, hi⟩ := id hst
  have b1 := hI.1
  obtain ⟨k0, k1, k2, k3, k4, k5⟩ := oq
  have rcx : i32 o.2.1 := ⟨by omega, by omega⟩
  have rgx : i32 o.2.2 := ⟨by omega, by omega⟩
  unfold zOrd
  rw [if_pos hK]
  show JX _ _ _ _ _ _ _ _ _ _ _ [_] _ _
  refine x_aload_n dX7_carryOut_0 rfl ?_
  refine gf_RX7_30 dX7_carryOut_1 rfl (by assumption) ?_
  rw [bo]
  refine gf_RX7_321 dX7_carryOut_4 rfl (by assumption) ?_
  rw [v3, hK]
  refine x_switch (tgt := 48) dX7_carryOut_7 ⟨by omega, by omega⟩ (by decide) (by decide) ?_
  refine x_aload_n dX7_carryOut_48 rfl ?_
  refine x_aload_n dX7_carryOut_49 rfl ?_
  refine gf_RX7_30 dX7_carryOut_50 rfl (by assumption) ?_
  rw [bo]
  refine gf_RX7_324 dX7_carryOut_53 rfl (by assumption) ?_
  rw [v4]
  refine x_aload_n dX7_carryOut_56 rfl ?_
  refine gf_RX7_30 dX7_carryOut_57 rfl (by assumption) ?_
  rw [bo]
  refine gf_RX7_327 dX7_carryOut_60 rfl (by assumption) ?_
  rw [v5 (by omega)]
  refine c_RX7_330p dX7_carryOut_63 rfl (kX7_sluice hB0 (Or.inr rfl) hst ht rcx rgx) (by assumption) (Nat.le_of_ble_eq_true rfl) (Nat.le_of_ble_eq_true rfl) ⟨Nat.le_refl _, Nat.le_refl _⟩ (fun w9 D9 h9 => ?_)
  obtain ⟨hw, hx⟩ := id h9
  subst hw
  exact x_ireturn dX7_carryOut_66 rfl rfl ⟨Nat.le_refl _, Nat.le_refl _⟩ ⟨rfl, _, rfl, h9⟩
theorem carry7_1 {G : JG} {S : JS} {D : JD} {d : Nat} {X t n q : Int} {hs : Int → Int → Int} {r : Int → Int} {o : oOrd} (hB : jBL S X) (hst : jSt D X t 1 n hs r q) (ht : t + 100 ≤ 60000) (v3 : D (X + 250) 3 = o.1) (v4 : D (X + 250) 4 = o.2.1) (v5 : o.1 ≠ 2 → D (X + 250) 5 = o.2.2) (oq : oOk o) (hK : o.1 = 1) : JM G yX7_carryOut cX7_carryOut 1 (some .int) (d + 6) (0, 0) S D [.inr (.inr (some X))] (jrP S (jCl D X (t + 100) 1 n hs r q (zOrd o r))) := by
  have hB0 := hB
  obtain ⟨bk, bf, bh, bs, bo, hF, hH, sk, sl, ok, ot, tk, tl⟩ := id hB
  have fk := hF.1
  have hhk := hH.1
  obtain ⟨s5, s4, hR, hI, hi⟩ := id hst
  have b1 := hI.1
  obtain ⟨k0, k1, k2, k3, k4, k5⟩ := oq
  have rcx : i32 o.2.1 := ⟨by omega, by omega⟩
  have rgx : i32 o.2.2 := ⟨by omega, by omega⟩
  unfold zOrd
  rw [if_neg (show ¬ o.1 = 0 by omega)]
  rw [if_pos hK]
  show JX _ _ _ _ _ _ _ _ _ _ _ [_] _ _
  refine x_aload_n dX7_carryOut_0 rfl ?_
  refine gf_RX7_30 dX7_carryOut_1 rfl (by assumption) ?_
  rw [bo]
  refine gf_RX7_321 dX7_carryOut_4 rfl (by assumption) ?_
  rw [v3, hK]
  refine x_switch (tgt := 67) dX7_carryOut_7 ⟨by omega, by omega⟩ (by decide) (by decide) ?_
  refine x_aload_n dX7_carryOut_67 rfl ?_
  refine x_aload_n dX7_carryOut_68 rfl ?_
  refine gf_RX7_30 dX7_carryOut_69 rfl (by assumption) ?_
  rw [bo]
  refine gf_RX7_324 dX7_carryOut_72 rfl (by assumption) ?_
  rw [v4]
  refine x_aload_n dX7_carryOut_75 rfl ?_
  refine gf_RX7_30 dX7_carryOut_76 rfl (by assumption) ?_
  rw [bo]
  refine gf_RX7_327 dX7_carryOut_79 rfl (by assumption) ?_
  rw [v5 (by omega)]
  refine c_RX7_334p dX7_carryOut_82 rfl (kX7_open hB0 (Or.inr rfl) hst ht rcx rgx) (by assumption) (Nat.le_of_ble_eq_true rfl) (Nat.le_of_ble_eq_true rfl) ⟨Nat.le_refl _, Nat.le_refl _⟩ (fun w9 D9 h9 => ?_)
  obtain ⟨hw, hx⟩ := id h9
  subst hw
  exact x_ireturn dX7_carryOut_85 rfl rfl ⟨Nat.le_refl _, Nat.le_refl _⟩ ⟨rfl, _, rfl, h9⟩
theorem carry7_2 {G : JG} {S : JS} {D : JD} {d : Nat} {X t n q : Int} {hs : Int → Int → Int} {r : Int → Int} {o : oOrd} (hB : jBL S X) (hst : jSt D X t 1 n hs r q) (ht : t + 100 ≤ 60000) (v3 : D (X + 250) 3 = o.1) (v4 : D (X + 250) 4 = o.2.1) (v5 : o.1 ≠ 2 → D (X + 250) 5 = o.2.2) (oq : oOk o) (hK : o.1 = 2) : JM G yX7_carryOut cX7_carryOut 1 (some .int) (d + 6) (0, 0) S D [.inr (.inr (some X))] (jrP S (jCl D X (t + 100) 1 n hs r q (zOrd o r))) := by
  have hB0 := hB
  obtain ⟨bk, bf, bh, bs, bo, hF, hH, sk, sl, ok, ot, tk, tl⟩ := id hB
  have fk := hF.1
  have hhk := hH.1
  obtain ⟨s5, s4, hR, hI, hi⟩ := id hst
  have b1 := hI.1
  obtain ⟨k0, k1, k2, k3, k4, k5⟩ := oq
  have rcx : i32 o.2.1 := ⟨by omega, by omega⟩
  have rgx : i32 o.2.2 := ⟨by omega, by omega⟩
  unfold zOrd
  rw [if_neg (show ¬ o.1 = 0 by omega)]
  rw [if_neg (show ¬ o.1 = 1 by omega)]
  rw [if_pos hK]
  show JX _ _ _ _ _ _ _ _ _ _ _ [_] _ _
  refine x_aload_n dX7_carryOut_0 rfl ?_
  refine gf_RX7_30 dX7_carryOut_1 rfl (by assumption) ?_
  rw [bo]
  refine gf_RX7_321 dX7_carryOut_4 rfl (by assumption) ?_
  rw [v3, hK]
  refine x_switch (tgt := 86) dX7_carryOut_7 ⟨by omega, by omega⟩ (by decide) (by decide) ?_
  refine x_aload_n dX7_carryOut_86 rfl ?_
  refine x_aload_n dX7_carryOut_87 rfl ?_
  refine gf_RX7_30 dX7_carryOut_88 rfl (by assumption) ?_
  rw [bo]
  refine gf_RX7_324 dX7_carryOut_91 rfl (by assumption) ?_
  rw [v4]
  refine c_RX7_337p dX7_carryOut_94 rfl (kX7_close hB0 (Or.inr rfl) hst ht rcx) (by assumption) (Nat.le_of_ble_eq_true rfl) (Nat.le_of_ble_eq_true rfl) ⟨Nat.le_refl _, Nat.le_refl _⟩ (fun w9 D9 h9 => ?_)
  obtain ⟨hw, hx⟩ := id h9
  subst hw
  exact x_ireturn dX7_carryOut_97 rfl rfl ⟨Nat.le_refl _, Nat.le_refl _⟩ ⟨rfl, _, rfl, h9⟩
theorem carry7_3 {G : JG} {S : JS} {D : JD} {d : Nat} {X t n q : Int} {hs : Int → Int → Int} {r : Int → Int} {o : oOrd} (hB : jBL S X) (hst : jSt D X t 1 n hs r q) (ht : t + 100 ≤ 60000) (v3 : D (X + 250) 3 = o.1) (v4 : D (X + 250) 4 = o.2.1) (v5 : o.1 ≠ 2 → D (X + 250) 5 = o.2.2) (oq : oOk o) (hK : o.1 = 3) : JM G yX7_carryOut cX7_carryOut 1 (some .int) (d + 6) (0, 0) S D [.inr (.inr (some X))] (jrP S (jCl D X (t + 100) 1 n hs r q (zOrd o r))) := by
  have hB0 := hB
  obtain ⟨bk, bf, bh, bs, bo, hF, hH, sk, sl, ok, ot, tk, tl⟩ := id hB
  have fk := hF.1
  have hhk := hH.1
  obtain ⟨s5, s4, hR, hI, hi⟩ := id hst
  have b1 := hI.1
  obtain ⟨k0, k1, k2, k3, k4, k5⟩ := oq
  have rcx : i32 o.2.1 := ⟨by omega, by omega⟩
  have rgx : i32 o.2.2 := ⟨by omega, by omega⟩
  unfold zOrd
  rw [if_neg (show ¬ o.1 = 0 by omega)]
  rw [if_neg (show ¬ o.1 = 1 by omega)]
  rw [if_neg (show ¬ o.1 = 2 by omega)]
  rw [if_pos hK]
  show JX _ _ _ _ _ _ _ _ _ _ _ [_] _ _
  refine x_aload_n dX7_carryOut_0 rfl ?_
  refine gf_RX7_30 dX7_carryOut_1 rfl (by assumption) ?_
  rw [bo]
  refine gf_RX7_321 dX7_carryOut_4 rfl (by assumption) ?_
  rw [v3, hK]
  refine x_switch (tgt := 98) dX7_carryOut_7 ⟨by omega, by omega⟩ (by decide) (by decide) ?_
  refine x_aload_n dX7_carryOut_98 rfl ?_
  refine x_aload_n dX7_carryOut_99 rfl ?_
  refine gf_RX7_30 dX7_carryOut_100 rfl (by assumption) ?_
  rw [bo]
  refine gf_RX7_324 dX7_carryOut_103 rfl (by assumption) ?_
  rw [v4]
  refine x_aload_n dX7_carryOut_106 rfl ?_
  refine gf_RX7_30 dX7_carryOut_107 rfl (by assumption) ?_
  rw [bo]
  refine gf_RX7_327 dX7_carryOut_110 rfl (by assumption) ?_
  rw [v5 (by omega)]
  refine c_RX7_340p dX7_carryOut_113 rfl (kX7_enter hB0 (Or.inr rfl) hst ht rcx rgx) (by assumption) (Nat.le_of_ble_eq_true rfl) (Nat.le_of_ble_eq_true rfl) ⟨Nat.le_refl _, Nat.le_refl _⟩ (fun w9 D9 h9 => ?_)
  obtain ⟨hw, hx⟩ := id h9
  subst hw
  exact x_ireturn dX7_carryOut_116 rfl rfl ⟨Nat.le_refl _, Nat.le_refl _⟩ ⟨rfl, _, rfl, h9⟩
theorem carry7_4 {G : JG} {S : JS} {D : JD} {d : Nat} {X t n q : Int} {hs : Int → Int → Int} {r : Int → Int} {o : oOrd} (hB : jBL S X) (hst : jSt D X t 1 n hs r q) (ht : t + 100 ≤ 60000) (v3 : D (X + 250) 3 = o.1) (v4 : D (X + 250) 4 = o.2.1) (v5 : o.1 ≠ 2 → D (X + 250) 5 = o.2.2) (oq : oOk o) (hK : o.1 = 4) : JM G yX7_carryOut cX7_carryOut 1 (some .int) (d + 6) (0, 0) S D [.inr (.inr (some X))] (jrP S (jCl D X (t + 100) 1 n hs r q (zOrd o r))) := by
  have hB0 := hB
  obtain ⟨bk, bf, bh, bs, bo, hF, hH, sk, sl, ok, ot, tk, tl⟩ := id hB
  have fk := hF.1
  have hhk := hH.1
  obtain ⟨s5, s4, hR, hI, hi⟩ := id hst
  have b1 := hI.1
  obtain ⟨k0, k1, k2, k3, k4, k5⟩ := oq
  have rcx : i32 o.2.1 := ⟨by omega, by omega⟩
  have rgx : i32 o.2.2 := ⟨by omega, by omega⟩
  unfold zOrd
  rw [if_neg (show ¬ o.1 = 0 by omega)]
  rw [if_neg (show ¬ o.1 = 1 by omega)]
  rw [if_neg (show ¬ o.1 = 2 by omega)]
  rw [if_neg (show ¬ o.1 = 3 by omega)]
  rw [if_pos hK]
  show JX _ _ _ _ _ _ _ _ _ _ _ [_] _ _
  refine x_aload_n dX7_carryOut_0 rfl ?_
  refine gf_RX7_30 dX7_carryOut_1 rfl (by assumption) ?_
  rw [bo]
  refine gf_RX7_321 dX7_carryOut_4 rfl (by assumption) ?_
  rw [v3, hK]
  refine x_switch (tgt := 117) dX7_carryOut_7 ⟨by omega, by omega⟩ (by decide) (by decide) ?_
  refine x_aload_n dX7_carryOut_117 rfl ?_
  refine x_aload_n dX7_carryOut_118 rfl ?_
  refine gf_RX7_30 dX7_carryOut_119 rfl (by assumption) ?_
  rw [bo]
  refine gf_RX7_324 dX7_carryOut_122 rfl (by assumption) ?_
  rw [v4]
  refine x_aload_n dX7_carryOut_125 rfl ?_
  refine gf_RX7_30 dX7_carryOut_126 rfl (by assumption) ?_
  rw [bo]
  refine gf_RX7_327 dX7_carryOut_129 rfl (by assumption) ?_
  rw [v5 (by omega)]
  refine c_RX7_343p dX7_carryOut_132 rfl (kX7_leave hB0 (Or.inr rfl) hst ht rcx rgx) (by assumption) (Nat.le_of_ble_eq_true rfl) (Nat.le_of_ble_eq_true rfl) ⟨Nat.le_refl _, Nat.le_refl _⟩ (fun w9 D9 h9 => ?_)
  obtain ⟨hw, hx⟩ := id h9
  subst hw
  exact x_ireturn dX7_carryOut_135 rfl rfl ⟨Nat.le_refl _, Nat.le_refl _⟩ ⟨rfl, _, rfl, h9⟩
theorem carry7_5 {G : JG} {S : JS} {D : JD} {d : Nat} {X t n q : Int} {hs : Int → Int → Int} {r : Int → Int} {o : oOrd} (hB : jBL S X) (hst : jSt D X t 1 n hs r q) (ht : t + 100 ≤ 60000) (v3 : D (X + 250) 3 = o.1) (v4 : D (X + 250) 4 = o.2.1) (v5 : o.1 ≠ 2 → D (X + 250) 5 = o.2.2) (oq : oOk o) (hK : o.1 = 5) : JM G yX7_carryOut cX7_carryOut 1 (some .int) (d + 6) (0, 0) S D [.inr (.inr (some X))] (jrP S (jCl D X (t + 100) 1 n hs r q (zOrd o r))) := by
  have hB0 := hB
  obtain ⟨bk, bf, bh, bs, bo, hF, hH, sk, sl, ok, ot, tk, tl⟩ := id hB
  have fk := hF.1
  have hhk := hH.1
  obtain ⟨s5, s4, hR, hI, hi⟩ := id hst
  have b1 := hI.1
  obtain ⟨k0, k1, k2, k3, k4, k5⟩ := oq
  have rcx : i32 o.2.1 := ⟨by omega, by omega⟩
  have rgx : i32 o.2.2 := ⟨by omega, by omega⟩
  unfold zOrd
  rw [if_neg (show ¬ o.1 = 0 by omega)]
  rw [if_neg (show ¬ o.1 = 1 by omega)]
  rw [if_neg (show ¬ o.1 = 2 by omega)]
  rw [if_neg (show ¬ o.1 = 3 by omega)]
  rw [if_neg (show ¬ o.1 = 4 by omega)]
  rw [if_pos hK]
  show JX _ _ _ _ _ _ _ _ _ _ _ [_] _ _
  refine x_aload_n dX7_carryOut_0 rfl ?_
  refine gf_RX7_30 dX7_carryOut_1 rfl (by assumption) ?_
  rw [bo]
  refine gf_RX7_321 dX7_carryOut_4 rfl (by assumption) ?_
  rw [v3, hK]
  refine x_switch (tgt := 136) dX7_carryOut_7 ⟨by omega, by omega⟩ (by decide) (by decide) ?_
  refine x_aload_n dX7_carryOut_136 rfl ?_
  refine x_aload_n dX7_carryOut_137 rfl ?_
  refine gf_RX7_30 dX7_carryOut_138 rfl (by assumption) ?_
  rw [bo]
  refine gf_RX7_324 dX7_carryOut_141 rfl (by assumption) ?_
  rw [v4]
  refine x_aload_n dX7_carryOut_144 rfl ?_
  refine gf_RX7_30 dX7_carryOut_145 rfl (by assumption) ?_
  rw [bo]
  refine gf_RX7_327 dX7_carryOut_148 rfl (by assumption) ?_
  rw [v5 (by omega)]
  refine c_RX7_346p dX7_carryOut_151 rfl (kX7_load hB0 (Or.inr rfl) hst ht rcx rgx) (by assumption) (Nat.le_of_ble_eq_true rfl) (Nat.le_of_ble_eq_true rfl) ⟨Nat.le_refl _, Nat.le_refl _⟩ (fun w9 D9 h9 => ?_)
  obtain ⟨hw, hx⟩ := id h9
  subst hw
  exact x_ireturn dX7_carryOut_154 rfl rfl ⟨Nat.le_refl _, Nat.le_refl _⟩ ⟨rfl, _, rfl, h9⟩
theorem carry7_6 {G : JG} {S : JS} {D : JD} {d : Nat} {X t n q : Int} {hs : Int → Int → Int} {r : Int → Int} {o : oOrd} (hB : jBL S X) (hst : jSt D X t 1 n hs r q) (ht : t + 100 ≤ 60000) (v3 : D (X + 250) 3 = o.1) (v4 : D (X + 250) 4 = o.2.1) (v5 : o.1 ≠ 2 → D (X + 250) 5 = o.2.2) (oq : oOk o) (hK : o.1 = 6) : JM G yX7_carryOut cX7_carryOut 1 (some .int) (d + 6) (0, 0) S D [.inr (.inr (some X))] (jrP S (jCl D X (t + 100) 1 n hs r q (zOrd o r))) := by
  have hB0 := hB
  obtain ⟨bk, bf, bh, bs, bo, hF, hH, sk, sl, ok, ot, tk, tl⟩ := id hB
  have fk := hF.1
  have hhk := hH.1
  obtain ⟨s5, s4, hR, hI, hi⟩ := id hst
  have b1 := hI.1
  obtain ⟨k0, k1, k2, k3, k4, k5⟩ := oq
  have rcx : i32 o.2.1 := ⟨by omega, by omega⟩
  have rgx : i32 o.2.2 := ⟨by omega, by omega⟩
  unfold zOrd
  rw [if_neg (show ¬ o.1 = 0 by omega)]
  rw [if_neg (show ¬ o.1 = 1 by omega)]
  rw [if_neg (show ¬ o.1 = 2 by omega)]
  rw [if_neg (show ¬ o.1 = 3 by omega)]
  rw [if_neg (show ¬ o.1 = 4 by omega)]
  rw [if_neg (show ¬ o.1 = 5 by omega)]
  show JX _ _ _ _ _ _ _ _ _ _ _ [_] _ _
  refine x_aload_n dX7_carryOut_0 rfl ?_
  refine gf_RX7_30 dX7_carryOut_1 rfl (by assumption) ?_
  rw [bo]
  refine gf_RX7_321 dX7_carryOut_4 rfl (by assumption) ?_
  rw [v3, hK]
  refine x_switch (tgt := 155) dX7_carryOut_7 ⟨by omega, by omega⟩ (by decide) (by decide) ?_
  refine x_aload_n dX7_carryOut_155 rfl ?_
  refine x_aload_n dX7_carryOut_156 rfl ?_
  refine gf_RX7_30 dX7_carryOut_157 rfl (by assumption) ?_
  rw [bo]
  refine gf_RX7_324 dX7_carryOut_160 rfl (by assumption) ?_
  rw [v4]
  refine x_aload_n dX7_carryOut_163 rfl ?_
  refine gf_RX7_30 dX7_carryOut_164 rfl (by assumption) ?_
  rw [bo]
  refine gf_RX7_327 dX7_carryOut_167 rfl (by assumption) ?_
  rw [v5 (by omega)]
  refine c_RX7_349p dX7_carryOut_170 rfl (kX7_pump hB0 (Or.inr rfl) hst ht rcx rgx) (by assumption) (Nat.le_of_ble_eq_true rfl) (Nat.le_of_ble_eq_true rfl) ⟨Nat.le_refl _, Nat.le_refl _⟩ (fun w9 D9 h9 => ?_)
  obtain ⟨hw, hx⟩ := id h9
  subst hw
  exact x_ireturn dX7_carryOut_173 rfl rfl ⟨Nat.le_refl _, Nat.le_refl _⟩ ⟨rfl, _, rfl, h9⟩
theorem kX7_carryOut {G : JG} {S : JS} {D : JD} {d : Nat} {X t n q : Int} {hs : Int → Int → Int} {r : Int → Int} {o : oOrd} (hB : jBL S X) (hst : jSt D X t 1 n hs r q) (ht : t + 100 ≤ 60000) (v3 : D (X + 250) 3 = o.1) (v4 : D (X + 250) 4 = o.2.1) (v5 : o.1 ≠ 2 → D (X + 250) 5 = o.2.2) (oq : oOk o) : JM G yX7_carryOut cX7_carryOut 1 (some .int) (d + 6) (0, 0) S D [.inr (.inr (some X))] (jrP S (jCl D X (t + 100) 1 n hs r q (zOrd o r))) := by
  have k01 := oq.1
  have k02 := oq.2.1
  by_cases h0 : o.1 = 0
  · exact carry7_0 hB hst ht v3 v4 v5 oq h0
  by_cases h1 : o.1 = 1
  · exact carry7_1 hB hst ht v3 v4 v5 oq h1
  by_cases h2 : o.1 = 2
  · exact carry7_2 hB hst ht v3 v4 v5 oq h2
  by_cases h3 : o.1 = 3
  · exact carry7_3 hB hst ht v3 v4 v5 oq h3
  by_cases h4 : o.1 = 4
  · exact carry7_4 hB hst ht v3 v4 v5 oq h4
  by_cases h5 : o.1 = 5
  · exact carry7_5 hB hst ht v3 v4 v5 oq h5
  exact carry7_6 hB hst ht v3 v4 v5 oq (by omega)
theorem run7_loop {G : JG} {S : JS} {d : Nat} {X N n w : Int} {hs : Int → Int → Int} {f : Int → Int} {Q : Option JV → JS → JD → Prop} (hB : jBL S X) (n0 : 0 ≤ n) (n1 : n ≤ 60) (fr : ∀ z : Int, 0 ≤ f z ∧ f z ≤ 65535) : ∀ (l : List oOrd) (i p t q : Int) (r : Int → Int) (D : JD), 0 ≤ i → i + l.length ≤ 50 → t + l.length + 100 ≤ 60000 → jSt D X t 1 N hs r q → D (X + 250) 1 = n → D (X + 250 + 1) = f → D (X + 250) 2 = p → 0 ≤ p → p ≤ n → oSeq f n l p →
    (∀ D2 : JD, jSt D2 X (t + l.length) 1 N hs (oRun l r).2.1 (if (oRun l r).2.2 = 0 then q else (oRun l r).2.2) → (∀ x k : Int, (x < X ∨ X + 249 ≤ x) → ¬ (x = X + 250 ∧ 2 ≤ k ∧ k ≤ 5) → D2 x k = D x k) → JX G yX7_runOrders cX7_runOrders 3 (some .int) (d + 10) (0, 0) (0, 0) S D2 75 [some (.inr (.inr (some X))), some (.inl w), some (.inl (i + (oRun l r).1))] [] Q) → JX G yX7_runOrders cX7_runOrders 3 (some .int) (d + 10) (0, 0) (0, 0) S D 36 [some (.inr (.inr (some X))), some (.inl w), some (.inl i)] [] Q := by
  intro l
  induction l with
  | nil =>
    intro i p t q r D i0 i1 ht hst hn hf hp p0 p1 hs0 K
    have jO := hB.ord
    obtain ⟨bk, bf, bh, bs, bo, hF, hH, sk, sl, ok, ot, tk, tl⟩ := id hB
    have hnp : n ≤ p := hs0
    have K2 := K D (by show jSt D X (t + (0 : Int)) 1 N hs r (if (0 : Int) = 0 then q else 0); rw [Int.add_zero, if_pos rfl]; exact hst) (fun _ _ _ _ => rfl)
    rw [show i + (oRun [] r).1 = i by show i + 0 = i; omega] at K2
    rw [List.length_nil] at i1
    refine x_iload_n dX7_runOrders_36 rfl ?_
    refine x_bipush dX7_runOrders_37 (by decide) ?_
    refine x_ic_ge (tgt := 75) dX7_runOrders_39 (by decide) ⟨by omega, by omega⟩ ⟨by omega, by omega⟩ (fun h => absurd h (by omega)) (fun hb39 => ?_)
    refine x_aload_n dX7_runOrders_42 rfl ?_
    refine gf_RX7_30 dX7_runOrders_43 rfl (by assumption) ?_
    rw [bo]
    refine c_RX7_236d dX7_runOrders_46 rfl (kX4_hasMore jO hn hf n0 n1 fr hp p0 p1) (by assumption) (Nat.le_of_ble_eq_true rfl) (Nat.le_of_ble_eq_true rfl) ⟨Nat.le_refl _, Nat.le_refl _⟩ ?_
    refine x_if_eq (tgt := 75) dX7_runOrders_49 (by decide) ⟨by split <;> omega, by split <;> omega⟩ (fun hb49 => ?_) (fun h => (h (by omega)).elim)
    exact K2
  | cons o l ih =>
    intro i p t q r D i0 i1 ht hst hn hf hp p0 p1 hs0 K
    have jO := hB.ord
    obtain ⟨bk, bf, bh, bs, bo, hF, hH, sk, sl, ok, ot, tk, tl⟩ := id hB
    have hl : (((o :: l).length : Nat) : Int) = l.length + 1 := by rw [List.length_cons]; omega
    obtain ⟨hpn, q2, hro, hs2⟩ := hs0
    have qb := oRo_b p1 hro
    rw [hl] at i1 ht
    have hI := hst.2.2.2.1
    have hg := zOrd_good (o := o) hI (by omega)
    unfold zGood at hg
    cases hz : (zOrd o r).2.1 with
    | none =>
      rw [hz] at hg
      have er := oRun_none (l := l) hz
      refine x_iload_n dX7_runOrders_36 rfl ?_
      refine x_bipush dX7_runOrders_37 (by decide) ?_
      refine x_ic_ge (tgt := 75) dX7_runOrders_39 (by decide) ⟨by omega, by omega⟩ ⟨by omega, by omega⟩ (fun h => absurd h (by omega)) (fun hb39 => ?_)
      refine x_aload_n dX7_runOrders_42 rfl ?_
      refine gf_RX7_30 dX7_runOrders_43 rfl (by assumption) ?_
      rw [bo]
      refine c_RX7_236d dX7_runOrders_46 rfl (kX4_hasMore jO hn hf n0 n1 fr hp p0 p1) (by assumption) (Nat.le_of_ble_eq_true rfl) (Nat.le_of_ble_eq_true rfl) ⟨Nat.le_refl _, Nat.le_refl _⟩ ?_
      refine x_if_eq (tgt := 75) dX7_runOrders_49 (by decide) ⟨by split <;> omega, by split <;> omega⟩ (fun h => absurd h (by omega)) (fun hb49 => ?_)
      refine x_aload_n dX7_runOrders_52 rfl ?_
      refine gf_RX7_30 dX7_runOrders_53 rfl (by assumption) ?_
      rw [bo]
      refine c_RX7_239p dX7_runOrders_56 rfl (kX4_readOrder jO hn hf n0 n1 fr hp p0 p1) (by assumption) (Nat.le_of_ble_eq_true rfl) (Nat.le_of_ble_eq_true rfl) ⟨Nat.le_refl _, Nat.le_refl _⟩ (fun w1 D1 h1 => ?_)
      obtain ⟨r1, r2, r3⟩ := h1
      rw [hro] at r1 r3
      obtain ⟨hw1, g3, g4, g5⟩ := r3
      subst hw1
      have st1 : jSt D1 X t 1 N hs r q := hst.fr (fun x k a b => r2 x k (fun z => by have := z.1; omega))
      refine x_if_eq (tgt := 75) dX7_runOrders_59 (by decide) ⟨by omega, by omega⟩ (fun h => absurd h (by omega)) (fun hb59 => ?_)
      refine x_aload_n dX7_runOrders_62 rfl ?_
      refine c_RX7_242p dX7_runOrders_63 rfl (kX7_carryOut hB st1 (by omega) g3 g4 g5 qb.2.2) (by assumption) (Nat.le_of_ble_eq_true rfl) (Nat.le_of_ble_eq_true rfl) ⟨Nat.le_refl _, Nat.le_refl _⟩ (fun w9 D9 h9 => ?_)
      have st2 := jCl.none1 st1 h9 hz
      obtain ⟨hw9, x9, -⟩ := h9
      subst hw9
      have K2 := K D9 (by rw [er, hl]; exact st2.mono (by omega)) (fun x k a b => by rw [x9 x k a, r2 x k b])
      rw [show i + (oRun (o :: l) r).1 = i by rw [er]; show i + 0 = i; omega] at K2
      refine x_if_lt (tgt := 75) dX7_runOrders_66 (by decide) ⟨by omega, by omega⟩ (fun hb66 => ?_) (fun h => (h (by omega)).elim)
      exact K2
    | some rr =>
      rw [hz] at hg
      have er := oRun_some (l := l) hz
      refine x_iload_n dX7_runOrders_36 rfl ?_
      refine x_bipush dX7_runOrders_37 (by decide) ?_
      refine x_ic_ge (tgt := 75) dX7_runOrders_39 (by decide) ⟨by omega, by omega⟩ ⟨by omega, by omega⟩ (fun h => absurd h (by omega)) (fun hb39 => ?_)
      refine x_aload_n dX7_runOrders_42 rfl ?_
      refine gf_RX7_30 dX7_runOrders_43 rfl (by assumption) ?_
      rw [bo]
      refine c_RX7_236d dX7_runOrders_46 rfl (kX4_hasMore jO hn hf n0 n1 fr hp p0 p1) (by assumption) (Nat.le_of_ble_eq_true rfl) (Nat.le_of_ble_eq_true rfl) ⟨Nat.le_refl _, Nat.le_refl _⟩ ?_
      refine x_if_eq (tgt := 75) dX7_runOrders_49 (by decide) ⟨by split <;> omega, by split <;> omega⟩ (fun h => absurd h (by omega)) (fun hb49 => ?_)
      refine x_aload_n dX7_runOrders_52 rfl ?_
      refine gf_RX7_30 dX7_runOrders_53 rfl (by assumption) ?_
      rw [bo]
      refine c_RX7_239p dX7_runOrders_56 rfl (kX4_readOrder jO hn hf n0 n1 fr hp p0 p1) (by assumption) (Nat.le_of_ble_eq_true rfl) (Nat.le_of_ble_eq_true rfl) ⟨Nat.le_refl _, Nat.le_refl _⟩ (fun w1 D1 h1 => ?_)
      obtain ⟨r1, r2, r3⟩ := h1
      rw [hro] at r1 r3
      obtain ⟨hw1, g3, g4, g5⟩ := r3
      subst hw1
      have st1 : jSt D1 X t 1 N hs r q := hst.fr (fun x k a b => r2 x k (fun z => by have := z.1; omega))
      refine x_if_eq (tgt := 75) dX7_runOrders_59 (by decide) ⟨by omega, by omega⟩ (fun h => absurd h (by omega)) (fun hb59 => ?_)
      refine x_aload_n dX7_runOrders_62 rfl ?_
      refine c_RX7_242p dX7_runOrders_63 rfl (kX7_carryOut hB st1 (by omega) g3 g4 g5 qb.2.2) (by assumption) (Nat.le_of_ble_eq_true rfl) (Nat.le_of_ble_eq_true rfl) ⟨Nat.le_refl _, Nat.le_refl _⟩ (fun w9 D9 h9 => ?_)
      have st2 := jCl.some1 st1 h9 hz hg.2.2.2
      obtain ⟨hw9, x9, -⟩ := h9
      subst hw9
      refine x_if_lt (tgt := 75) dX7_runOrders_66 (by decide) ⟨by omega, by omega⟩ (fun h => absurd h (by omega)) (fun hb66 => ?_)
      refine x_iinc dX7_runOrders_69 rfl (by decide) ?_
      show JX _ _ _ _ _ _ _ _ _ _ _ [_, _, _] _ _
      refine x_goto (tgt := 36) dX7_runOrders_72 (by decide) ?_
      refine ih (i + 1) q2 (t + 1) q (sAll rr) D9 (by omega) (by omega) (by omega) st2 (by rw [x9 _ _ (by omega), r2 _ _ (by omega)]; exact hn) (by rw [← hf]; funext z; rw [x9 _ z (by omega), r2 _ z (by omega)]) (by rw [x9 _ _ (by omega)]; exact r1) (by omega) qb.2.1 hs2 (fun D2 a1 a2 => ?_)
      have K2 := K D2 (by
        rw [er, hl]
        show jSt D2 X _ 1 N hs (oRun l (sAll rr)).2.1 (if (oRun l (sAll rr)).2.2 = 0 then q else (oRun l (sAll rr)).2.2)
        exact a1.mono (by omega)) (fun x k a b => by rw [a2 x k a b, x9 x k a, r2 x k b])
      rw [show i + (oRun (o :: l) r).1 = i + 1 + (oRun l (sAll rr)).1 by rw [er]; show i + ((oRun l (sAll rr)).1 + 1) = _; omega] at K2
      exact K2
/-- the end of runOrders -/
def jRc (D : JD) (X t2 n : Int) (hs : Int → Int → Int) (r : Int → Int) (q : Int) (res : List oOrd ⊕ Int) (w : JV) (D2 : JD) : Prop :=
  (∀ x k : Int, (x < X ∨ X + 249 ≤ x) → ¬ (x = X + 250 ∧ 2 ≤ k ∧ k ≤ 5) → D2 x k = D x k) ∧ (match res with
    | .inl l => w = .inl (oRun l r).1 ∧ jSt D2 X t2 0 (sRecN n) (sRecH n hs r) (sAll (oRun l r).2.1) (if (oRun l r).2.2 = 0 then q else (oRun l r).2.2)
    | .inr e => w = .inl (-100 - e) ∧ jSt D2 X t2 0 n hs r q)
theorem kX7_runOrders_f {G : JG} {S : JS} {D : JD} {d : Nat} {X t N q n : Int} {hs : Int → Int → Int} {r f : Int → Int} {e : Int} (hB : jBL S X) (hst : jSt D X t 0 N hs r q) (ht : t + 200 ≤ 60000) (hn : D (X + 250) 1 = n) (hf : D (X + 250 + 1) = f) (n0 : 0 ≤ n) (n1 : n ≤ 60) (fr : ∀ z : Int, 0 ≤ f z ∧ f z ≤ 65535) (hx : oAll f n 61 0 = .inr e) : JM G yX7_runOrders cX7_runOrders 3 (some .int) (d + 10) (0, 0) S D [.inr (.inr (some X))] (jrP S (jRc D X (t + 100) N hs r q (oAll f n 61 0))) := by
  have eb := oAll_fault 61 0 e (by omega) n0 hx
  have hB0 := hB
  obtain ⟨bk, bf, bh, bs, bo, hF, hH, sk, sl, ok, ot, tk, tl⟩ := id hB
  have fk := hF.1
  have hhk := hH.1
  obtain ⟨s5, s4, hR, hI, hi⟩ := id hst
  have b1 := hI.1
  rw [hx]
  show JX _ _ _ _ _ _ _ _ _ _ _ [_, _, _] _ _
  refine x_aload_n dX7_runOrders_0 rfl ?_
  refine gf_RX7_30 dX7_runOrders_1 rfl (by assumption) ?_
  rw [bo]
  refine c_RX7_230p dX7_runOrders_4 rfl (kX4_findFault hB0.ord hn hf n0 n1 fr) (by assumption) (Nat.le_of_ble_eq_true rfl) (Nat.le_of_ble_eq_true rfl) ⟨Nat.le_refl _, Nat.le_refl _⟩ (fun w1 D1 h1 => ?_)
  obtain ⟨z1, z2⟩ := h1
  rw [hx] at z1
  replace z1 : w1 = .inl e := z1
  subst z1
  refine x_istore_n dX7_runOrders_7 (by decide) ?_
  show JX _ _ _ _ _ _ _ _ _ _ _ [_, _, _] _ _
  refine x_iload_n dX7_runOrders_8 rfl ?_
  refine x_iconst dX7_runOrders_9 ?_
  refine x_ic_eq (tgt := 18) dX7_runOrders_10 (by decide) ⟨by omega, by omega⟩ ⟨by omega, by omega⟩ (fun h => absurd h (by omega)) (fun hb10 => ?_)
  refine x_bipush dX7_runOrders_13 (by decide) ?_
  refine x_iload_n dX7_runOrders_15 rfl ?_
  refine x_isub dX7_runOrders_16 ?_
  exact x_ireturn dX7_runOrders_17 rfl rfl ⟨Nat.le_refl _, Nat.le_refl _⟩ ⟨rfl, _, rfl, fun x k a b => z2 x k b, rfl, (hst.fr (fun x k a b => z2 x k (fun z => by have := z.1; omega))).mono (by omega)⟩
theorem kX7_runOrders_y {G : JG} {S : JS} {D : JD} {d : Nat} {X t N q n : Int} {hs : Int → Int → Int} {r f : Int → Int} {l : List oOrd} (hB : jBL S X) (hst : jSt D X t 0 N hs r q) (ht : t + 200 ≤ 60000) (hn : D (X + 250) 1 = n) (hf : D (X + 250 + 1) = f) (n0 : 0 ≤ n) (n1 : n ≤ 60) (fr : ∀ z : Int, 0 ≤ f z ∧ f z ≤ 65535) (hx : oAll f n 61 0 = .inl l) : JM G yX7_runOrders cX7_runOrders 3 (some .int) (d + 10) (0, 0) S D [.inr (.inr (some X))] (jrP S (jRc D X (t + 100) N hs r q (oAll f n 61 0))) := by
  have sq := oAll_seq 61 0 l (by omega) n0 hx
  have sl9 := oSeq_len l 0 n0 sq
  have hB0 := hB
  obtain ⟨bk, bf, bh, bs, bo, hF, hH, sk, sl, ok, ot, tk, tl⟩ := id hB
  have fk := hF.1
  have hhk := hH.1
  obtain ⟨s5, s4, hR, hI, hi⟩ := id hst
  have b1 := hI.1
  have rb := oRun_b l t r hI (by omega)
  rw [hx]
  show JX _ _ _ _ _ _ _ _ _ _ _ [_, _, _] _ _
  refine x_aload_n dX7_runOrders_0 rfl ?_
  refine gf_RX7_30 dX7_runOrders_1 rfl (by assumption) ?_
  rw [bo]
  refine c_RX7_230p dX7_runOrders_4 rfl (kX4_findFault hB0.ord hn hf n0 n1 fr) (by assumption) (Nat.le_of_ble_eq_true rfl) (Nat.le_of_ble_eq_true rfl) ⟨Nat.le_refl _, Nat.le_refl _⟩ (fun w1 D1 h1 => ?_)
  obtain ⟨z1, z2⟩ := h1
  rw [hx] at z1
  replace z1 : w1 = .inl (-1) := z1
  subst z1
  have st1 : jSt D1 X t 0 N hs r q := hst.fr (fun x k a b => z2 x k (fun z => by have := z.1; omega))
  refine x_istore_n dX7_runOrders_7 (by decide) ?_
  show JX _ _ _ _ _ _ _ _ _ _ _ [_, _, _] _ _
  refine x_iload_n dX7_runOrders_8 rfl ?_
  refine x_iconst dX7_runOrders_9 ?_
  refine x_ic_eq (tgt := 18) dX7_runOrders_10 (by decide) ⟨by omega, by omega⟩ ⟨by omega, by omega⟩ (fun hb10 => ?_) (fun h => (h (by omega)).elim)
  refine x_aload_n dX7_runOrders_18 rfl ?_
  refine c_RX7_51p dX7_runOrders_19 rfl (kX7_record hB0 (Or.inl rfl) st1) (by assumption) (Nat.le_of_ble_eq_true rfl) (Nat.le_of_ble_eq_true rfl) ⟨Nat.le_refl _, Nat.le_refl _⟩ (fun D2 h2 => ?_)
  obtain ⟨st2, x2⟩ := h2
  unfold rcN rcH at st2
  rw [if_pos rfl, if_pos rfl] at st2
  refine x_aload_n dX7_runOrders_22 rfl ?_
  refine x_iconst dX7_runOrders_23 ?_
  refine pf_RX7_38 dX7_runOrders_24 rfl (Or.inr rfl) (by assumption) ?_
  refine x_aload_n dX7_runOrders_27 rfl ?_
  refine gf_RX7_30 dX7_runOrders_28 rfl (by assumption) ?_
  rw [bo]
  refine c_RX7_233d dX7_runOrders_31 rfl (kX4_rewind hB0.ord) (by assumption) (Nat.le_of_ble_eq_true rfl) (Nat.le_of_ble_eq_true rfl) ⟨Nat.le_refl _, Nat.le_refl _⟩ ?_
  have st3 : jSt (jup (jup D2 X 5 1) (X + 250) 2 0) X t 1 (sRecN N) (sRecH N hs r) r q := by
    have b1 := st2.2.2.2.1.1
    exact ⟨by rw [jup_ne (by omega), jup_eq], by rw [jup_ne (by omega), jup_nk (by omega)]; exact st2.2.1, st2.2.2.1.frame st2.2.2.2.1 (fun x k a b => by rw [jup_ne (by omega), jup_ne (by omega)]), st2.2.2.2.1, st2.2.2.2.2.frame (fun x k a b => by rw [jup_ne (by omega), jup_ne (by omega)])⟩
  have f3 : ∀ x k : Int, (x < X ∨ X + 249 ≤ x) → ¬ (x = X + 250 ∧ 2 ≤ k ∧ k ≤ 5) → jup (jup D2 X 5 1) (X + 250) 2 0 x k = D x k := fun x k a b => by
    have e1 : jup (jup D2 X 5 1) (X + 250) 2 0 x k = jup D2 X 5 1 x k := by
      by_cases u : x = X + 250
      · rw [u, jup_nk (fun z => b ⟨u, by omega, by omega⟩)]
      · exact jup_ne u
    rw [e1, jup_ne (by omega), x2 x k (by omega), z2 x k b]
  have p3 : jup (jup D2 X 5 1) (X + 250) 2 0 (X + 250) 2 = 0 := jup_eq
  generalize jup (jup D2 X 5 1) (X + 250) 2 0 = D3 at *
  refine x_iconst dX7_runOrders_34 ?_
  refine x_istore_n dX7_runOrders_35 (by decide) ?_
  show JX _ _ _ _ _ _ _ _ _ _ _ [_, _, _] _ _
  refine run7_loop hB0 n0 n1 fr l 0 0 t q r D3 (by omega) (by omega) (by omega) st3 (by rw [f3 _ _ (by omega) (by omega)]; exact hn) (by rw [← hf]; funext z; rw [f3 _ z (by omega) (by omega)]) p3 (by omega) n0 sq (fun D4 st4 f4 => ?_)
  refine x_aload_n dX7_runOrders_75 rfl ?_
  refine x_iconst dX7_runOrders_76 ?_
  refine pf_RX7_38 dX7_runOrders_77 rfl (Or.inl rfl) (by assumption) ?_
  have st5 : jSt (jup D4 X 5 0) X (t + l.length) 0 (sRecN N) (sRecH N hs r) (oRun l r).2.1 (if (oRun l r).2.2 = 0 then q else (oRun l r).2.2) := ⟨jup_eq, by rw [jup_nk (by omega)]; exact st4.2.1, st4.2.2.1.frame st4.2.2.2.1 (fun x k a b => jup_ne (by omega)), st4.2.2.2.1, st4.2.2.2.2.frame (fun x k a b => jup_ne (by omega))⟩
  refine x_aload_n dX7_runOrders_80 rfl ?_
  refine gf_RX7_10 dX7_runOrders_81 rfl (by assumption) ?_
  rw [bf]
  refine c_RX7_58p dX7_runOrders_84 rfl (kX2_settle hF st5.2.2.1 st5.2.2.2.1 (by omega)) (by assumption) (Nat.le_of_ble_eq_true rfl) (Nat.le_of_ble_eq_true rfl) ⟨Nat.le_refl _, Nat.le_refl _⟩ (fun D6 h6 => ?_)
  obtain ⟨s1, s2⟩ := h6
  rw [show (0 : Int) + (oRun l r).1 = (oRun l r).1 by omega]
  refine x_iload_n dX7_runOrders_87 rfl ?_
  exact x_ireturn dX7_runOrders_88 rfl rfl ⟨Nat.le_refl _, Nat.le_refl _⟩ ⟨rfl, _, rfl, fun x k a b => by rw [s2 x k (by omega), jup_ne (by omega), f4 x k a b, f3 x k a b], rfl, by rw [s2 X 5 (by omega)]; exact st5.1, by rw [s2 X 4 (by omega)]; exact st5.2.1, s1, (st5.2.2.2.1.all).mono (by omega), (st5.2.2.2.2.frame (fun x k a b => s2 x k (by omega))).mono (by omega)⟩
theorem kX7_runOrders {G : JG} {S : JS} {D : JD} {d : Nat} {X t N q n : Int} {hs : Int → Int → Int} {r f : Int → Int} (hB : jBL S X) (hst : jSt D X t 0 N hs r q) (ht : t + 200 ≤ 60000) (hn : D (X + 250) 1 = n) (hf : D (X + 250 + 1) = f) (n0 : 0 ≤ n) (n1 : n ≤ 60) (fr : ∀ z : Int, 0 ≤ f z ∧ f z ≤ 65535) : JM G yX7_runOrders cX7_runOrders 3 (some .int) (d + 10) (0, 0) S D [.inr (.inr (some X))] (jrP S (jRc D X (t + 100) N hs r q (oAll f n 61 0))) := by
  cases hx : oAll f n 61 0 with
  | inl l => rw [← hx]; exact kX7_runOrders_y hB hst ht hn hf n0 n1 fr hx
  | inr e => rw [← hx]; exact kX7_runOrders_f hB hst ht hn hf n0 n1 fr hx
