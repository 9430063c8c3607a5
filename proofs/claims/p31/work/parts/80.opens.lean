/-! THE LAW'S OBJECT: a step of it; sluices, opens -/
theorem pSt.frame {S : JS} {D D2 : JD} {X t t2 n n2 q q2 : Int} {hs hs2 : Int → Int → Int} {r r2 : Int → Int} (hP : pSt S D X t n hs r q) (h : jSt D2 X t2 0 n2 hs2 r2 q2) (hx : jXo D D2 X) : pSt S D2 X t2 n2 hs2 r2 q2 := by
  obtain ⟨hB, -, x0, x1, x2⟩ := hP
  refine ⟨hB, h, ?_, ?_, fun z => ?_⟩
  · rw [hx _ _ (by omega)]; exact x0
  · rw [hx _ _ (by omega)]; exact x1
  · rw [hx _ _ (by omega)]; exact x2 z
theorem pSt.some {S : JS} {D D2 : JD} {X t t2 n q v e : Int} {hs : Int → Int → Int} {r r2 : Int → Int} {z : Zr} {w : JV} (hP : pSt S D X t n hs r q) (hz : z = (v, some r2, e)) (h : jCl D X t2 0 n hs r q z w D2) : w = .inl v ∧ pSt S D2 X t2 (sRecN n) (sRecH n hs r) (sAll r2) q := by
  subst hz
  obtain ⟨h1, hx, h2⟩ := h
  unfold rcN rcH at h2
  rw [if_pos rfl, if_pos rfl] at h2
  exact ⟨h1, hP.frame h2 hx⟩
theorem pSt.err {S : JS} {D D2 : JD} {X t t2 n q v : Int} {hs : Int → Int → Int} {r : Int → Int} {z : Zr} {w : JV} (hP : pSt S D X t n hs r q) (hz : z = (v, none, 0)) (h : jCl D X t2 0 n hs r q z w D2) : w = .inl v ∧ pSt S D2 X t2 n hs r q := by
  subst hz
  obtain ⟨h1, hx, h2⟩ := h
  have h3 : jSt D2 X t2 0 n hs r (if (0 : Int) = 0 then q else 0) := h2
  rw [if_pos rfl] at h3
  exact ⟨h1, hP.frame h3 hx⟩
theorem pSt.ref {S : JS} {D D2 : JD} {X t t2 n q v e : Int} {hs : Int → Int → Int} {r : Int → Int} {z : Zr} {w : JV} (hP : pSt S D X t n hs r q) (hz : z = (v, none, e)) (he : e ≠ 0) (h : jCl D X t2 0 n hs r q z w D2) : w = .inl v ∧ pSt S D2 X t2 n hs r e := by
  subst hz
  obtain ⟨h1, hx, h2⟩ := h
  have h3 : jSt D2 X t2 0 n hs r (if e = 0 then q else e) := h2
  rw [if_neg he] at h3
  exact ⟨h1, hP.frame h3 hx⟩
/-- what a check of the law leaves -/
def pOut (S : JS) (D : JD) (X t e m1 m2 : Int) : Prop := ∃ (n : Int) (hs : Int → Int → Int) (r : Int → Int) (q : Int), pSt S D X t n hs r q ∧ pIn e r ∧ r 1 = m1 ∧ r 2 = m2
abbrev jOK (S : JS) (X t e m1 m2 : Int) : Option JV → JS → JD → Prop := jrP S (fun w D2 => w = .inl 1 ∧ pOut S D2 X t e m1 m2)
theorem zSize_b {v M : Int} (h0 : -M ≤ v) (h1 : v ≤ M) : 0 ≤ zSize v ∧ zSize v ≤ M ∧ (v ≤ 2 ∧ -v ≤ 2 → zSize v ≤ 2) ∧ (¬ (v ≤ 2 ∧ -v ≤ 2) → 2 < zSize v) := by
  unfold zSize
  split <;> refine ⟨by omega, by omega, fun h => by omega, fun h => by omega⟩
theorem sluices_o {G : JG} {S : JS} {D : JD} {d : Nat} {X t n q : Int} {hs : Int → Int → Int} {r : Int → Int} {e : Int} {c g : Int} (hP : pSt S D X t n hs r q) (hE : pIn e r) (t0 : 0 ≤ t) (ht2 : t + 100 ≤ 60000) (hc : 0 ≤ c ∧ c < r 1) (hg : g = 0 ∨ g = 1) (ho : 0 ≤ r (29 + 11 * c)) : JM G yL_sluices cL_sluices 9 (some .boolean) (d + 7) (0, 0) S D [.inr (.inr (some X)), .inl c, .inl g] (jOK S X (t + 100) e (r 1) (r 2)) := by
  have ht : t ≤ 60000 := by omega
  have hB := hP.1
  have bk := hB.1
  have hI := hP.2.1.2.2.2.1
  have b1 := hI.1
  obtain ⟨c4, ln0, ln1, lf0, lf1, gt, s0, s1, s2, s3, sg, v0, v1, w0, w1, f0, f1, k0, k1, kk, a0, a1, g0, g1⟩ := hI.cB ht hc
  have hi : 0 ≤ c + g ∧ c + g < r 0 := hI.reach hc.1 hc.2 hg
  have ar := hI.ar hi.1 hi.2
  have mr := (hI.maxw ht).2.1 (c + g) hi.1 hi.2
  have pb := hI.pB ht (p := c + g) (Or.inl hi)
  have e3 : jsum (fun c => if 0 ≤ r (29 + 11 * c) then (1 : Int) else 0) (r 1).toNat = jsum (wO r) (r 1).toNat := rfl
  have n6 := jsum_nonneg (f := wO r) (n := (r 1).toNat) (fun k x y => by unfold wO; split <;> omega)
  have n7 := jsum_le (f := wO r) (M := 1) (n := (r 1).toNat) (fun k x y => by unfold wO; split <;> omega)
  have sb : i32 (sShd r c g - r (23 + 11 * c)) := by unfold sShd; constructor <;> omega
  have hz : zSluice c g r = (-100000003, none, 1) := by unfold zSluice; rw [if_pos ⟨hc, hg⟩, if_neg (by omega)]
  have jw := open_some hc ho
  show JX _ _ _ _ _ _ _ _ _ _ _ [_, _, _, _, _, _, _, _, _] _ _
  refine x_aload_n dL_sluices_0 rfl ?_
  refine x_iload_n dL_sluices_1 rfl ?_
  refine x_iload_n dL_sluices_2 rfl ?_
  refine c_RL_49d dL_sluices_3 rfl (tf_y hP ht hc hg) bk (Nat.le_of_ble_eq_true rfl) (Nat.le_of_ble_eq_true rfl) ⟨Nat.le_refl _, Nat.le_refl _⟩ ?_
  refine x_istore_n dL_sluices_6 (by decide) ?_
  show JX _ _ _ _ _ _ _ _ _ _ _ [_, _, _, _, _, _, _, _, _] _ _
  refine x_aload_n dL_sluices_7 rfl ?_
  refine x_iload_n dL_sluices_8 rfl ?_
  refine x_iconst dL_sluices_9 ?_
  refine c_RL_15d dL_sluices_10 rfl (tc_1 hP ht hc) bk (Nat.le_of_ble_eq_true rfl) (Nat.le_of_ble_eq_true rfl) ⟨Nat.le_refl _, Nat.le_refl _⟩ ?_
  refine x_istore dL_sluices_13 (by decide) ?_
  show JX _ _ _ _ _ _ _ _ _ _ _ [_, _, _, _, _, _, _, _, _] _ _
  refine x_aload_n dL_sluices_15 rfl ?_
  refine x_iload_n dL_sluices_16 rfl ?_
  refine x_iload_n dL_sluices_17 rfl ?_
  refine x_iadd dL_sluices_18 ?_
  refine x_iconst dL_sluices_19 ?_
  refine c_RL_9d dL_sluices_20 rfl (tr_1 hP ht hi) bk (Nat.le_of_ble_eq_true rfl) (Nat.le_of_ble_eq_true rfl) ⟨Nat.le_refl _, Nat.le_refl _⟩ ?_
  refine x_istore dL_sluices_23 (by decide) ?_
  show JX _ _ _ _ _ _ _ _ _ _ _ [_, _, _, _, _, _, _, _, _] _ _
  refine x_aload_n dL_sluices_25 rfl ?_
  refine x_iload_n dL_sluices_26 rfl ?_
  refine x_bipush dL_sluices_27 (by decide) ?_
  refine c_RL_15d dL_sluices_29 rfl (tc_8 hP ht hc) bk (Nat.le_of_ble_eq_true rfl) (Nat.le_of_ble_eq_true rfl) ⟨Nat.le_refl _, Nat.le_refl _⟩ ?_
  refine x_if_lt (tgt := 39) dL_sluices_32 (by decide) ⟨by omega, by omega⟩ (fun h => absurd h (by omega)) (fun hb32 => ?_)
  refine x_iconst dL_sluices_35 ?_
  refine x_goto (tgt := 40) dL_sluices_36 (by decide) ?_
  refine x_istore dL_sluices_40 (by decide) ?_
  show JX _ _ _ _ _ _ _ _ _ _ _ [_, _, _, _, _, _, _, _, _] _ _
  refine x_aload_n dL_sluices_42 rfl ?_
  refine x_iconst dL_sluices_43 ?_
  refine c_RL_18d dL_sluices_44 rfl (tn_3 hP ht) bk (Nat.le_of_ble_eq_true rfl) (Nat.le_of_ble_eq_true rfl) ⟨Nat.le_refl _, Nat.le_refl _⟩ ?_
  rw [e3]
  refine x_if_ne (tgt := 54) dL_sluices_47 (by decide) ⟨by omega, by omega⟩ (fun hb47 => ?_) (fun h => (h (by omega)).elim)
  refine x_iconst dL_sluices_54 ?_
  refine x_istore dL_sluices_55 (by decide) ?_
  show JX _ _ _ _ _ _ _ _ _ _ _ [_, _, _, _, _, _, _, _, _] _ _
  refine x_aload_n dL_sluices_57 rfl ?_
  refine x_iload_n dL_sluices_58 rfl ?_
  refine x_iload_n dL_sluices_59 rfl ?_
  refine c_RL_56p dL_sluices_60 rfl (kX7_sluice hP.1 (Or.inl rfl) hP.2.1 ht2 ⟨by omega, by omega⟩ ⟨by omega, by omega⟩) bk (Nat.le_of_ble_eq_true rfl) (Nat.le_of_ble_eq_true rfl) ⟨Nat.le_refl _, Nat.le_refl _⟩ (fun w2 D2 h2 => ?_)
  obtain ⟨rfl, hP2⟩ := hP.ref hz (by decide) h2
  refine x_istore dL_sluices_63 (by decide) ?_
  show JX _ _ _ _ _ _ _ _ _ _ _ [_, _, _, _, _, _, _, _, _] _ _
  refine x_iload dL_sluices_65 rfl ?_
  refine x_if_eq (tgt := 104) dL_sluices_67 (by decide) ⟨by omega, by omega⟩ (fun h => absurd h (by omega)) (fun hb67 => ?_)
  refine x_iload dL_sluices_70 rfl ?_
  refine x_ldc (e := -100000003) dL_sluices_72 ct_RL_59 (by decide) ?_
  refine x_ic_ne (tgt := 102) dL_sluices_74 (by decide) ⟨by omega, by omega⟩ ⟨by omega, by omega⟩ (fun h => absurd h (by omega)) (fun hb74 => ?_)
  refine x_aload_n dL_sluices_77 rfl ?_
  refine x_bipush dL_sluices_78 (by decide) ?_
  refine c_RL_18d dL_sluices_80 rfl (tn_7 hP2 ht2) bk (Nat.le_of_ble_eq_true rfl) (Nat.le_of_ble_eq_true rfl) ⟨Nat.le_refl _, Nat.le_refl _⟩ ?_
  refine x_iconst dL_sluices_83 ?_
  refine x_ic_ne (tgt := 102) dL_sluices_84 (by decide) ⟨by omega, by omega⟩ ⟨by omega, by omega⟩ (fun h => absurd h (by omega)) (fun hb84 => ?_)
  refine x_aload_n dL_sluices_87 rfl ?_
  refine x_iload_n dL_sluices_88 rfl ?_
  refine x_iconst dL_sluices_89 ?_
  refine c_RL_15d dL_sluices_90 rfl (tc_1 hP2 ht2 hc) bk (Nat.le_of_ble_eq_true rfl) (Nat.le_of_ble_eq_true rfl) ⟨Nat.le_refl _, Nat.le_refl _⟩ ?_
  refine x_iload dL_sluices_93 rfl ?_
  refine x_ic_ne (tgt := 102) dL_sluices_95 (by decide) ⟨by omega, by omega⟩ ⟨by omega, by omega⟩ (fun h => absurd h (by omega)) (fun hb95 => ?_)
  refine x_iconst dL_sluices_98 ?_
  refine x_goto (tgt := 103) dL_sluices_99 (by decide) ?_
  exact x_ireturn dL_sluices_103 rfl (jbool (by first | exact Or.inl rfl | exact Or.inr rfl)).1 ⟨Nat.le_refl _, Nat.le_refl _⟩ ⟨rfl, _, rfl, rfl, _, _, _, _, hP2, hE, rfl, rfl⟩
theorem sluices_n {G : JG} {S : JS} {D : JD} {d : Nat} {X t n q : Int} {hs : Int → Int → Int} {r : Int → Int} {e : Int} {c g : Int} (hP : pSt S D X t n hs r q) (hE : pIn e r) (t0 : 0 ≤ t) (ht2 : t + 100 ≤ 60000) (hc : 0 ≤ c ∧ c < r 1) (hg : g = 0 ∨ g = 1) (ho : ¬ 0 ≤ r (29 + 11 * c)) (ha : ¬ jsum (wO r) (r 1).toNat = 0) : JM G yL_sluices cL_sluices 9 (some .boolean) (d + 7) (0, 0) S D [.inr (.inr (some X)), .inl c, .inl g] (jOK S X (t + 100) e (r 1) (r 2)) := by
  have ht : t ≤ 60000 := by omega
  have hB := hP.1
  have bk := hB.1
  have hI := hP.2.1.2.2.2.1
  have b1 := hI.1
  obtain ⟨c4, ln0, ln1, lf0, lf1, gt, s0, s1, s2, s3, sg, v0, v1, w0, w1, f0, f1, k0, k1, kk, a0, a1, g0, g1⟩ := hI.cB ht hc
  have hi : 0 ≤ c + g ∧ c + g < r 0 := hI.reach hc.1 hc.2 hg
  have ar := hI.ar hi.1 hi.2
  have mr := (hI.maxw ht).2.1 (c + g) hi.1 hi.2
  have pb := hI.pB ht (p := c + g) (Or.inl hi)
  have e3 : jsum (fun c => if 0 ≤ r (29 + 11 * c) then (1 : Int) else 0) (r 1).toNat = jsum (wO r) (r 1).toNat := rfl
  have n6 := jsum_nonneg (f := wO r) (n := (r 1).toNat) (fun k x y => by unfold wO; split <;> omega)
  have n7 := jsum_le (f := wO r) (M := 1) (n := (r 1).toNat) (fun k x y => by unfold wO; split <;> omega)
  have sb : i32 (sShd r c g - r (23 + 11 * c)) := by unfold sShd; constructor <;> omega
  have hz : zSluice c g r = (sLv (sAll (sSh r c g)) (100 + c), some (sSh r c g), 0) := by unfold zSluice; rw [if_pos ⟨hc, hg⟩, if_pos (by omega)]
  have hI3 := hI.share hc.1 hc.2 hg
  have hE3 := (hE.share hI hc hg).all hI3
  have k1a : sAll (sSh r c g) 1 = r 1 := by rw [hI3.keep (by omega)]; unfold sSh; rw [rup_ne (by omega), rup_ne (by omega)]
  have k2a : sAll (sSh r c g) 2 = r 2 := by rw [hI3.keep (by omega)]; unfold sSh; rw [rup_ne (by omega), rup_ne (by omega)]
  have k0a : sAll (sSh r c g) 0 = r 0 := by rw [hI3.keep (by omega)]; unfold sSh; rw [rup_ne (by omega), rup_ne (by omega)]
  have hc2 : 0 ≤ c ∧ c < sAll (sSh r c g) 1 := ⟨hc.1, by omega⟩
  have hi2 : 0 ≤ c + g ∧ c + g < sAll (sSh r c g) 0 := ⟨hi.1, by omega⟩
  show JX _ _ _ _ _ _ _ _ _ _ _ [_, _, _, _, _, _, _, _, _] _ _
  refine x_aload_n dL_sluices_0 rfl ?_
  refine x_iload_n dL_sluices_1 rfl ?_
  refine x_iload_n dL_sluices_2 rfl ?_
  refine c_RL_49d dL_sluices_3 rfl (tf_y hP ht hc hg) bk (Nat.le_of_ble_eq_true rfl) (Nat.le_of_ble_eq_true rfl) ⟨Nat.le_refl _, Nat.le_refl _⟩ ?_
  refine x_istore_n dL_sluices_6 (by decide) ?_
  show JX _ _ _ _ _ _ _ _ _ _ _ [_, _, _, _, _, _, _, _, _] _ _
  refine x_aload_n dL_sluices_7 rfl ?_
  refine x_iload_n dL_sluices_8 rfl ?_
  refine x_iconst dL_sluices_9 ?_
  refine c_RL_15d dL_sluices_10 rfl (tc_1 hP ht hc) bk (Nat.le_of_ble_eq_true rfl) (Nat.le_of_ble_eq_true rfl) ⟨Nat.le_refl _, Nat.le_refl _⟩ ?_
  refine x_istore dL_sluices_13 (by decide) ?_
  show JX _ _ _ _ _ _ _ _ _ _ _ [_, _, _, _, _, _, _, _, _] _ _
  refine x_aload_n dL_sluices_15 rfl ?_
  refine x_iload_n dL_sluices_16 rfl ?_
  refine x_iload_n dL_sluices_17 rfl ?_
  refine x_iadd dL_sluices_18 ?_
  refine x_iconst dL_sluices_19 ?_
  refine c_RL_9d dL_sluices_20 rfl (tr_1 hP ht hi) bk (Nat.le_of_ble_eq_true rfl) (Nat.le_of_ble_eq_true rfl) ⟨Nat.le_refl _, Nat.le_refl _⟩ ?_
  refine x_istore dL_sluices_23 (by decide) ?_
  show JX _ _ _ _ _ _ _ _ _ _ _ [_, _, _, _, _, _, _, _, _] _ _
  refine x_aload_n dL_sluices_25 rfl ?_
  refine x_iload_n dL_sluices_26 rfl ?_
  refine x_bipush dL_sluices_27 (by decide) ?_
  refine c_RL_15d dL_sluices_29 rfl (tc_8 hP ht hc) bk (Nat.le_of_ble_eq_true rfl) (Nat.le_of_ble_eq_true rfl) ⟨Nat.le_refl _, Nat.le_refl _⟩ ?_
  refine x_if_lt (tgt := 39) dL_sluices_32 (by decide) ⟨by omega, by omega⟩ (fun hb32 => ?_) (fun h => (h (by omega)).elim)
  refine x_iconst dL_sluices_39 ?_
  refine x_istore dL_sluices_40 (by decide) ?_
  show JX _ _ _ _ _ _ _ _ _ _ _ [_, _, _, _, _, _, _, _, _] _ _
  refine x_aload_n dL_sluices_42 rfl ?_
  refine x_iconst dL_sluices_43 ?_
  refine c_RL_18d dL_sluices_44 rfl (tn_3 hP ht) bk (Nat.le_of_ble_eq_true rfl) (Nat.le_of_ble_eq_true rfl) ⟨Nat.le_refl _, Nat.le_refl _⟩ ?_
  rw [e3]
  refine x_if_ne (tgt := 54) dL_sluices_47 (by decide) ⟨by omega, by omega⟩ (fun hb47 => ?_) (fun h => (h (by omega)).elim)
  refine x_iconst dL_sluices_54 ?_
  refine x_istore dL_sluices_55 (by decide) ?_
  show JX _ _ _ _ _ _ _ _ _ _ _ [_, _, _, _, _, _, _, _, _] _ _
  refine x_aload_n dL_sluices_57 rfl ?_
  refine x_iload_n dL_sluices_58 rfl ?_
  refine x_iload_n dL_sluices_59 rfl ?_
  refine c_RL_56p dL_sluices_60 rfl (kX7_sluice hP.1 (Or.inl rfl) hP.2.1 ht2 ⟨by omega, by omega⟩ ⟨by omega, by omega⟩) bk (Nat.le_of_ble_eq_true rfl) (Nat.le_of_ble_eq_true rfl) ⟨Nat.le_refl _, Nat.le_refl _⟩ (fun w2 D2 h2 => ?_)
  obtain ⟨rfl, hP2⟩ := hP.some hz h2
  have hI2 := hP2.2.1.2.2.2.1
  have cB2 := hI2.cB ht2 hc2
  have ar2 := hI2.ar hi2.1 hi2.2
  have mr2 := (hI2.maxw ht2).2.1 (c + g) hi2.1 hi2.2
  refine x_istore dL_sluices_63 (by decide) ?_
  show JX _ _ _ _ _ _ _ _ _ _ _ [_, _, _, _, _, _, _, _, _] _ _
  refine x_iload dL_sluices_65 rfl ?_
  refine x_if_eq (tgt := 104) dL_sluices_67 (by decide) ⟨by omega, by omega⟩ (fun hb67 => ?_) (fun h => (h (by omega)).elim)
  refine x_iload dL_sluices_104 rfl ?_
  refine x_aload_n dL_sluices_106 rfl ?_
  refine x_iload_n dL_sluices_107 rfl ?_
  refine x_iconst dL_sluices_108 ?_
  refine c_RL_15d dL_sluices_109 rfl (tc_0 hP2 ht2 hc2) bk (Nat.le_of_ble_eq_true rfl) (Nat.le_of_ble_eq_true rfl) ⟨Nat.le_refl _, Nat.le_refl _⟩ ?_
  refine x_ic_ne (tgt := 161) dL_sluices_112 (by decide) ⟨by omega, by omega⟩ ⟨by omega, by omega⟩ (fun h => absurd h (by omega)) (fun hb112 => ?_)
  refine x_iload dL_sluices_115 rfl ?_
  refine x_if_eq (tgt := 157) dL_sluices_117 (by decide) ⟨by omega, by omega⟩ (fun hb117 => ?_) (fun h => (h (by omega)).elim)
  refine x_iconst dL_sluices_157 ?_
  refine x_goto (tgt := 162) dL_sluices_158 (by decide) ?_
  exact x_ireturn dL_sluices_162 rfl (jbool (by first | exact Or.inl rfl | exact Or.inr rfl)).1 ⟨Nat.le_refl _, Nat.le_refl _⟩ ⟨rfl, _, rfl, rfl, _, _, _, _, hP2, hE3, k1a, k2a⟩
theorem sluices_a {G : JG} {S : JS} {D : JD} {d : Nat} {X t n q : Int} {hs : Int → Int → Int} {r : Int → Int} {e : Int} {c g : Int} (hP : pSt S D X t n hs r q) (hE : pIn e r) (t0 : 0 ≤ t) (ht2 : t + 100 ≤ 60000) (hc : 0 ≤ c ∧ c < r 1) (hg : g = 0 ∨ g = 1) (ho : ¬ 0 ≤ r (29 + 11 * c)) (ha : jsum (wO r) (r 1).toNat = 0) : JM G yL_sluices cL_sluices 9 (some .boolean) (d + 7) (0, 0) S D [.inr (.inr (some X)), .inl c, .inl g] (jOK S X (t + 100) e (r 1) (r 2)) := by
  have ht : t ≤ 60000 := by omega
  have hB := hP.1
  have bk := hB.1
  have hI := hP.2.1.2.2.2.1
  have b1 := hI.1
  obtain ⟨c4, ln0, ln1, lf0, lf1, gt, s0, s1, s2, s3, sg, v0, v1, w0, w1, f0, f1, k0, k1, kk, a0, a1, g0, g1⟩ := hI.cB ht hc
  have hi : 0 ≤ c + g ∧ c + g < r 0 := hI.reach hc.1 hc.2 hg
  have ar := hI.ar hi.1 hi.2
  have mr := (hI.maxw ht).2.1 (c + g) hi.1 hi.2
  have pb := hI.pB ht (p := c + g) (Or.inl hi)
  have e3 : jsum (fun c => if 0 ≤ r (29 + 11 * c) then (1 : Int) else 0) (r 1).toNat = jsum (wO r) (r 1).toNat := rfl
  have n6 := jsum_nonneg (f := wO r) (n := (r 1).toNat) (fun k x y => by unfold wO; split <;> omega)
  have n7 := jsum_le (f := wO r) (M := 1) (n := (r 1).toNat) (fun k x y => by unfold wO; split <;> omega)
  have sb : i32 (sShd r c g - r (23 + 11 * c)) := by unfold sShd; constructor <;> omega
  have hz : zSluice c g r = (sLv (sAll (sSh r c g)) (100 + c), some (sSh r c g), 0) := by unfold zSluice; rw [if_pos ⟨hc, hg⟩, if_pos (by omega)]
  have hI3 := hI.share hc.1 hc.2 hg
  have hE3 := (hE.share hI hc hg).all hI3
  have k1a : sAll (sSh r c g) 1 = r 1 := by rw [hI3.keep (by omega)]; unfold sSh; rw [rup_ne (by omega), rup_ne (by omega)]
  have k2a : sAll (sSh r c g) 2 = r 2 := by rw [hI3.keep (by omega)]; unfold sSh; rw [rup_ne (by omega), rup_ne (by omega)]
  have k0a : sAll (sSh r c g) 0 = r 0 := by rw [hI3.keep (by omega)]; unfold sSh; rw [rup_ne (by omega), rup_ne (by omega)]
  have hc2 : 0 ≤ c ∧ c < sAll (sSh r c g) 1 := ⟨hc.1, by omega⟩
  have hi2 : 0 ≤ c + g ∧ c + g < sAll (sSh r c g) 0 := ⟨hi.1, by omega⟩
  have e9 : sAll (sSh r c g) = sSh r c g := by
    have e1 : sSh r c g 1 = r 1 := by unfold sSh; rw [rup_ne (by omega), rup_ne (by omega)]
    unfold sAll
    rw [e1]
    refine sAllN_closed _ (fun k x y => ?_)
    have := closed_all ha k x (by omega)
    unfold sSh
    rw [rup_ne (by omega), rup_ne (by omega)]
    exact this
  obtain ⟨m1, m2, m3⟩ := sh_nums hI hc hg
  rw [← e9] at m1 m2 m3
  rw [e9] at m3
  have m4 : sShd (sAll (sSh r c g)) c g = sShd r c g := by rw [e9]; exact m3
  show JX _ _ _ _ _ _ _ _ _ _ _ [_, _, _, _, _, _, _, _, _] _ _
  refine x_aload_n dL_sluices_0 rfl ?_
  refine x_iload_n dL_sluices_1 rfl ?_
  refine x_iload_n dL_sluices_2 rfl ?_
  refine c_RL_49d dL_sluices_3 rfl (tf_y hP ht hc hg) bk (Nat.le_of_ble_eq_true rfl) (Nat.le_of_ble_eq_true rfl) ⟨Nat.le_refl _, Nat.le_refl _⟩ ?_
  refine x_istore_n dL_sluices_6 (by decide) ?_
  show JX _ _ _ _ _ _ _ _ _ _ _ [_, _, _, _, _, _, _, _, _] _ _
  refine x_aload_n dL_sluices_7 rfl ?_
  refine x_iload_n dL_sluices_8 rfl ?_
  refine x_iconst dL_sluices_9 ?_
  refine c_RL_15d dL_sluices_10 rfl (tc_1 hP ht hc) bk (Nat.le_of_ble_eq_true rfl) (Nat.le_of_ble_eq_true rfl) ⟨Nat.le_refl _, Nat.le_refl _⟩ ?_
  refine x_istore dL_sluices_13 (by decide) ?_
  show JX _ _ _ _ _ _ _ _ _ _ _ [_, _, _, _, _, _, _, _, _] _ _
  refine x_aload_n dL_sluices_15 rfl ?_
  refine x_iload_n dL_sluices_16 rfl ?_
  refine x_iload_n dL_sluices_17 rfl ?_
  refine x_iadd dL_sluices_18 ?_
  refine x_iconst dL_sluices_19 ?_
  refine c_RL_9d dL_sluices_20 rfl (tr_1 hP ht hi) bk (Nat.le_of_ble_eq_true rfl) (Nat.le_of_ble_eq_true rfl) ⟨Nat.le_refl _, Nat.le_refl _⟩ ?_
  refine x_istore dL_sluices_23 (by decide) ?_
  show JX _ _ _ _ _ _ _ _ _ _ _ [_, _, _, _, _, _, _, _, _] _ _
  refine x_aload_n dL_sluices_25 rfl ?_
  refine x_iload_n dL_sluices_26 rfl ?_
  refine x_bipush dL_sluices_27 (by decide) ?_
  refine c_RL_15d dL_sluices_29 rfl (tc_8 hP ht hc) bk (Nat.le_of_ble_eq_true rfl) (Nat.le_of_ble_eq_true rfl) ⟨Nat.le_refl _, Nat.le_refl _⟩ ?_
  refine x_if_lt (tgt := 39) dL_sluices_32 (by decide) ⟨by omega, by omega⟩ (fun hb32 => ?_) (fun h => (h (by omega)).elim)
  refine x_iconst dL_sluices_39 ?_
  refine x_istore dL_sluices_40 (by decide) ?_
  show JX _ _ _ _ _ _ _ _ _ _ _ [_, _, _, _, _, _, _, _, _] _ _
  refine x_aload_n dL_sluices_42 rfl ?_
  refine x_iconst dL_sluices_43 ?_
  refine c_RL_18d dL_sluices_44 rfl (tn_3 hP ht) bk (Nat.le_of_ble_eq_true rfl) (Nat.le_of_ble_eq_true rfl) ⟨Nat.le_refl _, Nat.le_refl _⟩ ?_
  rw [e3]
  refine x_if_ne (tgt := 54) dL_sluices_47 (by decide) ⟨by omega, by omega⟩ (fun h => absurd h (by omega)) (fun hb47 => ?_)
  refine x_iconst dL_sluices_50 ?_
  refine x_goto (tgt := 55) dL_sluices_51 (by decide) ?_
  refine x_istore dL_sluices_55 (by decide) ?_
  show JX _ _ _ _ _ _ _ _ _ _ _ [_, _, _, _, _, _, _, _, _] _ _
  refine x_aload_n dL_sluices_57 rfl ?_
  refine x_iload_n dL_sluices_58 rfl ?_
  refine x_iload_n dL_sluices_59 rfl ?_
  refine c_RL_56p dL_sluices_60 rfl (kX7_sluice hP.1 (Or.inl rfl) hP.2.1 ht2 ⟨by omega, by omega⟩ ⟨by omega, by omega⟩) bk (Nat.le_of_ble_eq_true rfl) (Nat.le_of_ble_eq_true rfl) ⟨Nat.le_refl _, Nat.le_refl _⟩ (fun w2 D2 h2 => ?_)
  obtain ⟨rfl, hP2⟩ := hP.some hz h2
  have hI2 := hP2.2.1.2.2.2.1
  have cB2 := hI2.cB ht2 hc2
  have ar2 := hI2.ar hi2.1 hi2.2
  have mr2 := (hI2.maxw ht2).2.1 (c + g) hi2.1 hi2.2
  refine x_istore dL_sluices_63 (by decide) ?_
  show JX _ _ _ _ _ _ _ _ _ _ _ [_, _, _, _, _, _, _, _, _] _ _
  refine x_iload dL_sluices_65 rfl ?_
  refine x_if_eq (tgt := 104) dL_sluices_67 (by decide) ⟨by omega, by omega⟩ (fun hb67 => ?_) (fun h => (h (by omega)).elim)
  refine x_iload dL_sluices_104 rfl ?_
  refine x_aload_n dL_sluices_106 rfl ?_
  refine x_iload_n dL_sluices_107 rfl ?_
  refine x_iconst dL_sluices_108 ?_
  refine c_RL_15d dL_sluices_109 rfl (tc_0 hP2 ht2 hc2) bk (Nat.le_of_ble_eq_true rfl) (Nat.le_of_ble_eq_true rfl) ⟨Nat.le_refl _, Nat.le_refl _⟩ ?_
  refine x_ic_ne (tgt := 161) dL_sluices_112 (by decide) ⟨by omega, by omega⟩ ⟨by omega, by omega⟩ (fun h => absurd h (by omega)) (fun hb112 => ?_)
  refine x_iload dL_sluices_115 rfl ?_
  refine x_if_eq (tgt := 157) dL_sluices_117 (by decide) ⟨by omega, by omega⟩ (fun h => absurd h (by omega)) (fun hb117 => ?_)
  refine x_aload_n dL_sluices_120 rfl ?_
  refine x_iload_n dL_sluices_121 rfl ?_
  refine x_iconst dL_sluices_122 ?_
  refine c_RL_15d dL_sluices_123 rfl (tc_1 hP2 ht2 hc2) bk (Nat.le_of_ble_eq_true rfl) (Nat.le_of_ble_eq_true rfl) ⟨Nat.le_refl _, Nat.le_refl _⟩ ?_
  refine x_iload dL_sluices_126 rfl ?_
  refine x_iload_n dL_sluices_128 rfl ?_
  refine x_iadd dL_sluices_129 ?_
  refine x_ic_ne (tgt := 161) dL_sluices_130 (by decide) ⟨by omega, by omega⟩ ⟨by omega, by omega⟩ (fun h => absurd h (by omega)) (fun hb130 => ?_)
  refine x_aload_n dL_sluices_133 rfl ?_
  refine x_iload_n dL_sluices_134 rfl ?_
  refine x_iload_n dL_sluices_135 rfl ?_
  refine x_iadd dL_sluices_136 ?_
  refine x_iconst dL_sluices_137 ?_
  refine c_RL_9d dL_sluices_138 rfl (tr_1 hP2 ht2 hi2) bk (Nat.le_of_ble_eq_true rfl) (Nat.le_of_ble_eq_true rfl) ⟨Nat.le_refl _, Nat.le_refl _⟩ ?_
  refine x_iload dL_sluices_141 rfl ?_
  refine x_iload_n dL_sluices_143 rfl ?_
  refine x_isub dL_sluices_144 ?_
  refine x_ic_ne (tgt := 161) dL_sluices_145 (by decide) ⟨by omega, by omega⟩ ⟨by omega, by omega⟩ (fun h => absurd h (by omega)) (fun hb145 => ?_)
  refine x_aload_n dL_sluices_148 rfl ?_
  refine x_iload_n dL_sluices_149 rfl ?_
  refine x_iload_n dL_sluices_150 rfl ?_
  refine c_RL_49d dL_sluices_151 rfl (tf_y hP2 ht2 hc2 hg) bk (Nat.le_of_ble_eq_true rfl) (Nat.le_of_ble_eq_true rfl) ⟨Nat.le_refl _, Nat.le_refl _⟩ ?_
  refine x_if_ne (tgt := 161) dL_sluices_154 (by decide) ⟨by omega, by omega⟩ (fun h => absurd h (by omega)) (fun hb154 => ?_)
  refine x_iconst dL_sluices_157 ?_
  refine x_goto (tgt := 162) dL_sluices_158 (by decide) ?_
  exact x_ireturn dL_sluices_162 rfl (jbool (by first | exact Or.inl rfl | exact Or.inr rfl)).1 ⟨Nat.le_refl _, Nat.le_refl _⟩ ⟨rfl, _, rfl, rfl, _, _, _, _, hP2, hE3, k1a, k2a⟩
theorem kL_sluices {G : JG} {S : JS} {D : JD} {d : Nat} {X t n q : Int} {hs : Int → Int → Int} {r : Int → Int} {e : Int} {c g : Int} (hP : pSt S D X t n hs r q) (hE : pIn e r) (t0 : 0 ≤ t) (ht2 : t + 100 ≤ 60000) (hc : 0 ≤ c ∧ c < r 1) (hg : g = 0 ∨ g = 1) : JM G yL_sluices cL_sluices 9 (some .boolean) (d + 7) (0, 0) S D [.inr (.inr (some X)), .inl c, .inl g] (jOK S X (t + 100) e (r 1) (r 2)) := by
  by_cases ho : 0 ≤ r (29 + 11 * c)
  · exact sluices_o hP hE t0 ht2 hc hg ho
  · by_cases ha : jsum (wO r) (r 1).toNat = 0
    · exact sluices_a hP hE t0 ht2 hc hg ho ha
    · exact sluices_n hP hE t0 ht2 hc hg ho ha
theorem opens_o {G : JG} {S : JS} {D : JD} {d : Nat} {X t n q : Int} {hs : Int → Int → Int} {r : Int → Int} {e : Int} {c g : Int} (hP : pSt S D X t n hs r q) (hE : pIn e r) (t0 : 0 ≤ t) (ht2 : t + 100 ≤ 60000) (hc : 0 ≤ c ∧ c < r 1) (hg : g = 0 ∨ g = 1) (ho : 0 ≤ r (29 + 11 * c)) : JM G yL_opens cL_opens 7 (some .boolean) (d + 7) (0, 0) S D [.inr (.inr (some X)), .inl c, .inl g] (jOK S X (t + 100) e (r 1) (r 2)) := by
  have ht : t ≤ 60000 := by omega
  have hB := hP.1
  have bk := hB.1
  have hI := hP.2.1.2.2.2.1
  have b1 := hI.1
  obtain ⟨c4, ln0, ln1, lf0, lf1, gt, s0, s1, s2, s3, sg, v0, v1, w0, w1, f0, f1, k0, k1, kk, a0, a1, g0, g1⟩ := hI.cB ht hc
  have hi : 0 ≤ c + g ∧ c + g < r 0 := hI.reach hc.1 hc.2 hg
  have pb := hI.pB ht (p := c + g) (Or.inl hi)
  have zs := zSize_b (v := sLv r (100 + c) - sLv r (c + g)) (M := 710000000) (by omega) (by omega)
  have hz : zOpen c g r = (-100000003, none, 1) := by unfold zOpen; rw [if_pos ⟨hc, hg⟩, if_neg (by omega)]
  show JX _ _ _ _ _ _ _ _ _ _ _ [_, _, _, _, _, _, _] _ _
  refine x_aload_n dL_opens_0 rfl ?_
  refine x_iload_n dL_opens_1 rfl ?_
  refine x_bipush dL_opens_2 (by decide) ?_
  refine c_RL_15d dL_opens_4 rfl (tc_8 hP ht hc) bk (Nat.le_of_ble_eq_true rfl) (Nat.le_of_ble_eq_true rfl) ⟨Nat.le_refl _, Nat.le_refl _⟩ ?_
  refine x_istore_n dL_opens_7 (by decide) ?_
  show JX _ _ _ _ _ _ _ _ _ _ _ [_, _, _, _, _, _, _] _ _
  refine x_aload_n dL_opens_8 rfl ?_
  refine x_iload_n dL_opens_9 rfl ?_
  refine x_iconst dL_opens_10 ?_
  refine c_RL_15d dL_opens_11 rfl (tc_0 hP ht hc) bk (Nat.le_of_ble_eq_true rfl) (Nat.le_of_ble_eq_true rfl) ⟨Nat.le_refl _, Nat.le_refl _⟩ ?_
  refine x_aload_n dL_opens_14 rfl ?_
  refine x_iload_n dL_opens_15 rfl ?_
  refine x_iload_n dL_opens_16 rfl ?_
  refine x_iadd dL_opens_17 ?_
  refine x_iconst dL_opens_18 ?_
  refine c_RL_9d dL_opens_19 rfl (tr_0 hP ht hi) bk (Nat.le_of_ble_eq_true rfl) (Nat.le_of_ble_eq_true rfl) ⟨Nat.le_refl _, Nat.le_refl _⟩ ?_
  refine x_isub dL_opens_22 ?_
  refine c_RL_60d dL_opens_23 rfl (kL_size ⟨by omega, by omega⟩) (Nat.le_of_ble_eq_true rfl) (Nat.le_of_ble_eq_true rfl) ⟨Nat.le_refl _, Nat.le_refl _⟩ ?_
  refine x_istore dL_opens_26 (by decide) ?_
  show JX _ _ _ _ _ _ _ _ _ _ _ [_, _, _, _, _, _, _] _ _
  refine x_iload_n dL_opens_28 rfl ?_
  refine x_if_lt (tgt := 36) dL_opens_29 (by decide) ⟨by omega, by omega⟩ (fun h => absurd h (by omega)) (fun hb29 => ?_)
  refine x_iconst dL_opens_32 ?_
  refine x_goto (tgt := 47) dL_opens_33 (by decide) ?_
  refine x_istore dL_opens_47 (by decide) ?_
  show JX _ _ _ _ _ _ _ _ _ _ _ [_, _, _, _, _, _, _] _ _
  refine x_aload_n dL_opens_49 rfl ?_
  refine x_iload_n dL_opens_50 rfl ?_
  refine x_iload_n dL_opens_51 rfl ?_
  refine c_RL_63p dL_opens_52 rfl (kX7_open hP.1 (Or.inl rfl) hP.2.1 ht2 ⟨by omega, by omega⟩ ⟨by omega, by omega⟩) bk (Nat.le_of_ble_eq_true rfl) (Nat.le_of_ble_eq_true rfl) ⟨Nat.le_refl _, Nat.le_refl _⟩ (fun w2 D2 h2 => ?_)
  obtain ⟨rfl, hP2⟩ := hP.ref hz (by decide) h2
  refine x_istore dL_opens_55 (by decide) ?_
  show JX _ _ _ _ _ _ _ _ _ _ _ [_, _, _, _, _, _, _] _ _
  refine x_iload dL_opens_57 rfl ?_
  refine x_if_le (tgt := 97) dL_opens_59 (by decide) ⟨by omega, by omega⟩ (fun h => absurd h (by omega)) (fun hb59 => ?_)
  refine x_iload dL_opens_62 rfl ?_
  refine x_ldc (e := -100000003) dL_opens_64 ct_RL_59 (by decide) ?_
  refine x_ic_ne (tgt := 95) dL_opens_66 (by decide) ⟨by omega, by omega⟩ ⟨by omega, by omega⟩ (fun h => absurd h (by omega)) (fun hb66 => ?_)
  refine x_aload_n dL_opens_69 rfl ?_
  refine x_bipush dL_opens_70 (by decide) ?_
  refine c_RL_18d dL_opens_72 rfl (tn_7 hP2 ht2) bk (Nat.le_of_ble_eq_true rfl) (Nat.le_of_ble_eq_true rfl) ⟨Nat.le_refl _, Nat.le_refl _⟩ ?_
  refine x_iload dL_opens_75 rfl ?_
  refine x_ic_ne (tgt := 95) dL_opens_77 (by decide) ⟨by omega, by omega⟩ ⟨by omega, by omega⟩ (fun h => absurd h (by omega)) (fun hb77 => ?_)
  refine x_aload_n dL_opens_80 rfl ?_
  refine x_iload_n dL_opens_81 rfl ?_
  refine x_bipush dL_opens_82 (by decide) ?_
  refine c_RL_15d dL_opens_84 rfl (tc_8 hP2 ht2 hc) bk (Nat.le_of_ble_eq_true rfl) (Nat.le_of_ble_eq_true rfl) ⟨Nat.le_refl _, Nat.le_refl _⟩ ?_
  refine x_iload_n dL_opens_87 rfl ?_
  refine x_ic_ne (tgt := 95) dL_opens_88 (by decide) ⟨by omega, by omega⟩ ⟨by omega, by omega⟩ (fun h => absurd h (by omega)) (fun hb88 => ?_)
  refine x_iconst dL_opens_91 ?_
  refine x_goto (tgt := 96) dL_opens_92 (by decide) ?_
  exact x_ireturn dL_opens_96 rfl (jbool (by first | exact Or.inl rfl | exact Or.inr rfl)).1 ⟨Nat.le_refl _, Nat.le_refl _⟩ ⟨rfl, _, rfl, rfl, _, _, _, _, hP2, hE, rfl, rfl⟩
theorem opens_l {G : JG} {S : JS} {D : JD} {d : Nat} {X t n q : Int} {hs : Int → Int → Int} {r : Int → Int} {e : Int} {c g : Int} (hP : pSt S D X t n hs r q) (hE : pIn e r) (t0 : 0 ≤ t) (ht2 : t + 100 ≤ 60000) (hc : 0 ≤ c ∧ c < r 1) (hg : g = 0 ∨ g = 1) (ho : ¬ 0 ≤ r (29 + 11 * c)) (hl : ¬ (sLv r (100 + c) - sLv r (c + g) ≤ 2 ∧ sLv r (c + g) - sLv r (100 + c) ≤ 2)) : JM G yL_opens cL_opens 7 (some .boolean) (d + 7) (0, 0) S D [.inr (.inr (some X)), .inl c, .inl g] (jOK S X (t + 100) e (r 1) (r 2)) := by
  have ht : t ≤ 60000 := by omega
  have hB := hP.1
  have bk := hB.1
  have hI := hP.2.1.2.2.2.1
  have b1 := hI.1
  obtain ⟨c4, ln0, ln1, lf0, lf1, gt, s0, s1, s2, s3, sg, v0, v1, w0, w1, f0, f1, k0, k1, kk, a0, a1, g0, g1⟩ := hI.cB ht hc
  have hi : 0 ≤ c + g ∧ c + g < r 0 := hI.reach hc.1 hc.2 hg
  have pb := hI.pB ht (p := c + g) (Or.inl hi)
  have zs := zSize_b (v := sLv r (100 + c) - sLv r (c + g)) (M := 710000000) (by omega) (by omega)
  have zl := zs.2.2.2 (by omega)
  have hz : zOpen c g r = (-100000003, none, 3) := by unfold zOpen; rw [if_pos ⟨hc, hg⟩, if_pos (by omega), if_neg hl]
  show JX _ _ _ _ _ _ _ _ _ _ _ [_, _, _, _, _, _, _] _ _
  refine x_aload_n dL_opens_0 rfl ?_
  refine x_iload_n dL_opens_1 rfl ?_
  refine x_bipush dL_opens_2 (by decide) ?_
  refine c_RL_15d dL_opens_4 rfl (tc_8 hP ht hc) bk (Nat.le_of_ble_eq_true rfl) (Nat.le_of_ble_eq_true rfl) ⟨Nat.le_refl _, Nat.le_refl _⟩ ?_
  refine x_istore_n dL_opens_7 (by decide) ?_
  show JX _ _ _ _ _ _ _ _ _ _ _ [_, _, _, _, _, _, _] _ _
  refine x_aload_n dL_opens_8 rfl ?_
  refine x_iload_n dL_opens_9 rfl ?_
  refine x_iconst dL_opens_10 ?_
  refine c_RL_15d dL_opens_11 rfl (tc_0 hP ht hc) bk (Nat.le_of_ble_eq_true rfl) (Nat.le_of_ble_eq_true rfl) ⟨Nat.le_refl _, Nat.le_refl _⟩ ?_
  refine x_aload_n dL_opens_14 rfl ?_
  refine x_iload_n dL_opens_15 rfl ?_
  refine x_iload_n dL_opens_16 rfl ?_
  refine x_iadd dL_opens_17 ?_
  refine x_iconst dL_opens_18 ?_
  refine c_RL_9d dL_opens_19 rfl (tr_0 hP ht hi) bk (Nat.le_of_ble_eq_true rfl) (Nat.le_of_ble_eq_true rfl) ⟨Nat.le_refl _, Nat.le_refl _⟩ ?_
  refine x_isub dL_opens_22 ?_
  refine c_RL_60d dL_opens_23 rfl (kL_size ⟨by omega, by omega⟩) (Nat.le_of_ble_eq_true rfl) (Nat.le_of_ble_eq_true rfl) ⟨Nat.le_refl _, Nat.le_refl _⟩ ?_
  refine x_istore dL_opens_26 (by decide) ?_
  show JX _ _ _ _ _ _ _ _ _ _ _ [_, _, _, _, _, _, _] _ _
  refine x_iload_n dL_opens_28 rfl ?_
  refine x_if_lt (tgt := 36) dL_opens_29 (by decide) ⟨by omega, by omega⟩ (fun hb29 => ?_) (fun h => (h (by omega)).elim)
  refine x_iload dL_opens_36 rfl ?_
  refine x_iconst dL_opens_38 ?_
  refine x_ic_le (tgt := 46) dL_opens_39 (by decide) ⟨by omega, by omega⟩ ⟨by omega, by omega⟩ (fun h => absurd h (by omega)) (fun hb39 => ?_)
  refine x_iconst dL_opens_42 ?_
  refine x_goto (tgt := 47) dL_opens_43 (by decide) ?_
  refine x_istore dL_opens_47 (by decide) ?_
  show JX _ _ _ _ _ _ _ _ _ _ _ [_, _, _, _, _, _, _] _ _
  refine x_aload_n dL_opens_49 rfl ?_
  refine x_iload_n dL_opens_50 rfl ?_
  refine x_iload_n dL_opens_51 rfl ?_
  refine c_RL_63p dL_opens_52 rfl (kX7_open hP.1 (Or.inl rfl) hP.2.1 ht2 ⟨by omega, by omega⟩ ⟨by omega, by omega⟩) bk (Nat.le_of_ble_eq_true rfl) (Nat.le_of_ble_eq_true rfl) ⟨Nat.le_refl _, Nat.le_refl _⟩ (fun w2 D2 h2 => ?_)
  obtain ⟨rfl, hP2⟩ := hP.ref hz (by decide) h2
  refine x_istore dL_opens_55 (by decide) ?_
  show JX _ _ _ _ _ _ _ _ _ _ _ [_, _, _, _, _, _, _] _ _
  refine x_iload dL_opens_57 rfl ?_
  refine x_if_le (tgt := 97) dL_opens_59 (by decide) ⟨by omega, by omega⟩ (fun h => absurd h (by omega)) (fun hb59 => ?_)
  refine x_iload dL_opens_62 rfl ?_
  refine x_ldc (e := -100000003) dL_opens_64 ct_RL_59 (by decide) ?_
  refine x_ic_ne (tgt := 95) dL_opens_66 (by decide) ⟨by omega, by omega⟩ ⟨by omega, by omega⟩ (fun h => absurd h (by omega)) (fun hb66 => ?_)
  refine x_aload_n dL_opens_69 rfl ?_
  refine x_bipush dL_opens_70 (by decide) ?_
  refine c_RL_18d dL_opens_72 rfl (tn_7 hP2 ht2) bk (Nat.le_of_ble_eq_true rfl) (Nat.le_of_ble_eq_true rfl) ⟨Nat.le_refl _, Nat.le_refl _⟩ ?_
  refine x_iload dL_opens_75 rfl ?_
  refine x_ic_ne (tgt := 95) dL_opens_77 (by decide) ⟨by omega, by omega⟩ ⟨by omega, by omega⟩ (fun h => absurd h (by omega)) (fun hb77 => ?_)
  refine x_aload_n dL_opens_80 rfl ?_
  refine x_iload_n dL_opens_81 rfl ?_
  refine x_bipush dL_opens_82 (by decide) ?_
  refine c_RL_15d dL_opens_84 rfl (tc_8 hP2 ht2 hc) bk (Nat.le_of_ble_eq_true rfl) (Nat.le_of_ble_eq_true rfl) ⟨Nat.le_refl _, Nat.le_refl _⟩ ?_
  refine x_iload_n dL_opens_87 rfl ?_
  refine x_ic_ne (tgt := 95) dL_opens_88 (by decide) ⟨by omega, by omega⟩ ⟨by omega, by omega⟩ (fun h => absurd h (by omega)) (fun hb88 => ?_)
  refine x_iconst dL_opens_91 ?_
  refine x_goto (tgt := 96) dL_opens_92 (by decide) ?_
  exact x_ireturn dL_opens_96 rfl (jbool (by first | exact Or.inl rfl | exact Or.inr rfl)).1 ⟨Nat.le_refl _, Nat.le_refl _⟩ ⟨rfl, _, rfl, rfl, _, _, _, _, hP2, hE, rfl, rfl⟩
theorem opens_y {G : JG} {S : JS} {D : JD} {d : Nat} {X t n q : Int} {hs : Int → Int → Int} {r : Int → Int} {e : Int} {c g : Int} (hP : pSt S D X t n hs r q) (hE : pIn e r) (t0 : 0 ≤ t) (ht2 : t + 100 ≤ 60000) (hc : 0 ≤ c ∧ c < r 1) (hg : g = 0 ∨ g = 1) (ho : ¬ 0 ≤ r (29 + 11 * c)) (hl : sLv r (100 + c) - sLv r (c + g) ≤ 2 ∧ sLv r (c + g) - sLv r (100 + c) ≤ 2) : JM G yL_opens cL_opens 7 (some .boolean) (d + 7) (0, 0) S D [.inr (.inr (some X)), .inl c, .inl g] (jOK S X (t + 100) e (r 1) (r 2)) := by
  have ht : t ≤ 60000 := by omega
  have hB := hP.1
  have bk := hB.1
  have hI := hP.2.1.2.2.2.1
  have b1 := hI.1
  obtain ⟨c4, ln0, ln1, lf0, lf1, gt, s0, s1, s2, s3, sg, v0, v1, w0, w1, f0, f1, k0, k1, kk, a0, a1, g0, g1⟩ := hI.cB ht hc
  have hi : 0 ≤ c + g ∧ c + g < r 0 := hI.reach hc.1 hc.2 hg
  have pb := hI.pB ht (p := c + g) (Or.inl hi)
  have zs := zSize_b (v := sLv r (100 + c) - sLv r (c + g)) (M := 710000000) (by omega) (by omega)
  have zl := zs.2.2.1 (by omega)
  have hz : zOpen c g r = (sLv (sAll (rup r (29 + 11 * c) g)) (100 + c), some (rup r (29 + 11 * c) g), 0) := by unfold zOpen; rw [if_pos ⟨hc, hg⟩, if_pos (by omega), if_pos hl]
  have hI3 := hI.own (k := 29 + 11 * c) (v := g) hc.1 hc.2 (by omega)
  have hE3 := (hE.off hI (pOff.one (r := r) (k := 29 + 11 * c) (v := g) (by omega) (fun c2 _ _ => by omega) (fun b _ _ => by omega))).all hI3
  have k1a : sAll (rup r (29 + 11 * c) g) 1 = r 1 := by rw [hI3.keep (by omega), rup_ne (by omega)]
  have k2a : sAll (rup r (29 + 11 * c) g) 2 = r 2 := by rw [hI3.keep (by omega), rup_ne (by omega)]
  have hc2 : 0 ≤ c ∧ c < sAll (rup r (29 + 11 * c) g) 1 := ⟨hc.1, by omega⟩
  have g9 : sAll (rup r (29 + 11 * c) g) (29 + 11 * c) = g := by rw [hI3.keepC (c := c) (z := 8) ⟨hc.1, by omega⟩ (by omega) (by omega), rup_eq]
  show JX _ _ _ _ _ _ _ _ _ _ _ [_, _, _, _, _, _, _] _ _
  refine x_aload_n dL_opens_0 rfl ?_
  refine x_iload_n dL_opens_1 rfl ?_
  refine x_bipush dL_opens_2 (by decide) ?_
  refine c_RL_15d dL_opens_4 rfl (tc_8 hP ht hc) bk (Nat.le_of_ble_eq_true rfl) (Nat.le_of_ble_eq_true rfl) ⟨Nat.le_refl _, Nat.le_refl _⟩ ?_
  refine x_istore_n dL_opens_7 (by decide) ?_
  show JX _ _ _ _ _ _ _ _ _ _ _ [_, _, _, _, _, _, _] _ _
  refine x_aload_n dL_opens_8 rfl ?_
  refine x_iload_n dL_opens_9 rfl ?_
  refine x_iconst dL_opens_10 ?_
  refine c_RL_15d dL_opens_11 rfl (tc_0 hP ht hc) bk (Nat.le_of_ble_eq_true rfl) (Nat.le_of_ble_eq_true rfl) ⟨Nat.le_refl _, Nat.le_refl _⟩ ?_
  refine x_aload_n dL_opens_14 rfl ?_
  refine x_iload_n dL_opens_15 rfl ?_
  refine x_iload_n dL_opens_16 rfl ?_
  refine x_iadd dL_opens_17 ?_
  refine x_iconst dL_opens_18 ?_
  refine c_RL_9d dL_opens_19 rfl (tr_0 hP ht hi) bk (Nat.le_of_ble_eq_true rfl) (Nat.le_of_ble_eq_true rfl) ⟨Nat.le_refl _, Nat.le_refl _⟩ ?_
  refine x_isub dL_opens_22 ?_
  refine c_RL_60d dL_opens_23 rfl (kL_size ⟨by omega, by omega⟩) (Nat.le_of_ble_eq_true rfl) (Nat.le_of_ble_eq_true rfl) ⟨Nat.le_refl _, Nat.le_refl _⟩ ?_
  refine x_istore dL_opens_26 (by decide) ?_
  show JX _ _ _ _ _ _ _ _ _ _ _ [_, _, _, _, _, _, _] _ _
  refine x_iload_n dL_opens_28 rfl ?_
  refine x_if_lt (tgt := 36) dL_opens_29 (by decide) ⟨by omega, by omega⟩ (fun hb29 => ?_) (fun h => (h (by omega)).elim)
  refine x_iload dL_opens_36 rfl ?_
  refine x_iconst dL_opens_38 ?_
  refine x_ic_le (tgt := 46) dL_opens_39 (by decide) ⟨by omega, by omega⟩ ⟨by omega, by omega⟩ (fun hb39 => ?_) (fun h => (h (by omega)).elim)
  refine x_iconst dL_opens_46 ?_
  refine x_istore dL_opens_47 (by decide) ?_
  show JX _ _ _ _ _ _ _ _ _ _ _ [_, _, _, _, _, _, _] _ _
  refine x_aload_n dL_opens_49 rfl ?_
  refine x_iload_n dL_opens_50 rfl ?_
  refine x_iload_n dL_opens_51 rfl ?_
  refine c_RL_63p dL_opens_52 rfl (kX7_open hP.1 (Or.inl rfl) hP.2.1 ht2 ⟨by omega, by omega⟩ ⟨by omega, by omega⟩) bk (Nat.le_of_ble_eq_true rfl) (Nat.le_of_ble_eq_true rfl) ⟨Nat.le_refl _, Nat.le_refl _⟩ (fun w2 D2 h2 => ?_)
  obtain ⟨rfl, hP2⟩ := hP.some hz h2
  have hI2 := hP2.2.1.2.2.2.1
  have cB2 := hI2.cB ht2 hc2
  refine x_istore dL_opens_55 (by decide) ?_
  show JX _ _ _ _ _ _ _ _ _ _ _ [_, _, _, _, _, _, _] _ _
  refine x_iload dL_opens_57 rfl ?_
  refine x_if_le (tgt := 97) dL_opens_59 (by decide) ⟨by omega, by omega⟩ (fun hb59 => ?_) (fun h => (h (by omega)).elim)
  refine x_iload dL_opens_97 rfl ?_
  refine x_aload_n dL_opens_99 rfl ?_
  refine x_iload_n dL_opens_100 rfl ?_
  refine x_iconst dL_opens_101 ?_
  refine c_RL_15d dL_opens_102 rfl (tc_0 hP2 ht2 hc2) bk (Nat.le_of_ble_eq_true rfl) (Nat.le_of_ble_eq_true rfl) ⟨Nat.le_refl _, Nat.le_refl _⟩ ?_
  refine x_ic_ne (tgt := 123) dL_opens_105 (by decide) ⟨by omega, by omega⟩ ⟨by omega, by omega⟩ (fun h => absurd h (by omega)) (fun hb105 => ?_)
  refine x_aload_n dL_opens_108 rfl ?_
  refine x_iload_n dL_opens_109 rfl ?_
  refine x_bipush dL_opens_110 (by decide) ?_
  refine c_RL_15d dL_opens_112 rfl (tc_8 hP2 ht2 hc2) bk (Nat.le_of_ble_eq_true rfl) (Nat.le_of_ble_eq_true rfl) ⟨Nat.le_refl _, Nat.le_refl _⟩ ?_
  refine x_iload_n dL_opens_115 rfl ?_
  refine x_ic_ne (tgt := 123) dL_opens_116 (by decide) ⟨by omega, by omega⟩ ⟨by omega, by omega⟩ (fun h => absurd h (by omega)) (fun hb116 => ?_)
  refine x_iconst dL_opens_119 ?_
  refine x_goto (tgt := 124) dL_opens_120 (by decide) ?_
  exact x_ireturn dL_opens_124 rfl (jbool (by first | exact Or.inl rfl | exact Or.inr rfl)).1 ⟨Nat.le_refl _, Nat.le_refl _⟩ ⟨rfl, _, rfl, rfl, _, _, _, _, hP2, hE3, k1a, k2a⟩
theorem kL_opens {G : JG} {S : JS} {D : JD} {d : Nat} {X t n q : Int} {hs : Int → Int → Int} {r : Int → Int} {e : Int} {c g : Int} (hP : pSt S D X t n hs r q) (hE : pIn e r) (t0 : 0 ≤ t) (ht2 : t + 100 ≤ 60000) (hc : 0 ≤ c ∧ c < r 1) (hg : g = 0 ∨ g = 1) : JM G yL_opens cL_opens 7 (some .boolean) (d + 7) (0, 0) S D [.inr (.inr (some X)), .inl c, .inl g] (jOK S X (t + 100) e (r 1) (r 2)) := by
  by_cases ho : 0 ≤ r (29 + 11 * c)
  · exact opens_o hP hE t0 ht2 hc hg ho
  · by_cases hl : sLv r (100 + c) - sLv r (c + g) ≤ 2 ∧ sLv r (c + g) - sLv r (100 + c) ≤ 2
    · exact opens_y hP hE t0 ht2 hc hg ho hl
    · exact opens_l hP hE t0 ht2 hc hg ho hl
