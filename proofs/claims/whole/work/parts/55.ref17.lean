/-! THE REFERENCE: account, count -/
theorem jsum_add {f g : Int → Int} : ∀ n : Nat, jsum (fun k => f k + g k) n = jsum f n + jsum g n
  | 0 => rfl
  | n + 1 => by
    show jsum (fun k => f k + g k) n + (f n + g n) = jsum f n + f n + (jsum g n + g n)
    rw [jsum_add n]
    omega
theorem jsum_comm {F : Int → Int → Int} {n : Nat} : ∀ m : Nat, jsum (fun c => jsum (fun b => F c b) n) m = jsum (fun b => jsum (fun c => F c b) m) n
  | 0 => (jsum_zero (fun _ _ _ => rfl)).symm
  | m + 1 => by
    show jsum (fun c => jsum (fun b => F c b) n) m + jsum (fun b => F m b) n = jsum (fun b => jsum (fun c => F c b) m + F m b) n
    rw [jsum_comm m, jsum_add (f := fun b => jsum (fun c => F c b) m) (g := fun b => F m b)]
theorem jsum_pt {p : Int} : ∀ n : Nat, jsum (fun c => if p = 100 + c then (1 : Int) else 0) n = if 100 ≤ p ∧ p < 100 + n then 1 else 0
  | 0 => by
    rw [if_neg (by omega)]
    rfl
  | n + 1 => by
    show jsum (fun c => if p = 100 + c then (1 : Int) else 0) n + (if p = 100 + (n : Int) then 1 else 0) = _
    rw [jsum_pt n]
    by_cases e : p = 100 + (n : Int)
    · rw [if_neg (by omega), if_pos e, if_pos (by omega)]
      rfl
    · rw [if_neg e]
      by_cases q : 100 ≤ p ∧ p < 100 + n
      · rw [if_pos q, if_pos (by omega)]
        rfl
      · rw [if_neg q, if_neg (by omega)]
        rfl
theorem jsum_part {f g : Int → Int} {m : Int} (hm : 0 ≤ m) : ∀ n : Nat, jsum (fun i => f i + (if i < m then g i else 0)) n = jsum f n + jsum g (min n m.toNat)
  | 0 => by
    rw [show min 0 m.toNat = 0 by omega]
    rfl
  | n + 1 => by
    show jsum (fun i => f i + (if i < m then g i else 0)) n + (f n + (if (n : Int) < m then g n else 0)) = jsum f n + f n + _
    rw [jsum_part hm n]
    by_cases q : (n : Int) < m
    · rw [if_pos q, show min n m.toNat = n by omega, show min (n + 1) m.toNat = n + 1 by omega]
      show _ = _ + (jsum g n + g n)
      omega
    · rw [if_neg q, show min n m.toNat = m.toNat by omega, show min (n + 1) m.toNat = m.toNat by omega]
      omega
theorem rIn.wx {t : Int} {r : Int → Int} (hI : rIn t r) : jsum (sWx r) (r 0).toNat = jsum (fun i => r (8 + 3 * i)) (r 0).toNat + jsum (fun c => r (23 + 11 * c)) (r 1).toNat := by
  have b1 := hI.1
  have h := jsum_part (f := fun i => r (8 + 3 * i)) (g := fun c => r (23 + 11 * c)) (m := r 1) (by omega) (r 0).toNat
  rw [show min (r 0).toNat (r 1).toNat = (r 1).toNat by omega] at h
  exact h
theorem rIn.locked {t : Int} {r : Int → Int} (hI : rIn t r) : jsum (fun b => if 100 ≤ r (71 + 8 * b) then 1 else 0) (r 2).toNat = jsum (fun c => r (161 + 13 * c)) (r 1).toNat := by
  have b1 := hI.1
  rw [jsum_congr (f := fun c => r (161 + 13 * c)) (g := fun c => jsum (fun b => if r (71 + 8 * b) = 100 + c then (1 : Int) else 0) (r 2).toNat) (fun c x y => (hI.line x (by omega)).2.2), jsum_comm]
  refine jsum_congr (fun b x y => ?_)
  show (if 100 ≤ r (71 + 8 * b) then 1 else 0) = jsum (fun c => if r (71 + 8 * b) = 100 + c then (1 : Int) else 0) (r 1).toNat
  rw [jsum_pt]
  have bb := (hI.bw x (by omega)).1
  unfold rPl at bb
  by_cases q : 100 ≤ r (71 + 8 * b)
  · rw [if_pos q, if_pos (by omega)]
  · rw [if_neg q, if_neg (by omega)]
def vAcc (e W P B C T : Int) (r : Int → Int) : Int := if e = 0 then W else if e = 1 then B else if e = 2 then C else if e = 3 then T else if e = 4 then r 4 else if e = 5 then r 5 else if e = 6 then P else -100000002
theorem acc_end_0 {G : JG} {S : JS} {D : JD} {d : Nat} {M t W P b c w i : Int} {r : Int → Int} (hM : jMo S M) (hr : D (M + 1) = r) (hI : rIn t r) (ht : t ≤ 60000) : JX G yX8_account cX8_account 13 (some .long) (d + 2) (0, 0) (0, 0) S D 170 [some (.inr (.inr (some M))), some (.inl 0), some (.inr (.inl W)), none, some (.inr (.inl P)), none, some (.inr (.inl b)), none, some (.inr (.inl c)), none, some (.inr (.inl w)), none, some (.inl i)] [] (jr (.inr (.inl (W))) S D) := by
  obtain ⟨mk, m0, m1, m2, m4, m5, m8, m12, y1, l1, y2, l2, y3, l3, y4, l4, y5, l5, y6, l6, y7, l7⟩ := id hM
  have hM0 := hM
  have hr0 := hr
  have b1 := hI.1
  refine x_iload_n dX8_account_170 rfl ?_
  refine x_switch (tgt := 212) dX8_account_171 ⟨by omega, by omega⟩ (by decide) (by decide) ?_
  refine x_lload_n dX8_account_212 rfl ?_
  exact x_lreturn dX8_account_213 rfl ⟨Nat.le_refl _, Nat.le_refl _⟩ ⟨rfl, rfl, rfl⟩
theorem acc_end_1 {G : JG} {S : JS} {D : JD} {d : Nat} {M t W P b c w i : Int} {r : Int → Int} (hM : jMo S M) (hr : D (M + 1) = r) (hI : rIn t r) (ht : t ≤ 60000) : JX G yX8_account cX8_account 13 (some .long) (d + 2) (0, 0) (0, 0) S D 170 [some (.inr (.inr (some M))), some (.inl 1), some (.inr (.inl W)), none, some (.inr (.inl P)), none, some (.inr (.inl b)), none, some (.inr (.inl c)), none, some (.inr (.inl w)), none, some (.inl i)] [] (jr (.inr (.inl (b))) S D) := by
  obtain ⟨mk, m0, m1, m2, m4, m5, m8, m12, y1, l1, y2, l2, y3, l3, y4, l4, y5, l5, y6, l6, y7, l7⟩ := id hM
  have hM0 := hM
  have hr0 := hr
  have b1 := hI.1
  refine x_iload_n dX8_account_170 rfl ?_
  refine x_switch (tgt := 214) dX8_account_171 ⟨by omega, by omega⟩ (by decide) (by decide) ?_
  refine x_lload dX8_account_214 rfl ?_
  exact x_lreturn dX8_account_216 rfl ⟨Nat.le_refl _, Nat.le_refl _⟩ ⟨rfl, rfl, rfl⟩
theorem acc_end_2 {G : JG} {S : JS} {D : JD} {d : Nat} {M t W P b c w i : Int} {r : Int → Int} (hM : jMo S M) (hr : D (M + 1) = r) (hI : rIn t r) (ht : t ≤ 60000) : JX G yX8_account cX8_account 13 (some .long) (d + 2) (0, 0) (0, 0) S D 170 [some (.inr (.inr (some M))), some (.inl 2), some (.inr (.inl W)), none, some (.inr (.inl P)), none, some (.inr (.inl b)), none, some (.inr (.inl c)), none, some (.inr (.inl w)), none, some (.inl i)] [] (jr (.inr (.inl (c))) S D) := by
  obtain ⟨mk, m0, m1, m2, m4, m5, m8, m12, y1, l1, y2, l2, y3, l3, y4, l4, y5, l5, y6, l6, y7, l7⟩ := id hM
  have hM0 := hM
  have hr0 := hr
  have b1 := hI.1
  refine x_iload_n dX8_account_170 rfl ?_
  refine x_switch (tgt := 217) dX8_account_171 ⟨by omega, by omega⟩ (by decide) (by decide) ?_
  refine x_lload dX8_account_217 rfl ?_
  exact x_lreturn dX8_account_219 rfl ⟨Nat.le_refl _, Nat.le_refl _⟩ ⟨rfl, rfl, rfl⟩
theorem acc_end_3 {G : JG} {S : JS} {D : JD} {d : Nat} {M t W P b c w i : Int} {r : Int → Int} (hM : jMo S M) (hr : D (M + 1) = r) (hI : rIn t r) (ht : t ≤ 60000) : JX G yX8_account cX8_account 13 (some .long) (d + 2) (0, 0) (0, 0) S D 170 [some (.inr (.inr (some M))), some (.inl 3), some (.inr (.inl W)), none, some (.inr (.inl P)), none, some (.inr (.inl b)), none, some (.inr (.inl c)), none, some (.inr (.inl w)), none, some (.inl i)] [] (jr (.inr (.inl (w))) S D) := by
  obtain ⟨mk, m0, m1, m2, m4, m5, m8, m12, y1, l1, y2, l2, y3, l3, y4, l4, y5, l5, y6, l6, y7, l7⟩ := id hM
  have hM0 := hM
  have hr0 := hr
  have b1 := hI.1
  refine x_iload_n dX8_account_170 rfl ?_
  refine x_switch (tgt := 220) dX8_account_171 ⟨by omega, by omega⟩ (by decide) (by decide) ?_
  refine x_lload dX8_account_220 rfl ?_
  exact x_lreturn dX8_account_222 rfl ⟨Nat.le_refl _, Nat.le_refl _⟩ ⟨rfl, rfl, rfl⟩
theorem acc_end_4 {G : JG} {S : JS} {D : JD} {d : Nat} {M t W P b c w i : Int} {r : Int → Int} (hM : jMo S M) (hr : D (M + 1) = r) (hI : rIn t r) (ht : t ≤ 60000) : JX G yX8_account cX8_account 13 (some .long) (d + 2) (0, 0) (0, 0) S D 170 [some (.inr (.inr (some M))), some (.inl 4), some (.inr (.inl W)), none, some (.inr (.inl P)), none, some (.inr (.inl b)), none, some (.inr (.inl c)), none, some (.inr (.inl w)), none, some (.inl i)] [] (jr (.inr (.inl (r 4))) S D) := by
  obtain ⟨mk, m0, m1, m2, m4, m5, m8, m12, y1, l1, y2, l2, y3, l3, y4, l4, y5, l5, y6, l6, y7, l7⟩ := id hM
  have hM0 := hM
  have hr0 := hr
  have b1 := hI.1
  refine x_iload_n dX8_account_170 rfl ?_
  refine x_switch (tgt := 223) dX8_account_171 ⟨by omega, by omega⟩ (by decide) (by decide) ?_
  refine x_aload_n dX8_account_223 rfl ?_
  refine gf_RX8_7 dX8_account_224 rfl (by assumption) ?_
  rw [m0]
  refine x_iconst dX8_account_227 ?_
  refine x_iald dX8_account_228 (by assumption) ⟨by omega, by omega⟩ ?_
  rw [hr]
  refine x_i2l dX8_account_229 ⟨by omega, by omega⟩ ?_
  exact x_lreturn dX8_account_230 rfl ⟨Nat.le_refl _, Nat.le_refl _⟩ ⟨rfl, rfl, rfl⟩
theorem acc_end_5 {G : JG} {S : JS} {D : JD} {d : Nat} {M t W P b c w i : Int} {r : Int → Int} (hM : jMo S M) (hr : D (M + 1) = r) (hI : rIn t r) (ht : t ≤ 60000) : JX G yX8_account cX8_account 13 (some .long) (d + 2) (0, 0) (0, 0) S D 170 [some (.inr (.inr (some M))), some (.inl 5), some (.inr (.inl W)), none, some (.inr (.inl P)), none, some (.inr (.inl b)), none, some (.inr (.inl c)), none, some (.inr (.inl w)), none, some (.inl i)] [] (jr (.inr (.inl (r 5))) S D) := by
  obtain ⟨mk, m0, m1, m2, m4, m5, m8, m12, y1, l1, y2, l2, y3, l3, y4, l4, y5, l5, y6, l6, y7, l7⟩ := id hM
  have hM0 := hM
  have hr0 := hr
  have b1 := hI.1
  refine x_iload_n dX8_account_170 rfl ?_
  refine x_switch (tgt := 231) dX8_account_171 ⟨by omega, by omega⟩ (by decide) (by decide) ?_
  refine x_aload_n dX8_account_231 rfl ?_
  refine gf_RX8_7 dX8_account_232 rfl (by assumption) ?_
  rw [m0]
  refine x_iconst dX8_account_235 ?_
  refine x_iald dX8_account_236 (by assumption) ⟨by omega, by omega⟩ ?_
  rw [hr]
  refine x_i2l dX8_account_237 ⟨by omega, by omega⟩ ?_
  exact x_lreturn dX8_account_238 rfl ⟨Nat.le_refl _, Nat.le_refl _⟩ ⟨rfl, rfl, rfl⟩
theorem acc_end_6 {G : JG} {S : JS} {D : JD} {d : Nat} {M t W P b c w i : Int} {r : Int → Int} (hM : jMo S M) (hr : D (M + 1) = r) (hI : rIn t r) (ht : t ≤ 60000) : JX G yX8_account cX8_account 13 (some .long) (d + 2) (0, 0) (0, 0) S D 170 [some (.inr (.inr (some M))), some (.inl 6), some (.inr (.inl W)), none, some (.inr (.inl P)), none, some (.inr (.inl b)), none, some (.inr (.inl c)), none, some (.inr (.inl w)), none, some (.inl i)] [] (jr (.inr (.inl (P))) S D) := by
  obtain ⟨mk, m0, m1, m2, m4, m5, m8, m12, y1, l1, y2, l2, y3, l3, y4, l4, y5, l5, y6, l6, y7, l7⟩ := id hM
  have hM0 := hM
  have hr0 := hr
  have b1 := hI.1
  refine x_iload_n dX8_account_170 rfl ?_
  refine x_switch (tgt := 239) dX8_account_171 ⟨by omega, by omega⟩ (by decide) (by decide) ?_
  refine x_lload dX8_account_239 rfl ?_
  exact x_lreturn dX8_account_241 rfl ⟨Nat.le_refl _, Nat.le_refl _⟩ ⟨rfl, rfl, rfl⟩
theorem acc_end_n {G : JG} {S : JS} {D : JD} {d : Nat} {M t W P b c w i e : Int} {r : Int → Int} (hM : jMo S M) (hr : D (M + 1) = r) (hI : rIn t r) (ht : t ≤ 60000) (re : i32 e) (he : e < 0 ∨ 6 < e) : JX G yX8_account cX8_account 13 (some .long) (d + 2) (0, 0) (0, 0) S D 170 [some (.inr (.inr (some M))), some (.inl e), some (.inr (.inl W)), none, some (.inr (.inl P)), none, some (.inr (.inl b)), none, some (.inr (.inl c)), none, some (.inr (.inl w)), none, some (.inl i)] [] (jr (.inr (.inl (-100000002))) S D) := by
  obtain ⟨mk, m0, m1, m2, m4, m5, m8, m12, y1, l1, y2, l2, y3, l3, y4, l4, y5, l5, y6, l6, y7, l7⟩ := id hM
  have hM0 := hM
  have hr0 := hr
  have b1 := hI.1
  refine x_iload_n dX8_account_170 rfl ?_
  refine x_switch (tgt := 242) dX8_account_171 re (by rw [if_pos (by omega)]; rfl) (by decide) ?_
  refine x_ldc2 (e := -100000002) dX8_account_242 ctl_RX8_221 (by decide) ?_
  exact x_lreturn dX8_account_245 rfl ⟨Nat.le_refl _, Nat.le_refl _⟩ ⟨rfl, rfl, rfl⟩
theorem acc_end {G : JG} {S : JS} {D : JD} {d : Nat} {M t W P b c w i e : Int} {r : Int → Int} (hM : jMo S M) (hr : D (M + 1) = r) (hI : rIn t r) (ht : t ≤ 60000) (re : i32 e) : JX G yX8_account cX8_account 13 (some .long) (d + 2) (0, 0) (0, 0) S D 170 [some (.inr (.inr (some M))), some (.inl e), some (.inr (.inl W)), none, some (.inr (.inl P)), none, some (.inr (.inl b)), none, some (.inr (.inl c)), none, some (.inr (.inl w)), none, some (.inl i)] [] (jr (.inr (.inl (vAcc e W P b c w r))) S D) := by
  unfold vAcc
  by_cases h0 : e = 0
  · rw [if_pos h0, h0]; exact acc_end_0 hM hr hI ht
  rw [if_neg h0]
  by_cases h1 : e = 1
  · rw [if_pos h1, h1]; exact acc_end_1 hM hr hI ht
  rw [if_neg h1]
  by_cases h2 : e = 2
  · rw [if_pos h2, h2]; exact acc_end_2 hM hr hI ht
  rw [if_neg h2]
  by_cases h3 : e = 3
  · rw [if_pos h3, h3]; exact acc_end_3 hM hr hI ht
  rw [if_neg h3]
  by_cases h4 : e = 4
  · rw [if_pos h4, h4]; exact acc_end_4 hM hr hI ht
  rw [if_neg h4]
  by_cases h5 : e = 5
  · rw [if_pos h5, h5]; exact acc_end_5 hM hr hI ht
  rw [if_neg h5]
  by_cases h6 : e = 6
  · rw [if_pos h6, h6]; exact acc_end_6 hM hr hI ht
  rw [if_neg h6]
  exact acc_end_n hM hr hI ht re (by omega)
theorem acc_loop3 {G : JG} {S : JS} {D : JD} {d : Nat} {M t W P e : Int} {r : Int → Int} (hM : jMo S M) (hr : D (M + 1) = r) (hI : rIn t r) (ht : t ≤ 60000) (re : i32 e) : ∀ (n i : Nat) (b c w : Int), (i : Int) + n = r 2 → b = jsum (fun k => r (70 + 8 * k)) i → c = jsum (fun k => r (69 + 8 * k)) i → w = jsum (sW r) i →
    JX G yX8_account cX8_account 13 (some .long) (d + 2) (0, 0) (0, 0) S D 115 [some (.inr (.inr (some M))), some (.inl e), some (.inr (.inl W)), none, some (.inr (.inl P)), none, some (.inr (.inl b)), none, some (.inr (.inl c)), none, some (.inr (.inl w)), none, some (.inl i)] [] (jr (.inr (.inl (vAcc e W P (jsum (fun k => r (70 + 8 * k)) (r 2).toNat) (jsum (fun k => r (69 + 8 * k)) (r 2).toNat) (jsum (sW r) (r 2).toNat) r))) S D) := by
  intro n
  induction n with
  | zero =>
    intro i b c w hn hb hc hw
    obtain ⟨mk, m0, m1, m2, m4, m5, m8, m12, y1, l1, y2, l2, y3, l3, y4, l4, y5, l5, y6, l6, y7, l7⟩ := id hM
    have hM0 := hM
    have hr0 := hr
    have b1 := hI.1
    have ei : (r 2).toNat = i := by omega
    rw [ei, ← hb, ← hc, ← hw]
    refine x_iload dX8_account_115 rfl ?_
    refine x_aload_n dX8_account_117 rfl ?_
    refine gf_RX8_7 dX8_account_118 rfl (by assumption) ?_
    rw [m0]
    refine x_iconst dX8_account_121 ?_
    refine x_iald dX8_account_122 (by assumption) ⟨by omega, by omega⟩ ?_
    rw [hr]
    refine x_ic_ge (tgt := 170) dX8_account_123 (by decide) ⟨by omega, by omega⟩ ⟨by omega, by omega⟩ (fun hb123 => ?_) (fun h => (h (by omega)).elim)
    exact acc_end hM hr hI ht re
  | succ n ih =>
    intro i b c w hn hb hc hw
    obtain ⟨mk, m0, m1, m2, m4, m5, m8, m12, y1, l1, y2, l2, y3, l3, y4, l4, y5, l5, y6, l6, y7, l7⟩ := id hM
    have hM0 := hM
    have hr0 := hr
    have b1 := hI.1
    have bb := hI.2.2.2.1 (i : Int) (by omega) (by omega)
    unfold rBo at bb
    obtain ⟨bp, w0, w1, -⟩ := hI.bw (k := (i : Int)) (by omega) (by omega)
    refine x_iload dX8_account_115 rfl ?_
    refine x_aload_n dX8_account_117 rfl ?_
    refine gf_RX8_7 dX8_account_118 rfl (by assumption) ?_
    rw [m0]
    refine x_iconst dX8_account_121 ?_
    refine x_iald dX8_account_122 (by assumption) ⟨by omega, by omega⟩ ?_
    rw [hr]
    refine x_ic_ge (tgt := 170) dX8_account_123 (by decide) ⟨by omega, by omega⟩ ⟨by omega, by omega⟩ (fun h => absurd h (by omega)) (fun hb123 => ?_)
    refine x_lload dX8_account_126 rfl ?_
    refine x_aload_n dX8_account_128 rfl ?_
    refine x_iload dX8_account_129 rfl ?_
    refine x_iconst dX8_account_131 ?_
    refine c_RX8_60d dX8_account_132 rfl (kX8_of hM0 hr0 (by omega) (by omega)) (by assumption) (Nat.le_of_ble_eq_true rfl) (Nat.le_of_ble_eq_true rfl) ⟨Nat.le_refl _, Nat.le_refl _⟩ ?_
    rw [show 65 + 8 * (i : Int) + 5 = 70 + 8 * i by omega]
    refine x_i2l dX8_account_135 ⟨by omega, by omega⟩ ?_
    refine x_ladd dX8_account_136 ?_
    refine x_lstore dX8_account_137 (by decide) ?_
    show JX _ _ _ _ _ _ _ _ _ _ _ [_, _, _, _, _, _, _, _, _, _, _, _, _] _ _
    refine x_lload dX8_account_139 rfl ?_
    refine x_aload_n dX8_account_141 rfl ?_
    refine x_iload dX8_account_142 rfl ?_
    refine x_iconst dX8_account_144 ?_
    refine c_RX8_60d dX8_account_145 rfl (kX8_of hM0 hr0 (by omega) (by omega)) (by assumption) (Nat.le_of_ble_eq_true rfl) (Nat.le_of_ble_eq_true rfl) ⟨Nat.le_refl _, Nat.le_refl _⟩ ?_
    rw [show 65 + 8 * (i : Int) + 4 = 69 + 8 * i by omega]
    refine x_i2l dX8_account_148 ⟨by omega, by omega⟩ ?_
    refine x_ladd dX8_account_149 ?_
    refine x_lstore dX8_account_150 (by decide) ?_
    show JX _ _ _ _ _ _ _ _ _ _ _ [_, _, _, _, _, _, _, _, _, _, _, _, _] _ _
    refine x_lload dX8_account_152 rfl ?_
    refine x_aload_n dX8_account_154 rfl ?_
    refine x_iload dX8_account_155 rfl ?_
    refine c_RX8_64d dX8_account_157 rfl (kX8_weight hM0 hr0 (by omega) (by omega)) (by assumption) (Nat.le_of_ble_eq_true rfl) (Nat.le_of_ble_eq_true rfl) ⟨Nat.le_refl _, Nat.le_refl _⟩ ?_
    refine x_i2l dX8_account_160 ⟨by omega, by omega⟩ ?_
    refine x_ladd dX8_account_161 ?_
    refine x_lstore dX8_account_162 (by decide) ?_
    show JX _ _ _ _ _ _ _ _ _ _ _ [_, _, _, _, _, _, _, _, _, _, _, _, _] _ _
    refine x_iinc dX8_account_164 rfl (by decide) ?_
    show JX _ _ _ _ _ _ _ _ _ _ _ [_, _, _, _, _, _, _, _, _, _, _, _, _] _ _
    refine x_goto (tgt := 115) dX8_account_167 (by decide) ?_
    exact ih (i + 1) _ _ _ (by omega) (by rw [hb]; rfl) (by rw [hc]; rfl) (by rw [hw]; rfl)
theorem acc_loop2 {G : JG} {S : JS} {D : JD} {d : Nat} {M t e : Int} {r : Int → Int} (hM : jMo S M) (hr : D (M + 1) = r) (hI : rIn t r) (ht : t ≤ 60000) (re : i32 e) : ∀ (n i : Nat) (x y : Int), (i : Int) + n = r 1 → x = jsum (fun i => r (8 + 3 * i)) (r 0).toNat + jsum (fun c => r (23 + 11 * c)) i → y = jsum (fun c => r (30 + 11 * c) + r (31 + 11 * c)) i →
    JX G yX8_account cX8_account 13 (some .long) (d + 2) (0, 0) (0, 0) S D 44 [some (.inr (.inr (some M))), some (.inl e), some (.inr (.inl x)), none, some (.inr (.inl y)), none, some (.inl i), none, none, none, none, none, none] [] (jr (.inr (.inl (vAcc e (jsum (fun i => r (8 + 3 * i)) (r 0).toNat + jsum (fun c => r (23 + 11 * c)) (r 1).toNat) (jsum (fun c => r (30 + 11 * c) + r (31 + 11 * c)) (r 1).toNat) (jsum (fun k => r (70 + 8 * k)) (r 2).toNat) (jsum (fun k => r (69 + 8 * k)) (r 2).toNat) (jsum (sW r) (r 2).toNat) r))) S D) := by
  intro n
  induction n with
  | zero =>
    intro i x y hn hx hy
    obtain ⟨mk, m0, m1, m2, m4, m5, m8, m12, y1, l1, y2, l2, y3, l3, y4, l4, y5, l5, y6, l6, y7, l7⟩ := id hM
    have hM0 := hM
    have hr0 := hr
    have b1 := hI.1
    have ei : (r 1).toNat = i := by omega
    rw [ei, ← hx, ← hy]
    refine x_iload dX8_account_44 rfl ?_
    refine x_aload_n dX8_account_46 rfl ?_
    refine gf_RX8_7 dX8_account_47 rfl (by assumption) ?_
    rw [m0]
    refine x_iconst dX8_account_50 ?_
    refine x_iald dX8_account_51 (by assumption) ⟨by omega, by omega⟩ ?_
    rw [hr]
    refine x_ic_ge (tgt := 103) dX8_account_52 (by decide) ⟨by omega, by omega⟩ ⟨by omega, by omega⟩ (fun hb52 => ?_) (fun h => (h (by omega)).elim)
    refine x_lconst (e := 0) dX8_account_103 (by decide) ?_
    refine x_lstore dX8_account_104 (by decide) ?_
    show JX _ _ _ _ _ _ _ _ _ _ _ [_, _, _, _, _, _, _, _, _, _, _, _, _] _ _
    refine x_lconst (e := 0) dX8_account_106 (by decide) ?_
    refine x_lstore dX8_account_107 (by decide) ?_
    show JX _ _ _ _ _ _ _ _ _ _ _ [_, _, _, _, _, _, _, _, _, _, _, _, _] _ _
    refine x_lconst (e := 0) dX8_account_109 (by decide) ?_
    refine x_lstore dX8_account_110 (by decide) ?_
    show JX _ _ _ _ _ _ _ _ _ _ _ [_, _, _, _, _, _, _, _, _, _, _, _, _] _ _
    refine x_iconst dX8_account_112 ?_
    refine x_istore dX8_account_113 (by decide) ?_
    show JX _ _ _ _ _ _ _ _ _ _ _ [_, _, _, _, _, _, _, _, _, _, _, _, _] _ _
    exact acc_loop3 hM hr hI ht re (r 2).toNat 0 0 0 0 (by omega) rfl rfl rfl
  | succ n ih =>
    intro i x y hn hx hy
    obtain ⟨mk, m0, m1, m2, m4, m5, m8, m12, y1, l1, y2, l2, y3, l3, y4, l4, y5, l5, y6, l6, y7, l7⟩ := id hM
    have hM0 := hM
    have hr0 := hr
    have b1 := hI.1
    have co := (hI.2.2.1 (i : Int) (by omega) (by omega)).2
    unfold rCo at co
    have mw := (hI.maxw (by omega)).2.2 (i : Int) (by omega) (by omega)
    have ac := hI.ac (c := (i : Int)) (by omega) (by omega)
    refine x_iload dX8_account_44 rfl ?_
    refine x_aload_n dX8_account_46 rfl ?_
    refine gf_RX8_7 dX8_account_47 rfl (by assumption) ?_
    rw [m0]
    refine x_iconst dX8_account_50 ?_
    refine x_iald dX8_account_51 (by assumption) ⟨by omega, by omega⟩ ?_
    rw [hr]
    refine x_ic_ge (tgt := 103) dX8_account_52 (by decide) ⟨by omega, by omega⟩ ⟨by omega, by omega⟩ (fun h => absurd h (by omega)) (fun hb52 => ?_)
    refine x_lload_n dX8_account_55 rfl ?_
    refine x_aload_n dX8_account_56 rfl ?_
    refine gf_RX8_7 dX8_account_57 rfl (by assumption) ?_
    rw [m0]
    refine x_bipush dX8_account_60 (by decide) ?_
    refine x_iload dX8_account_62 rfl ?_
    refine x_iadd dX8_account_64 ?_
    refine c_RX8_68d dX8_account_65 rfl (kX8_waterAt ⟨by omega, by omega⟩) (Nat.le_of_ble_eq_true rfl) (Nat.le_of_ble_eq_true rfl) ⟨Nat.le_refl _, Nat.le_refl _⟩ ?_
    rw [wA_c (by omega)]
    refine x_iconst dX8_account_68 ?_
    refine x_iadd dX8_account_69 ?_
    rw [show 21 + 11 * (i : Int) + 2 = 23 + 11 * i by omega]
    refine x_iald dX8_account_70 (by assumption) ⟨by omega, by omega⟩ ?_
    rw [hr]
    refine x_i2l dX8_account_71 ⟨by omega, by omega⟩ ?_
    refine x_ladd dX8_account_72 ?_
    refine x_lstore_n dX8_account_73 (by decide) ?_
    show JX _ _ _ _ _ _ _ _ _ _ _ [_, _, _, _, _, _, _, _, _, _, _, _, _] _ _
    refine x_lload dX8_account_74 rfl ?_
    refine x_aload_n dX8_account_76 rfl ?_
    refine x_iload dX8_account_77 rfl ?_
    refine x_bipush dX8_account_79 (by decide) ?_
    refine c_RX8_89d dX8_account_81 rfl (kX8_chamberOf hM0 hr0 (by omega) (by omega)) (by assumption) (Nat.le_of_ble_eq_true rfl) (Nat.le_of_ble_eq_true rfl) ⟨Nat.le_refl _, Nat.le_refl _⟩ ?_
    rw [show 21 + 11 * (i : Int) + 9 = 30 + 11 * i by omega]
    refine x_aload_n dX8_account_84 rfl ?_
    refine x_iload dX8_account_85 rfl ?_
    refine x_bipush dX8_account_87 (by decide) ?_
    refine c_RX8_89d dX8_account_89 rfl (kX8_chamberOf hM0 hr0 (by omega) (by omega)) (by assumption) (Nat.le_of_ble_eq_true rfl) (Nat.le_of_ble_eq_true rfl) ⟨Nat.le_refl _, Nat.le_refl _⟩ ?_
    rw [show 21 + 11 * (i : Int) + 10 = 31 + 11 * i by omega]
    refine x_iadd dX8_account_92 ?_
    refine x_i2l dX8_account_93 ⟨by omega, by omega⟩ ?_
    refine x_ladd dX8_account_94 ?_
    refine x_lstore dX8_account_95 (by decide) ?_
    show JX _ _ _ _ _ _ _ _ _ _ _ [_, _, _, _, _, _, _, _, _, _, _, _, _] _ _
    refine x_iinc dX8_account_97 rfl (by decide) ?_
    show JX _ _ _ _ _ _ _ _ _ _ _ [_, _, _, _, _, _, _, _, _, _, _, _, _] _ _
    refine x_goto (tgt := 44) dX8_account_100 (by decide) ?_
    exact ih (i + 1) _ _ (by omega) (by rw [hx, jsum_nat]; omega) (by rw [hy]; rfl)
theorem acc_loop1 {G : JG} {S : JS} {D : JD} {d : Nat} {M t e : Int} {r : Int → Int} (hM : jMo S M) (hr : D (M + 1) = r) (hI : rIn t r) (ht : t ≤ 60000) (re : i32 e) : ∀ (n i : Nat) (x : Int), (i : Int) + n = r 0 → x = jsum (fun i => r (8 + 3 * i)) i →
    JX G yX8_account cX8_account 13 (some .long) (d + 2) (0, 0) (0, 0) S D 5 [some (.inr (.inr (some M))), some (.inl e), some (.inr (.inl x)), none, some (.inl i), none, none, none, none, none, none, none, none] [] (jr (.inr (.inl (vAcc e (jsum (fun i => r (8 + 3 * i)) (r 0).toNat + jsum (fun c => r (23 + 11 * c)) (r 1).toNat) (jsum (fun c => r (30 + 11 * c) + r (31 + 11 * c)) (r 1).toNat) (jsum (fun k => r (70 + 8 * k)) (r 2).toNat) (jsum (fun k => r (69 + 8 * k)) (r 2).toNat) (jsum (sW r) (r 2).toNat) r))) S D) := by
  intro n
  induction n with
  | zero =>
    intro i x hn hx
    obtain ⟨mk, m0, m1, m2, m4, m5, m8, m12, y1, l1, y2, l2, y3, l3, y4, l4, y5, l5, y6, l6, y7, l7⟩ := id hM
    have hM0 := hM
    have hr0 := hr
    have b1 := hI.1
    have ei : (r 0).toNat = i := by omega
    have hx2 : x = jsum (fun i => r (8 + 3 * i)) (r 0).toNat + jsum (fun c => r (23 + 11 * c)) 0 := by rw [ei, hx]; exact (Int.add_zero _).symm
    refine x_iload dX8_account_5 rfl ?_
    refine x_aload_n dX8_account_7 rfl ?_
    refine gf_RX8_7 dX8_account_8 rfl (by assumption) ?_
    rw [m0]
    refine x_iconst dX8_account_11 ?_
    refine x_iald dX8_account_12 (by assumption) ⟨by omega, by omega⟩ ?_
    rw [hr]
    refine x_ic_ge (tgt := 38) dX8_account_13 (by decide) ⟨by omega, by omega⟩ ⟨by omega, by omega⟩ (fun hb13 => ?_) (fun h => (h (by omega)).elim)
    refine x_lconst (e := 0) dX8_account_38 (by decide) ?_
    refine x_lstore dX8_account_39 (by decide) ?_
    show JX _ _ _ _ _ _ _ _ _ _ _ [_, _, _, _, _, _, _, _, _, _, _, _, _] _ _
    refine x_iconst dX8_account_41 ?_
    refine x_istore dX8_account_42 (by decide) ?_
    show JX _ _ _ _ _ _ _ _ _ _ _ [_, _, _, _, _, _, _, _, _, _, _, _, _] _ _
    exact acc_loop2 hM hr hI ht re (r 1).toNat 0 _ 0 (by omega) hx2 rfl
  | succ n ih =>
    intro i x hn hx
    obtain ⟨mk, m0, m1, m2, m4, m5, m8, m12, y1, l1, y2, l2, y3, l3, y4, l4, y5, l5, y6, l6, y7, l7⟩ := id hM
    have hM0 := hM
    have hr0 := hr
    have b1 := hI.1
    have mw := (hI.maxw (by omega)).2.1 (i : Int) (by omega) (by omega)
    have ar := hI.ar (i := (i : Int)) (by omega) (by omega)
    refine x_iload dX8_account_5 rfl ?_
    refine x_aload_n dX8_account_7 rfl ?_
    refine gf_RX8_7 dX8_account_8 rfl (by assumption) ?_
    rw [m0]
    refine x_iconst dX8_account_11 ?_
    refine x_iald dX8_account_12 (by assumption) ⟨by omega, by omega⟩ ?_
    rw [hr]
    refine x_ic_ge (tgt := 38) dX8_account_13 (by decide) ⟨by omega, by omega⟩ ⟨by omega, by omega⟩ (fun h => absurd h (by omega)) (fun hb13 => ?_)
    refine x_lload_n dX8_account_16 rfl ?_
    refine x_aload_n dX8_account_17 rfl ?_
    refine gf_RX8_7 dX8_account_18 rfl (by assumption) ?_
    rw [m0]
    refine x_iload dX8_account_21 rfl ?_
    refine c_RX8_68d dX8_account_23 rfl (kX8_waterAt ⟨by omega, by omega⟩) (Nat.le_of_ble_eq_true rfl) (Nat.le_of_ble_eq_true rfl) ⟨Nat.le_refl _, Nat.le_refl _⟩ ?_
    rw [wA_r (by omega)]
    refine x_iconst dX8_account_26 ?_
    refine x_iadd dX8_account_27 ?_
    rw [show 6 + 3 * (i : Int) + 2 = 8 + 3 * i by omega]
    refine x_iald dX8_account_28 (by assumption) ⟨by omega, by omega⟩ ?_
    rw [hr]
    refine x_i2l dX8_account_29 ⟨by omega, by omega⟩ ?_
    refine x_ladd dX8_account_30 ?_
    refine x_lstore_n dX8_account_31 (by decide) ?_
    show JX _ _ _ _ _ _ _ _ _ _ _ [_, _, _, _, _, _, _, _, _, _, _, _, _] _ _
    refine x_iinc dX8_account_32 rfl (by decide) ?_
    show JX _ _ _ _ _ _ _ _ _ _ _ [_, _, _, _, _, _, _, _, _, _, _, _, _] _ _
    refine x_goto (tgt := 5) dX8_account_35 (by decide) ?_
    exact ih (i + 1) _ (by omega) (by rw [hx]; rfl)
theorem vAcc_z {t e : Int} {r : Int → Int} (hI : rIn t r) : vAcc e (jsum (fun i => r (8 + 3 * i)) (r 0).toNat + jsum (fun c => r (23 + 11 * c)) (r 1).toNat) (jsum (fun c => r (30 + 11 * c) + r (31 + 11 * c)) (r 1).toNat) (jsum (fun k => r (70 + 8 * k)) (r 2).toNat) (jsum (fun k => r (69 + 8 * k)) (r 2).toNat) (jsum (sW r) (r 2).toNat) r = zAccount e r := by
  unfold vAcc zAccount
  rw [hI.wx, hI.2.2.2.2.2]
theorem kX8_account {G : JG} {S : JS} {D : JD} {d : Nat} {M t : Int} {r : Int → Int} {e : Int} (hM : jMo S M) (hr : D (M + 1) = r) (hI : rIn t r) (ht : t ≤ 60000) (re : i32 e) : JM G yX8_account cX8_account 13 (some .long) (d + 2) (0, 0) S D [.inr (.inr (some M)), .inl e] (jr (.inr (.inl (zAccount e r))) S D) := by
  have b1 := hI.1
  rw [← vAcc_z hI]
  show JX _ _ _ _ _ _ _ _ _ _ _ [_, _, _, _, _, _, _, _, _, _, _, _, _] _ _
  refine x_lconst (e := 0) dX8_account_0 (by decide) ?_
  refine x_lstore_n dX8_account_1 (by decide) ?_
  show JX _ _ _ _ _ _ _ _ _ _ _ [_, _, _, _, _, _, _, _, _, _, _, _, _] _ _
  refine x_iconst dX8_account_2 ?_
  refine x_istore dX8_account_3 (by decide) ?_
  show JX _ _ _ _ _ _ _ _ _ _ _ [_, _, _, _, _, _, _, _, _, _, _, _, _] _ _
  exact acc_loop1 hM hr hI ht re (r 0).toNat 0 0 (by omega) rfl
def vCnt (e o g l q n z : Int) (r : Int → Int) : Int := if e = 0 then r 0 else if e = 1 then r 1 else if e = 2 then r 2 else if e = 3 then o else if e = 4 then g else if e = 5 then l else if e = 6 then r 3 else if e = 7 then q else if e = 8 then n else if e = 9 then z else -100000002
theorem cnt_end_0 {G : JG} {S : JS} {D : JD} {d : Nat} {M t o g l i : Int} {r : Int → Int} (hM : jMo S M) (hr : D (M + 1) = r) (hI : rIn t r) (ht : t ≤ 60000) : JX G yX8_count cX8_count 6 (some .int) (d + 5) (0, 0) (0, 0) S D 101 [some (.inr (.inr (some M))), some (.inl 0), some (.inl o), some (.inl g), some (.inl l), some (.inl i)] [] (jr (.inl (r 0)) S D) := by
  obtain ⟨mk, m0, m1, m2, m4, m5, m8, m12, y1, l1, y2, l2, y3, l3, y4, l4, y5, l5, y6, l6, y7, l7⟩ := id hM
  have hM0 := hM
  have hr0 := hr
  have b1 := hI.1
  refine x_iload_n dX8_count_101 rfl ?_
  refine x_switch (tgt := 156) dX8_count_102 ⟨by omega, by omega⟩ (by decide) (by decide) ?_
  refine x_aload_n dX8_count_156 rfl ?_
  refine gf_RX8_7 dX8_count_157 rfl (by assumption) ?_
  rw [m0]
  refine x_iconst dX8_count_160 ?_
  refine x_iald dX8_count_161 (by assumption) ⟨by omega, by omega⟩ ?_
  rw [hr]
  exact x_ireturn dX8_count_162 rfl rfl ⟨Nat.le_refl _, Nat.le_refl _⟩ ⟨rfl, rfl, rfl⟩
theorem cnt_end_1 {G : JG} {S : JS} {D : JD} {d : Nat} {M t o g l i : Int} {r : Int → Int} (hM : jMo S M) (hr : D (M + 1) = r) (hI : rIn t r) (ht : t ≤ 60000) : JX G yX8_count cX8_count 6 (some .int) (d + 5) (0, 0) (0, 0) S D 101 [some (.inr (.inr (some M))), some (.inl 1), some (.inl o), some (.inl g), some (.inl l), some (.inl i)] [] (jr (.inl (r 1)) S D) := by
  obtain ⟨mk, m0, m1, m2, m4, m5, m8, m12, y1, l1, y2, l2, y3, l3, y4, l4, y5, l5, y6, l6, y7, l7⟩ := id hM
  have hM0 := hM
  have hr0 := hr
  have b1 := hI.1
  refine x_iload_n dX8_count_101 rfl ?_
  refine x_switch (tgt := 163) dX8_count_102 ⟨by omega, by omega⟩ (by decide) (by decide) ?_
  refine x_aload_n dX8_count_163 rfl ?_
  refine gf_RX8_7 dX8_count_164 rfl (by assumption) ?_
  rw [m0]
  refine x_iconst dX8_count_167 ?_
  refine x_iald dX8_count_168 (by assumption) ⟨by omega, by omega⟩ ?_
  rw [hr]
  exact x_ireturn dX8_count_169 rfl rfl ⟨Nat.le_refl _, Nat.le_refl _⟩ ⟨rfl, rfl, rfl⟩
theorem cnt_end_2 {G : JG} {S : JS} {D : JD} {d : Nat} {M t o g l i : Int} {r : Int → Int} (hM : jMo S M) (hr : D (M + 1) = r) (hI : rIn t r) (ht : t ≤ 60000) : JX G yX8_count cX8_count 6 (some .int) (d + 5) (0, 0) (0, 0) S D 101 [some (.inr (.inr (some M))), some (.inl 2), some (.inl o), some (.inl g), some (.inl l), some (.inl i)] [] (jr (.inl (r 2)) S D) := by
  obtain ⟨mk, m0, m1, m2, m4, m5, m8, m12, y1, l1, y2, l2, y3, l3, y4, l4, y5, l5, y6, l6, y7, l7⟩ := id hM
  have hM0 := hM
  have hr0 := hr
  have b1 := hI.1
  refine x_iload_n dX8_count_101 rfl ?_
  refine x_switch (tgt := 170) dX8_count_102 ⟨by omega, by omega⟩ (by decide) (by decide) ?_
  refine x_aload_n dX8_count_170 rfl ?_
  refine gf_RX8_7 dX8_count_171 rfl (by assumption) ?_
  rw [m0]
  refine x_iconst dX8_count_174 ?_
  refine x_iald dX8_count_175 (by assumption) ⟨by omega, by omega⟩ ?_
  rw [hr]
  exact x_ireturn dX8_count_176 rfl rfl ⟨Nat.le_refl _, Nat.le_refl _⟩ ⟨rfl, rfl, rfl⟩
theorem cnt_end_3 {G : JG} {S : JS} {D : JD} {d : Nat} {M t o g l i : Int} {r : Int → Int} (hM : jMo S M) (hr : D (M + 1) = r) (hI : rIn t r) (ht : t ≤ 60000) : JX G yX8_count cX8_count 6 (some .int) (d + 5) (0, 0) (0, 0) S D 101 [some (.inr (.inr (some M))), some (.inl 3), some (.inl o), some (.inl g), some (.inl l), some (.inl i)] [] (jr (.inl (o)) S D) := by
  obtain ⟨mk, m0, m1, m2, m4, m5, m8, m12, y1, l1, y2, l2, y3, l3, y4, l4, y5, l5, y6, l6, y7, l7⟩ := id hM
  have hM0 := hM
  have hr0 := hr
  have b1 := hI.1
  refine x_iload_n dX8_count_101 rfl ?_
  refine x_switch (tgt := 177) dX8_count_102 ⟨by omega, by omega⟩ (by decide) (by decide) ?_
  refine x_iload_n dX8_count_177 rfl ?_
  exact x_ireturn dX8_count_178 rfl rfl ⟨Nat.le_refl _, Nat.le_refl _⟩ ⟨rfl, rfl, rfl⟩
theorem cnt_end_4 {G : JG} {S : JS} {D : JD} {d : Nat} {M t o g l i : Int} {r : Int → Int} (hM : jMo S M) (hr : D (M + 1) = r) (hI : rIn t r) (ht : t ≤ 60000) : JX G yX8_count cX8_count 6 (some .int) (d + 5) (0, 0) (0, 0) S D 101 [some (.inr (.inr (some M))), some (.inl 4), some (.inl o), some (.inl g), some (.inl l), some (.inl i)] [] (jr (.inl (g)) S D) := by
  obtain ⟨mk, m0, m1, m2, m4, m5, m8, m12, y1, l1, y2, l2, y3, l3, y4, l4, y5, l5, y6, l6, y7, l7⟩ := id hM
  have hM0 := hM
  have hr0 := hr
  have b1 := hI.1
  refine x_iload_n dX8_count_101 rfl ?_
  refine x_switch (tgt := 179) dX8_count_102 ⟨by omega, by omega⟩ (by decide) (by decide) ?_
  refine x_iload_n dX8_count_179 rfl ?_
  exact x_ireturn dX8_count_180 rfl rfl ⟨Nat.le_refl _, Nat.le_refl _⟩ ⟨rfl, rfl, rfl⟩
theorem cnt_end_5 {G : JG} {S : JS} {D : JD} {d : Nat} {M t o g l i : Int} {r : Int → Int} (hM : jMo S M) (hr : D (M + 1) = r) (hI : rIn t r) (ht : t ≤ 60000) : JX G yX8_count cX8_count 6 (some .int) (d + 5) (0, 0) (0, 0) S D 101 [some (.inr (.inr (some M))), some (.inl 5), some (.inl o), some (.inl g), some (.inl l), some (.inl i)] [] (jr (.inl (l)) S D) := by
  obtain ⟨mk, m0, m1, m2, m4, m5, m8, m12, y1, l1, y2, l2, y3, l3, y4, l4, y5, l5, y6, l6, y7, l7⟩ := id hM
  have hM0 := hM
  have hr0 := hr
  have b1 := hI.1
  refine x_iload_n dX8_count_101 rfl ?_
  refine x_switch (tgt := 181) dX8_count_102 ⟨by omega, by omega⟩ (by decide) (by decide) ?_
  refine x_iload dX8_count_181 rfl ?_
  exact x_ireturn dX8_count_183 rfl rfl ⟨Nat.le_refl _, Nat.le_refl _⟩ ⟨rfl, rfl, rfl⟩
theorem cnt_end_6 {G : JG} {S : JS} {D : JD} {d : Nat} {M t o g l i : Int} {r : Int → Int} (hM : jMo S M) (hr : D (M + 1) = r) (hI : rIn t r) (ht : t ≤ 60000) : JX G yX8_count cX8_count 6 (some .int) (d + 5) (0, 0) (0, 0) S D 101 [some (.inr (.inr (some M))), some (.inl 6), some (.inl o), some (.inl g), some (.inl l), some (.inl i)] [] (jr (.inl (r 3)) S D) := by
  obtain ⟨mk, m0, m1, m2, m4, m5, m8, m12, y1, l1, y2, l2, y3, l3, y4, l4, y5, l5, y6, l6, y7, l7⟩ := id hM
  have hM0 := hM
  have hr0 := hr
  have b1 := hI.1
  refine x_iload_n dX8_count_101 rfl ?_
  refine x_switch (tgt := 184) dX8_count_102 ⟨by omega, by omega⟩ (by decide) (by decide) ?_
  refine x_aload_n dX8_count_184 rfl ?_
  refine gf_RX8_7 dX8_count_185 rfl (by assumption) ?_
  rw [m0]
  refine x_iconst dX8_count_188 ?_
  refine x_iald dX8_count_189 (by assumption) ⟨by omega, by omega⟩ ?_
  rw [hr]
  exact x_ireturn dX8_count_190 rfl rfl ⟨Nat.le_refl _, Nat.le_refl _⟩ ⟨rfl, rfl, rfl⟩
theorem cnt_end_7 {G : JG} {S : JS} {D : JD} {d : Nat} {M t o g l i : Int} {r : Int → Int} (hM : jMo S M) (hr : D (M + 1) = r) (hI : rIn t r) (ht : t ≤ 60000) : JX G yX8_count cX8_count 6 (some .int) (d + 5) (0, 0) (0, 0) S D 101 [some (.inr (.inr (some M))), some (.inl 7), some (.inl o), some (.inl g), some (.inl l), some (.inl i)] [] (jr (.inl (D M 6)) S D) := by
  obtain ⟨mk, m0, m1, m2, m4, m5, m8, m12, y1, l1, y2, l2, y3, l3, y4, l4, y5, l5, y6, l6, y7, l7⟩ := id hM
  have hM0 := hM
  have hr0 := hr
  have b1 := hI.1
  refine x_iload_n dX8_count_101 rfl ?_
  refine x_switch (tgt := 191) dX8_count_102 ⟨by omega, by omega⟩ (by decide) (by decide) ?_
  refine x_aload_n dX8_count_191 rfl ?_
  refine gf_RX8_33 dX8_count_192 rfl (by assumption) ?_
  exact x_ireturn dX8_count_195 rfl rfl ⟨Nat.le_refl _, Nat.le_refl _⟩ ⟨rfl, rfl, rfl⟩
theorem cnt_end_8 {G : JG} {S : JS} {D : JD} {d : Nat} {M t o g l i : Int} {r : Int → Int} (hM : jMo S M) (hr : D (M + 1) = r) (hI : rIn t r) (ht : t ≤ 60000) : JX G yX8_count cX8_count 6 (some .int) (d + 5) (0, 0) (0, 0) S D 101 [some (.inr (.inr (some M))), some (.inl 8), some (.inl o), some (.inl g), some (.inl l), some (.inl i)] [] (jr (.inl (D M 3)) S D) := by
  obtain ⟨mk, m0, m1, m2, m4, m5, m8, m12, y1, l1, y2, l2, y3, l3, y4, l4, y5, l5, y6, l6, y7, l7⟩ := id hM
  have hM0 := hM
  have hr0 := hr
  have b1 := hI.1
  refine x_iload_n dX8_count_101 rfl ?_
  refine x_switch (tgt := 196) dX8_count_102 ⟨by omega, by omega⟩ (by decide) (by decide) ?_
  refine x_aload_n dX8_count_196 rfl ?_
  refine gf_RX8_38 dX8_count_197 rfl (by assumption) ?_
  exact x_ireturn dX8_count_200 rfl rfl ⟨Nat.le_refl _, Nat.le_refl _⟩ ⟨rfl, rfl, rfl⟩
theorem cnt_end_9 {G : JG} {S : JS} {D : JD} {d : Nat} {M t o g l i : Int} {r : Int → Int} (hM : jMo S M) (hr : D (M + 1) = r) (hI : rIn t r) (ht : t ≤ 60000) : JX G yX8_count cX8_count 6 (some .int) (d + 5) (0, 0) (0, 0) S D 101 [some (.inr (.inr (some M))), some (.inl 9), some (.inl o), some (.inl g), some (.inl l), some (.inl i)] [] (jr (.inl (D M 7)) S D) := by
  obtain ⟨mk, m0, m1, m2, m4, m5, m8, m12, y1, l1, y2, l2, y3, l3, y4, l4, y5, l5, y6, l6, y7, l7⟩ := id hM
  have hM0 := hM
  have hr0 := hr
  have b1 := hI.1
  refine x_iload_n dX8_count_101 rfl ?_
  refine x_switch (tgt := 201) dX8_count_102 ⟨by omega, by omega⟩ (by decide) (by decide) ?_
  refine x_aload_n dX8_count_201 rfl ?_
  refine gf_RX8_180 dX8_count_202 rfl (by assumption) ?_
  exact x_ireturn dX8_count_205 rfl rfl ⟨Nat.le_refl _, Nat.le_refl _⟩ ⟨rfl, rfl, rfl⟩
theorem cnt_end_n {G : JG} {S : JS} {D : JD} {d : Nat} {M t o g l i e : Int} {r : Int → Int} (hM : jMo S M) (hr : D (M + 1) = r) (hI : rIn t r) (ht : t ≤ 60000) (re : i32 e) (he : e < 0 ∨ 9 < e) : JX G yX8_count cX8_count 6 (some .int) (d + 5) (0, 0) (0, 0) S D 101 [some (.inr (.inr (some M))), some (.inl e), some (.inl o), some (.inl g), some (.inl l), some (.inl i)] [] (jr (.inl (-100000002)) S D) := by
  obtain ⟨mk, m0, m1, m2, m4, m5, m8, m12, y1, l1, y2, l2, y3, l3, y4, l4, y5, l5, y6, l6, y7, l7⟩ := id hM
  have hM0 := hM
  have hr0 := hr
  have b1 := hI.1
  refine x_iload_n dX8_count_101 rfl ?_
  refine x_switch (tgt := 206) dX8_count_102 re (by rw [if_pos (by omega)]; rfl) (by decide) ?_
  refine x_ldc (e := -100000002) dX8_count_206 ct_RX8_104 (by decide) ?_
  exact x_ireturn dX8_count_208 rfl rfl ⟨Nat.le_refl _, Nat.le_refl _⟩ ⟨rfl, rfl, rfl⟩
theorem cnt_end {G : JG} {S : JS} {D : JD} {d : Nat} {M t o g l i e : Int} {r : Int → Int} (hM : jMo S M) (hr : D (M + 1) = r) (hI : rIn t r) (ht : t ≤ 60000) (re : i32 e) : JX G yX8_count cX8_count 6 (some .int) (d + 5) (0, 0) (0, 0) S D 101 [some (.inr (.inr (some M))), some (.inl e), some (.inl o), some (.inl g), some (.inl l), some (.inl i)] [] (jr (.inl (vCnt e o g l (D M 6) (D M 3) (D M 7) r)) S D) := by
  unfold vCnt
  by_cases h0 : e = 0
  · rw [if_pos h0, h0]; exact cnt_end_0 hM hr hI ht
  rw [if_neg h0]
  by_cases h1 : e = 1
  · rw [if_pos h1, h1]; exact cnt_end_1 hM hr hI ht
  rw [if_neg h1]
  by_cases h2 : e = 2
  · rw [if_pos h2, h2]; exact cnt_end_2 hM hr hI ht
  rw [if_neg h2]
  by_cases h3 : e = 3
  · rw [if_pos h3, h3]; exact cnt_end_3 hM hr hI ht
  rw [if_neg h3]
  by_cases h4 : e = 4
  · rw [if_pos h4, h4]; exact cnt_end_4 hM hr hI ht
  rw [if_neg h4]
  by_cases h5 : e = 5
  · rw [if_pos h5, h5]; exact cnt_end_5 hM hr hI ht
  rw [if_neg h5]
  by_cases h6 : e = 6
  · rw [if_pos h6, h6]; exact cnt_end_6 hM hr hI ht
  rw [if_neg h6]
  by_cases h7 : e = 7
  · rw [if_pos h7, h7]; exact cnt_end_7 hM hr hI ht
  rw [if_neg h7]
  by_cases h8 : e = 8
  · rw [if_pos h8, h8]; exact cnt_end_8 hM hr hI ht
  rw [if_neg h8]
  by_cases h9 : e = 9
  · rw [if_pos h9, h9]; exact cnt_end_9 hM hr hI ht
  rw [if_neg h9]
  exact cnt_end_n hM hr hI ht re (by omega)
theorem cnt_loop2 {G : JG} {S : JS} {D : JD} {d : Nat} {M t o e : Int} {r : Int → Int} (hM : jMo S M) (hr : D (M + 1) = r) (hI : rIn t r) (ht : t ≤ 60000) (re : i32 e) : ∀ (n i : Nat) (g l : Int), (i : Int) + n = r 2 → g = jsum (tAgr r) i → l = jsum (fun b => if 100 ≤ r (71 + 8 * b) then 1 else 0) i → (0 ≤ g ∧ g ≤ i ∧ 0 ≤ l ∧ l ≤ i) →
    JX G yX8_count cX8_count 6 (some .int) (d + 5) (0, 0) (0, 0) S D 44 [some (.inr (.inr (some M))), some (.inl e), some (.inl o), some (.inl g), some (.inl l), some (.inl i)] [] (jr (.inl (vCnt e o (jsum (tAgr r) (r 2).toNat) (jsum (fun b => if 100 ≤ r (71 + 8 * b) then 1 else 0) (r 2).toNat) (D M 6) (D M 3) (D M 7) r)) S D) := by
  intro n
  induction n with
  | zero =>
    intro i g l hn hg hl hb2
    obtain ⟨mk, m0, m1, m2, m4, m5, m8, m12, y1, l1, y2, l2, y3, l3, y4, l4, y5, l5, y6, l6, y7, l7⟩ := id hM
    have hM0 := hM
    have hr0 := hr
    have b1 := hI.1
    have ei : (r 2).toNat = i := by omega
    rw [ei, ← hg, ← hl]
    refine x_iload dX8_count_44 rfl ?_
    refine x_aload_n dX8_count_46 rfl ?_
    refine gf_RX8_7 dX8_count_47 rfl (by assumption) ?_
    rw [m0]
    refine x_iconst dX8_count_50 ?_
    refine x_iald dX8_count_51 (by assumption) ⟨by omega, by omega⟩ ?_
    rw [hr]
    refine x_ic_ge (tgt := 101) dX8_count_52 (by decide) ⟨by omega, by omega⟩ ⟨by omega, by omega⟩ (fun hb52 => ?_) (fun h => (h (by omega)).elim)
    exact cnt_end hM hr hI ht re
  | succ n ih =>
    intro i g l hn hg hl hb2
    obtain ⟨mk, m0, m1, m2, m4, m5, m8, m12, y1, l1, y2, l2, y3, l3, y4, l4, y5, l5, y6, l6, y7, l7⟩ := id hM
    have hM0 := hM
    have hr0 := hr
    have b1 := hI.1
    obtain ⟨bp, w0, w1, -⟩ := hI.bw (k := (i : Int)) (by omega) (by omega)
    unfold rPl at bp
    refine x_iload dX8_count_44 rfl ?_
    refine x_aload_n dX8_count_46 rfl ?_
    refine gf_RX8_7 dX8_count_47 rfl (by assumption) ?_
    rw [m0]
    refine x_iconst dX8_count_50 ?_
    refine x_iald dX8_count_51 (by assumption) ⟨by omega, by omega⟩ ?_
    rw [hr]
    refine x_ic_ge (tgt := 101) dX8_count_52 (by decide) ⟨by omega, by omega⟩ ⟨by omega, by omega⟩ (fun h => absurd h (by omega)) (fun hb52 => ?_)
    refine x_iload_n dX8_count_55 rfl ?_
    refine x_aload_n dX8_count_56 rfl ?_
    refine x_iload dX8_count_57 rfl ?_
    refine c_RX8_162d dX8_count_59 rfl (kX8_isAground hM0 hr0 hI ht (by omega) (by omega)) (by assumption) (Nat.le_of_ble_eq_true rfl) (Nat.le_of_ble_eq_true rfl) ⟨Nat.le_refl _, Nat.le_refl _⟩ ?_
    refine x_if_eq (tgt := 69) dX8_count_62 (by decide) ⟨by split <;> omega, by split <;> omega⟩ (fun hb62 => ?_) (fun hb62 => ?_)
    · refine x_iconst dX8_count_69 ?_
      refine x_iadd dX8_count_70 ?_
      refine x_istore_n dX8_count_71 (by decide) ?_
      show JX _ _ _ _ _ _ _ _ _ _ _ [_, _, _, _, _, _] _ _
      refine x_iload dX8_count_72 rfl ?_
      refine x_aload_n dX8_count_74 rfl ?_
      refine x_iload dX8_count_75 rfl ?_
      refine x_bipush dX8_count_77 (by decide) ?_
      refine c_RX8_60d dX8_count_79 rfl (kX8_of hM0 hr0 (by omega) (by omega)) (by assumption) (Nat.le_of_ble_eq_true rfl) (Nat.le_of_ble_eq_true rfl) ⟨Nat.le_refl _, Nat.le_refl _⟩ ?_
      rw [show 65 + 8 * (i : Int) + 6 = 71 + 8 * i by omega]
      refine x_bipush dX8_count_82 (by decide) ?_
      refine x_ic_lt (tgt := 91) dX8_count_84 (by decide) ⟨by omega, by omega⟩ ⟨by omega, by omega⟩ (fun hb84 => ?_) (fun hb84 => ?_)
      · refine x_iconst dX8_count_91 ?_
        refine x_iadd dX8_count_92 ?_
        refine x_istore dX8_count_93 (by decide) ?_
        show JX _ _ _ _ _ _ _ _ _ _ _ [_, _, _, _, _, _] _ _
        refine x_iinc dX8_count_95 rfl (by decide) ?_
        show JX _ _ _ _ _ _ _ _ _ _ _ [_, _, _, _, _, _] _ _
        refine x_goto (tgt := 44) dX8_count_98 (by decide) ?_
        exact ih (i + 1) _ _ (by omega) (by rw [hg, jsum_nat]; unfold tAgr; first | rw [if_pos (by omega)] | rw [if_neg (by omega)]) (by rw [hl, jsum_nat]; show _ = _ + (if 100 ≤ r (71 + 8 * i) then 1 else 0); first | rw [if_pos (by omega)] | rw [if_neg (by omega)]) (by omega)
      · refine x_iconst dX8_count_87 ?_
        refine x_goto (tgt := 92) dX8_count_88 (by decide) ?_
        refine x_iadd dX8_count_92 ?_
        refine x_istore dX8_count_93 (by decide) ?_
        show JX _ _ _ _ _ _ _ _ _ _ _ [_, _, _, _, _, _] _ _
        refine x_iinc dX8_count_95 rfl (by decide) ?_
        show JX _ _ _ _ _ _ _ _ _ _ _ [_, _, _, _, _, _] _ _
        refine x_goto (tgt := 44) dX8_count_98 (by decide) ?_
        exact ih (i + 1) _ _ (by omega) (by rw [hg, jsum_nat]; unfold tAgr; first | rw [if_pos (by omega)] | rw [if_neg (by omega)]) (by rw [hl, jsum_nat]; show _ = _ + (if 100 ≤ r (71 + 8 * i) then 1 else 0); first | rw [if_pos (by omega)] | rw [if_neg (by omega)]) (by omega)
    · refine x_iconst dX8_count_65 ?_
      refine x_goto (tgt := 70) dX8_count_66 (by decide) ?_
      refine x_iadd dX8_count_70 ?_
      refine x_istore_n dX8_count_71 (by decide) ?_
      show JX _ _ _ _ _ _ _ _ _ _ _ [_, _, _, _, _, _] _ _
      refine x_iload dX8_count_72 rfl ?_
      refine x_aload_n dX8_count_74 rfl ?_
      refine x_iload dX8_count_75 rfl ?_
      refine x_bipush dX8_count_77 (by decide) ?_
      refine c_RX8_60d dX8_count_79 rfl (kX8_of hM0 hr0 (by omega) (by omega)) (by assumption) (Nat.le_of_ble_eq_true rfl) (Nat.le_of_ble_eq_true rfl) ⟨Nat.le_refl _, Nat.le_refl _⟩ ?_
      rw [show 65 + 8 * (i : Int) + 6 = 71 + 8 * i by omega]
      refine x_bipush dX8_count_82 (by decide) ?_
      refine x_ic_lt (tgt := 91) dX8_count_84 (by decide) ⟨by omega, by omega⟩ ⟨by omega, by omega⟩ (fun hb84 => ?_) (fun hb84 => ?_)
      · refine x_iconst dX8_count_91 ?_
        refine x_iadd dX8_count_92 ?_
        refine x_istore dX8_count_93 (by decide) ?_
        show JX _ _ _ _ _ _ _ _ _ _ _ [_, _, _, _, _, _] _ _
        refine x_iinc dX8_count_95 rfl (by decide) ?_
        show JX _ _ _ _ _ _ _ _ _ _ _ [_, _, _, _, _, _] _ _
        refine x_goto (tgt := 44) dX8_count_98 (by decide) ?_
        exact ih (i + 1) _ _ (by omega) (by rw [hg, jsum_nat]; unfold tAgr; first | rw [if_pos (by omega)] | rw [if_neg (by omega)]) (by rw [hl, jsum_nat]; show _ = _ + (if 100 ≤ r (71 + 8 * i) then 1 else 0); first | rw [if_pos (by omega)] | rw [if_neg (by omega)]) (by omega)
      · refine x_iconst dX8_count_87 ?_
        refine x_goto (tgt := 92) dX8_count_88 (by decide) ?_
        refine x_iadd dX8_count_92 ?_
        refine x_istore dX8_count_93 (by decide) ?_
        show JX _ _ _ _ _ _ _ _ _ _ _ [_, _, _, _, _, _] _ _
        refine x_iinc dX8_count_95 rfl (by decide) ?_
        show JX _ _ _ _ _ _ _ _ _ _ _ [_, _, _, _, _, _] _ _
        refine x_goto (tgt := 44) dX8_count_98 (by decide) ?_
        exact ih (i + 1) _ _ (by omega) (by rw [hg, jsum_nat]; unfold tAgr; first | rw [if_pos (by omega)] | rw [if_neg (by omega)]) (by rw [hl, jsum_nat]; show _ = _ + (if 100 ≤ r (71 + 8 * i) then 1 else 0); first | rw [if_pos (by omega)] | rw [if_neg (by omega)]) (by omega)
theorem cnt_loop1 {G : JG} {S : JS} {D : JD} {d : Nat} {M t e : Int} {r : Int → Int} (hM : jMo S M) (hr : D (M + 1) = r) (hI : rIn t r) (ht : t ≤ 60000) (re : i32 e) : ∀ (n i : Nat) (x : Int), (i : Int) + n = r 1 → x = jsum (fun c => if 0 ≤ r (29 + 11 * c) then 1 else 0) i → (0 ≤ x ∧ x ≤ i) →
    JX G yX8_count cX8_count 6 (some .int) (d + 5) (0, 0) (0, 0) S D 4 [some (.inr (.inr (some M))), some (.inl e), some (.inl x), some (.inl i), none, none] [] (jr (.inl (vCnt e (jsum (fun c => if 0 ≤ r (29 + 11 * c) then 1 else 0) (r 1).toNat) (jsum (tAgr r) (r 2).toNat) (jsum (fun b => if 100 ≤ r (71 + 8 * b) then 1 else 0) (r 2).toNat) (D M 6) (D M 3) (D M 7) r)) S D) := by
  intro n
  induction n with
  | zero =>
    intro i x hn hx hb2
    obtain ⟨mk, m0, m1, m2, m4, m5, m8, m12, y1, l1, y2, l2, y3, l3, y4, l4, y5, l5, y6, l6, y7, l7⟩ := id hM
    have hM0 := hM
    have hr0 := hr
    have b1 := hI.1
    have ei : (r 1).toNat = i := by omega
    rw [ei, ← hx]
    refine x_iload_n dX8_count_4 rfl ?_
    refine x_aload_n dX8_count_5 rfl ?_
    refine gf_RX8_7 dX8_count_6 rfl (by assumption) ?_
    rw [m0]
    refine x_iconst dX8_count_9 ?_
    refine x_iald dX8_count_10 (by assumption) ⟨by omega, by omega⟩ ?_
    rw [hr]
    refine x_ic_ge (tgt := 36) dX8_count_11 (by decide) ⟨by omega, by omega⟩ ⟨by omega, by omega⟩ (fun hb11 => ?_) (fun h => (h (by omega)).elim)
    refine x_iconst dX8_count_36 ?_
    refine x_istore_n dX8_count_37 (by decide) ?_
    show JX _ _ _ _ _ _ _ _ _ _ _ [_, _, _, _, _, _] _ _
    refine x_iconst dX8_count_38 ?_
    refine x_istore dX8_count_39 (by decide) ?_
    show JX _ _ _ _ _ _ _ _ _ _ _ [_, _, _, _, _, _] _ _
    refine x_iconst dX8_count_41 ?_
    refine x_istore dX8_count_42 (by decide) ?_
    show JX _ _ _ _ _ _ _ _ _ _ _ [_, _, _, _, _, _] _ _
    exact cnt_loop2 hM hr hI ht re (r 2).toNat 0 0 0 (by omega) rfl rfl (by omega)
  | succ n ih =>
    intro i x hn hx hb2
    obtain ⟨mk, m0, m1, m2, m4, m5, m8, m12, y1, l1, y2, l2, y3, l3, y4, l4, y5, l5, y6, l6, y7, l7⟩ := id hM
    have hM0 := hM
    have hr0 := hr
    have b1 := hI.1
    have hgt := hI.gates (i : Int) (by omega) (by omega)
    refine x_iload_n dX8_count_4 rfl ?_
    refine x_aload_n dX8_count_5 rfl ?_
    refine gf_RX8_7 dX8_count_6 rfl (by assumption) ?_
    rw [m0]
    refine x_iconst dX8_count_9 ?_
    refine x_iald dX8_count_10 (by assumption) ⟨by omega, by omega⟩ ?_
    rw [hr]
    refine x_ic_ge (tgt := 36) dX8_count_11 (by decide) ⟨by omega, by omega⟩ ⟨by omega, by omega⟩ (fun h => absurd h (by omega)) (fun hb11 => ?_)
    refine x_iload_n dX8_count_14 rfl ?_
    refine x_aload_n dX8_count_15 rfl ?_
    refine x_iload_n dX8_count_16 rfl ?_
    refine c_RX8_92d dX8_count_17 rfl (kX8_openGate hM0 hr0 (by omega) (by omega)) (by assumption) (Nat.le_of_ble_eq_true rfl) (Nat.le_of_ble_eq_true rfl) ⟨Nat.le_refl _, Nat.le_refl _⟩ ?_
    refine x_if_lt (tgt := 27) dX8_count_20 (by decide) ⟨by omega, by omega⟩ (fun hb20 => ?_) (fun hb20 => ?_)
    · refine x_iconst dX8_count_27 ?_
      refine x_iadd dX8_count_28 ?_
      refine x_istore_n dX8_count_29 (by decide) ?_
      show JX _ _ _ _ _ _ _ _ _ _ _ [_, _, _, _, _, _] _ _
      refine x_iinc dX8_count_30 rfl (by decide) ?_
      show JX _ _ _ _ _ _ _ _ _ _ _ [_, _, _, _, _, _] _ _
      refine x_goto (tgt := 4) dX8_count_33 (by decide) ?_
      exact ih (i + 1) _ (by omega) (by rw [hx, jsum_nat]; show _ = _ + (if 0 ≤ r (29 + 11 * i) then 1 else 0); first | rw [if_pos (by omega)] | rw [if_neg (by omega)]) (by omega)
    · refine x_iconst dX8_count_23 ?_
      refine x_goto (tgt := 28) dX8_count_24 (by decide) ?_
      refine x_iadd dX8_count_28 ?_
      refine x_istore_n dX8_count_29 (by decide) ?_
      show JX _ _ _ _ _ _ _ _ _ _ _ [_, _, _, _, _, _] _ _
      refine x_iinc dX8_count_30 rfl (by decide) ?_
      show JX _ _ _ _ _ _ _ _ _ _ _ [_, _, _, _, _, _] _ _
      refine x_goto (tgt := 4) dX8_count_33 (by decide) ?_
      exact ih (i + 1) _ (by omega) (by rw [hx, jsum_nat]; show _ = _ + (if 0 ≤ r (29 + 11 * i) then 1 else 0); first | rw [if_pos (by omega)] | rw [if_neg (by omega)]) (by omega)
theorem kX8_count {G : JG} {S : JS} {D : JD} {d : Nat} {M t : Int} {r : Int → Int} {e : Int} (hM : jMo S M) (hr : D (M + 1) = r) (hI : rIn t r) (ht : t ≤ 60000) (re : i32 e) : JM G yX8_count cX8_count 6 (some .int) (d + 5) (0, 0) S D [.inr (.inr (some M)), .inl e] (jr (.inl (zCount e (D M 6) (D M 3) (D M 7) r)) S D) := by
  have b1 := hI.1
  rw [show zCount e (D M 6) (D M 3) (D M 7) r = vCnt e (jsum (fun c => if 0 ≤ r (29 + 11 * c) then 1 else 0) (r 1).toNat) (jsum (tAgr r) (r 2).toNat) (jsum (fun c => r (161 + 13 * c)) (r 1).toNat) (D M 6) (D M 3) (D M 7) r from rfl, ← hI.locked]
  show JX _ _ _ _ _ _ _ _ _ _ _ [_, _, _, _, _, _] _ _
  refine x_iconst dX8_count_0 ?_
  refine x_istore_n dX8_count_1 (by decide) ?_
  show JX _ _ _ _ _ _ _ _ _ _ _ [_, _, _, _, _, _] _ _
  refine x_iconst dX8_count_2 ?_
  refine x_istore_n dX8_count_3 (by decide) ?_
  show JX _ _ _ _ _ _ _ _ _ _ _ [_, _, _, _, _, _] _ _
  exact cnt_loop1 hM hr hI ht re (r 1).toNat 0 0 (by omega) rfl (by omega)
