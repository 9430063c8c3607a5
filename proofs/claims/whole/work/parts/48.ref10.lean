/-! THE REFERENCE: pass, doEnter, doLeave -/
def rPas (k c g : Int) (r : Int → Int) : Int → Int := rup (rup (rup r (30 + 11 * c + g) (r (30 + 11 * c + g) + 1)) (27 + 11 * c + g) (r (27 + 11 * c + g) + (if (r (30 + 11 * c + g) + 1) % 8 = 0 then 1 else 0))) (72 + 8 * k) (r (72 + 8 * k) + 1)
theorem rPas_ps {k c g q : Int} {r : Int → Int} (c0 : 0 ≤ c) (c1 : c < 4) (hg : g = 0 ∨ g = 1) (k0 : 0 ≤ k) : rPas k c g (rup r (71 + 8 * k) q) = rPs k c g q r := by
  unfold rPas rPs
  rw [rup_ne (show 30 + 11 * c + g ≠ 71 + 8 * k by omega), rup_ne (show 27 + 11 * c + g ≠ 71 + 8 * k by omega), rup_ne (show 72 + 8 * k ≠ 71 + 8 * k by omega)]
def rShI (r : Int → Int) (c n m : Int) : Int → Int := fun j => if 162 + 13 * c + m < j ∧ j ≤ 162 + 13 * c + n then r (j - 1) else r j
theorem rShI_n {r : Int → Int} {c n : Int} : rShI r c n n = r := by
  funext j
  unfold rShI
  rw [if_neg (by omega)]
theorem rShI_lo {r : Int → Int} {c n m j : Int} (h : j ≤ 162 + 13 * c + m) : rShI r c n m j = r j := by
  unfold rShI
  rw [if_neg (by omega)]
theorem rShI_step {r : Int → Int} {c n x : Int} (h : x ≤ n) : rup (rShI r c n x) (162 + 13 * c + x) (r (161 + 13 * c + x)) = rShI r c n (x + -1) := by
  funext j
  unfold rup rShI
  by_cases e : j = 162 + 13 * c + x
  · rw [if_pos e, if_pos (by omega), e]
    congr 1
    omega
  · rw [if_neg e]
    by_cases q : 162 + 13 * c + x < j ∧ j ≤ 162 + 13 * c + n
    · rw [if_pos q, if_pos (by omega)]
    · rw [if_neg q, if_neg (by omega)]
theorem line_in0 {r : Int → Int} {c k : Int} : rup (rup (rShI r c (r (161 + 13 * c)) 0) (162 + 13 * c) k) (161 + 13 * c) (r (161 + 13 * c) + 1) = rLineIn c 0 k r := by
  funext j
  unfold rLineIn rup rShI
  by_cases e : j = 161 + 13 * c
  · rw [if_pos e, if_pos e, e]
  · rw [if_neg e, if_neg e, if_pos rfl]
    by_cases f : j = 162 + 13 * c
    · rw [if_pos f, if_pos f]
    · rw [if_neg f, if_neg f]
      by_cases q : 162 + 13 * c < j ∧ j ≤ 162 + 13 * c + r (161 + 13 * c)
      · rw [if_pos (by omega), if_pos q]
      · rw [if_neg (by omega), if_neg q]
theorem line_in1 {r : Int → Int} {c k : Int} : rup (rup r (162 + 13 * c + r (161 + 13 * c)) k) (161 + 13 * c) (r (161 + 13 * c) + 1) = rLineIn c 1 k r := by
  funext j
  unfold rLineIn rup
  by_cases e : j = 161 + 13 * c
  · rw [if_pos e, if_pos e, e]
  · rw [if_neg e, if_neg e, if_neg (show ¬ (1 : Int) = 0 by decide)]
def rShO (r : Int → Int) (c m : Int) : Int → Int := fun j => if 162 + 13 * c ≤ j ∧ j < 161 + 13 * c + m then r (j + 1) else r j
theorem rShO_1 {r : Int → Int} {c : Int} : rShO r c 1 = r := by
  funext j
  unfold rShO
  rw [if_neg (by omega)]
theorem rShO_hi {r : Int → Int} {c m j : Int} (h : j < 162 + 13 * c ∨ 161 + 13 * c + m ≤ j) : rShO r c m j = r j := by
  unfold rShO
  rw [if_neg (by omega)]
theorem rShO_step {r : Int → Int} {c m : Int} (h : 1 ≤ m) : rup (rShO r c m) (161 + 13 * c + m) (r (162 + 13 * c + m)) = rShO r c (m + 1) := by
  funext j
  unfold rup rShO
  by_cases e : j = 161 + 13 * c + m
  · rw [if_pos e, if_pos (by omega), e]
    congr 1
    omega
  · rw [if_neg e]
    by_cases q : 162 + 13 * c ≤ j ∧ j < 161 + 13 * c + m
    · rw [if_pos q, if_pos (by omega)]
    · rw [if_neg q, if_neg (by omega)]
theorem line_out0 {r : Int → Int} {c : Int} : rup (rShO r c (r (161 + 13 * c))) (161 + 13 * c) (r (161 + 13 * c) - 1) = rLineOut c 0 r := by
  funext j
  unfold rLineOut rup rShO
  by_cases e : j = 161 + 13 * c
  · rw [if_pos e, if_pos e, e]
  · rw [if_neg e, if_neg e]
    by_cases q : 162 + 13 * c ≤ j ∧ j < 161 + 13 * c + r (161 + 13 * c)
    · rw [if_pos q, if_pos ⟨rfl, q⟩]
    · rw [if_neg q, if_neg (fun h => q h.2)]
theorem line_out1 {r : Int → Int} {c : Int} : rup r (161 + 13 * c) (r (161 + 13 * c) - 1) = rLineOut c 1 r := by
  funext j
  unfold rLineOut rup
  by_cases e : j = 161 + 13 * c
  · rw [if_pos e, if_pos e, e]
  · rw [if_neg e, if_neg e, if_neg (fun h => absurd h.1 (by decide))]
theorem kX8_pass {G : JG} {S : JS} {D : JD} {d : Nat} {M : Int} {r : Int → Int} {k c g : Int} (hM : jMo S M) (hr : D (M + 1) = r) (k0 : 0 ≤ k) (k1 : k < 12) (c0 : 0 ≤ c) (c1 : c < 4) (hg : g = 0 ∨ g = 1) (hp : 0 ≤ r (30 + 11 * c + g) ∧ r (30 + 11 * c + g) ≤ 1000000) : JM G yX8_pass cX8_pass 5 none (d + 1) (0, 0) S D [.inr (.inr (some M)), .inl k, .inl c, .inl g] (jnP S (fun D2 => D2 (M + 1) = rPas k c g r ∧ ∀ x : Int, x ≠ M + 1 → D2 x = D x)) := by
  have hM0 := hM
  obtain ⟨mk, m0, m1, m2, m4, m5, m8, m12, y1, l1, y2, l2, y3, l3, y4, l4, y5, l5, y6, l6, y7, l7⟩ := id hM
  have hr0 := hr
  show JX _ _ _ _ _ _ _ _ _ _ _ [_, _, _, _, _] _ _
  refine x_bipush dX8_pass_0 (by decide) ?_
  refine x_bipush dX8_pass_2 (by decide) ?_
  refine x_iload_n dX8_pass_4 rfl ?_
  refine x_imul dX8_pass_5 ?_
  refine x_iadd dX8_pass_6 ?_
  refine x_istore dX8_pass_7 (by decide) ?_
  show JX _ _ _ _ _ _ _ _ _ _ _ [_, _, _, _, _] _ _
  refine x_aload_n dX8_pass_9 rfl ?_
  refine gf_RX8_7 dX8_pass_10 rfl (by assumption) ?_
  rw [m0]
  refine x_iload dX8_pass_13 rfl ?_
  refine x_bipush dX8_pass_15 (by decide) ?_
  refine x_iadd dX8_pass_17 ?_
  refine x_iload_n dX8_pass_18 rfl ?_
  refine x_iadd dX8_pass_19 ?_
  rw [show 21 + 11 * c + 9 + g = 30 + 11 * c + g by omega]
  refine x_dup2 dX8_pass_20 (fun _ h => by cases h) (fun _ h => by cases h) ?_
  refine x_iald dX8_pass_21 (by assumption) ⟨by omega, by omega⟩ ?_
  rw [hr]
  refine x_iconst dX8_pass_22 ?_
  refine x_iadd dX8_pass_23 ?_
  refine x_iast dX8_pass_24 (by assumption) ⟨by omega, by omega⟩ ?_
  refine x_aload_n dX8_pass_25 rfl ?_
  refine gf_RX8_7 dX8_pass_26 rfl (by assumption) ?_
  rw [m0]
  refine x_iload dX8_pass_29 rfl ?_
  refine x_bipush dX8_pass_31 (by decide) ?_
  refine x_iadd dX8_pass_33 ?_
  refine x_iload_n dX8_pass_34 rfl ?_
  refine x_iadd dX8_pass_35 ?_
  rw [show 21 + 11 * c + 6 + g = 27 + 11 * c + g by omega]
  refine x_dup2 dX8_pass_36 (fun _ h => by cases h) (fun _ h => by cases h) ?_
  refine x_iald dX8_pass_37 (by assumption) ⟨by omega, by omega⟩ ?_
  rw [jup_nk (show 27 + 11 * c + g ≠ 30 + 11 * c + g by omega), hr]
  refine x_aload_n dX8_pass_38 rfl ?_
  refine gf_RX8_7 dX8_pass_39 rfl (by assumption) ?_
  rw [m0]
  refine x_iload dX8_pass_42 rfl ?_
  refine x_bipush dX8_pass_44 (by decide) ?_
  refine x_iadd dX8_pass_46 ?_
  refine x_iload_n dX8_pass_47 rfl ?_
  refine x_iadd dX8_pass_48 ?_
  rw [show 21 + 11 * c + 9 + g = 30 + 11 * c + g by omega]
  refine x_iald dX8_pass_49 (by assumption) ⟨by omega, by omega⟩ ?_
  rw [jup_eq]
  refine x_bipush dX8_pass_50 (by decide) ?_
  refine x_irem dX8_pass_52 ⟨by omega, by omega⟩ ⟨by omega, by omega⟩ (by omega) ?_
  rw [Int.tmod_eq_emod_of_nonneg (by omega)]
  refine x_if_ne (tgt := 60) dX8_pass_53 (by decide) ⟨by omega, by omega⟩ (fun hb53 => ?_) (fun hb53 => ?_)
  · refine x_iconst dX8_pass_60 ?_
    refine x_iadd dX8_pass_61 ?_
    refine x_iast dX8_pass_62 (by assumption) ⟨by omega, by omega⟩ ?_
    refine x_aload_n dX8_pass_63 rfl ?_
    refine x_iload_n dX8_pass_64 rfl ?_
    refine x_bipush dX8_pass_65 (by decide) ?_
    refine x_aload_n dX8_pass_67 rfl ?_
    refine x_iload_n dX8_pass_68 rfl ?_
    refine x_bipush dX8_pass_69 (by decide) ?_
    refine c_RX8_60d dX8_pass_71 rfl (kX8_of hM0 rfl (by omega) (by omega)) (by assumption) (Nat.le_of_ble_eq_true rfl) (Nat.le_of_ble_eq_true rfl) ⟨Nat.le_refl _, Nat.le_refl _⟩ ?_
    rw [show 65 + 8 * k + 7 = 72 + 8 * k by omega, jup_nk (show 72 + 8 * k ≠ 27 + 11 * c + g by omega), jup_nk (show 72 + 8 * k ≠ 30 + 11 * c + g by omega), hr]
    refine x_iconst dX8_pass_74 ?_
    refine x_iadd dX8_pass_75 ?_
    refine c_RX8_129d dX8_pass_76 rfl (kX8_put hM0 rfl (by omega) (by omega)) (by assumption) (Nat.le_of_ble_eq_true rfl) (Nat.le_of_ble_eq_true rfl) ⟨Nat.le_refl _, Nat.le_refl _⟩ ?_
    rw [show 65 + 8 * k + 7 = 72 + 8 * k by omega]
    exact x_return dX8_pass_79 rfl ⟨Nat.le_refl _, Nat.le_refl _⟩ ⟨rfl, rfl, by rw [jup_row, jup_row, jup_row, hr]; unfold rPas; first | rw [if_pos (by omega)] | rw [if_neg (by omega)], fun x hx => by rw [jup_off hx, jup_off hx, jup_off hx]⟩
  · refine x_iconst dX8_pass_56 ?_
    refine x_goto (tgt := 61) dX8_pass_57 (by decide) ?_
    refine x_iadd dX8_pass_61 ?_
    refine x_iast dX8_pass_62 (by assumption) ⟨by omega, by omega⟩ ?_
    refine x_aload_n dX8_pass_63 rfl ?_
    refine x_iload_n dX8_pass_64 rfl ?_
    refine x_bipush dX8_pass_65 (by decide) ?_
    refine x_aload_n dX8_pass_67 rfl ?_
    refine x_iload_n dX8_pass_68 rfl ?_
    refine x_bipush dX8_pass_69 (by decide) ?_
    refine c_RX8_60d dX8_pass_71 rfl (kX8_of hM0 rfl (by omega) (by omega)) (by assumption) (Nat.le_of_ble_eq_true rfl) (Nat.le_of_ble_eq_true rfl) ⟨Nat.le_refl _, Nat.le_refl _⟩ ?_
    rw [show 65 + 8 * k + 7 = 72 + 8 * k by omega, jup_nk (show 72 + 8 * k ≠ 27 + 11 * c + g by omega), jup_nk (show 72 + 8 * k ≠ 30 + 11 * c + g by omega), hr]
    refine x_iconst dX8_pass_74 ?_
    refine x_iadd dX8_pass_75 ?_
    refine c_RX8_129d dX8_pass_76 rfl (kX8_put hM0 rfl (by omega) (by omega)) (by assumption) (Nat.le_of_ble_eq_true rfl) (Nat.le_of_ble_eq_true rfl) ⟨Nat.le_refl _, Nat.le_refl _⟩ ?_
    rw [show 65 + 8 * k + 7 = 72 + 8 * k by omega]
    exact x_return dX8_pass_79 rfl ⟨Nat.le_refl _, Nat.le_refl _⟩ ⟨rfl, rfl, by rw [jup_row, jup_row, jup_row, hr]; unfold rPas; first | rw [if_pos (by omega)] | rw [if_neg (by omega)], fun x hx => by rw [jup_off hx, jup_off hx, jup_off hx]⟩
theorem enter_loop {G : JG} {S : JS} {D0 : JD} {d : Nat} {M c k n : Int} {r : Int → Int} {Q : Option JV → JS → JD → Prop} (hM : jMo S M) (c0 : 0 ≤ c) (c1 : c < 4) (hn : n < 12)
    (K : ∀ D : JD, D (M + 1) = rShI r c n 0 → (∀ x : Int, x ≠ M + 1 → D x = D0 x) → JX G yX8_doEnter cX8_doEnter 7 (some .int) (d + 6) (0, 0) (0, 0) S D 166 [some (.inr (.inr (some M))), some (.inl k), some (.inl c), some (.inl 0), some (.inl (161 + 13 * c)), some (.inl n), some (.inl 0)] [] Q) : ∀ (m : Nat) (z : Int) (D : JD), z = (m : Int) → z ≤ n → D (M + 1) = rShI r c n z → (∀ x : Int, x ≠ M + 1 → D x = D0 x) →
    JX G yX8_doEnter cX8_doEnter 7 (some .int) (d + 6) (0, 0) (0, 0) S D 133 [some (.inr (.inr (some M))), some (.inl k), some (.inl c), some (.inl 0), some (.inl (161 + 13 * c)), some (.inl n), some (.inl z)] [] Q := by
  obtain ⟨mk, m0, m1, m2, m4, m5, m8, m12, y1, l1, y2, l2, y3, l3, y4, l4, y5, l5, y6, l6, y7, l7⟩ := id hM
  intro m
  induction m with
  | zero =>
    intro z D hz hm hr hX
    have hz0 : z = 0 := by omega
    subst hz0
    refine x_iload dX8_doEnter_133 rfl ?_
    refine x_if_le (tgt := 166) dX8_doEnter_135 (by decide) ⟨by omega, by omega⟩ (fun hb135 => ?_) (fun h => (h (by omega)).elim)
    exact K D hr hX
  | succ m ih =>
    intro z D hz hm hr hX
    refine x_iload dX8_doEnter_133 rfl ?_
    refine x_if_le (tgt := 166) dX8_doEnter_135 (by decide) ⟨by omega, by omega⟩ (fun h => absurd h (by omega)) (fun hb135 => ?_)
    refine x_aload_n dX8_doEnter_138 rfl ?_
    refine gf_RX8_7 dX8_doEnter_139 rfl (by assumption) ?_
    rw [m0]
    refine x_iload dX8_doEnter_142 rfl ?_
    refine x_iload dX8_doEnter_144 rfl ?_
    refine x_iadd dX8_doEnter_146 ?_
    refine x_iconst dX8_doEnter_147 ?_
    refine x_iadd dX8_doEnter_148 ?_
    rw [show 161 + 13 * c + z + 1 = 162 + 13 * c + z by omega]
    refine x_aload_n dX8_doEnter_149 rfl ?_
    refine gf_RX8_7 dX8_doEnter_150 rfl (by assumption) ?_
    rw [m0]
    refine x_iload dX8_doEnter_153 rfl ?_
    refine x_iload dX8_doEnter_155 rfl ?_
    refine x_iadd dX8_doEnter_157 ?_
    refine x_iald dX8_doEnter_158 (by assumption) ⟨by omega, by omega⟩ ?_
    rw [hr, rShI_lo (by omega)]
    refine x_iast dX8_doEnter_159 (by assumption) ⟨by omega, by omega⟩ ?_
    refine x_iinc dX8_doEnter_160 rfl (by decide) ?_
    show JX _ _ _ _ _ _ _ _ _ _ _ [_, _, _, _, _, _, _] _ _
    refine x_goto (tgt := 133) dX8_doEnter_163 (by decide) ?_
    exact ih (z + -1) _ (by omega) (by omega) (by rw [jup_row, hr]; exact rShI_step (by omega)) (fun x hx => by rw [jup_off hx]; exact hX x hx)
theorem kX8_doEnter_u {G : JG} {S : JS} {D : JD} {d : Nat} {M t : Int} {r : Int → Int} {k c : Int} (hM : jMo S M) (hr : D (M + 1) = r) (hI : rIn t r) (ht : t ≤ 60000) (rk : i32 k) (rc : i32 c) (h : ¬ ((0 ≤ k ∧ k < r 2) ∧ (0 ≤ c ∧ c < r 1))) : JM G yX8_doEnter cX8_doEnter 7 (some .int) (d + 6) (0, 0) S D [.inr (.inr (some M)), .inl k, .inl c] (jrP S (jDo D M r (-100000001, none, 0))) := by
  have hM0 := hM
  obtain ⟨mk, m0, m1, m2, m4, m5, m8, m12, y1, l1, y2, l2, y3, l3, y4, l4, y5, l5, y6, l6, y7, l7⟩ := id hM
  have hr0 := hr
  have b1 := hI.1
  show JX _ _ _ _ _ _ _ _ _ _ _ [_, _, _, _, _, _, _] _ _
  refine x_aload_n dX8_doEnter_0 rfl ?_
  refine x_iload_n dX8_doEnter_1 rfl ?_
  refine c_RX8_132d dX8_doEnter_2 rfl (kX8_noBarge hM0 hr0 rk (by omega)) (by assumption) (Nat.le_of_ble_eq_true rfl) (Nat.le_of_ble_eq_true rfl) ⟨Nat.le_refl _, Nat.le_refl _⟩ ?_
  refine x_if_ne (tgt := 16) dX8_doEnter_5 (by decide) ⟨by split <;> omega, by split <;> omega⟩ (fun hb5 => ?_) (fun hb5 => ?_)
  · refine x_ldc (e := -100000001) dX8_doEnter_16 ct_RX8_41 (by decide) ?_
    exact x_ireturn dX8_doEnter_18 rfl rfl ⟨Nat.le_refl _, Nat.le_refl _⟩ ⟨rfl, _, rfl, jDo_none hr⟩
  · refine x_aload_n dX8_doEnter_8 rfl ?_
    refine x_iload_n dX8_doEnter_9 rfl ?_
    refine c_RX8_56d dX8_doEnter_10 rfl (kX8_noChamber hM0 hr0 rc (by omega)) (by assumption) (Nat.le_of_ble_eq_true rfl) (Nat.le_of_ble_eq_true rfl) ⟨Nat.le_refl _, Nat.le_refl _⟩ ?_
    refine x_if_eq (tgt := 19) dX8_doEnter_13 (by decide) ⟨by split <;> omega, by split <;> omega⟩ (fun h => absurd h (by omega)) (fun hb13 => ?_)
    refine x_ldc (e := -100000001) dX8_doEnter_16 ct_RX8_41 (by decide) ?_
    exact x_ireturn dX8_doEnter_18 rfl rfl ⟨Nat.le_refl _, Nat.le_refl _⟩ ⟨rfl, _, rfl, jDo_none hr⟩
theorem kX8_doEnter_g {G : JG} {S : JS} {D : JD} {d : Nat} {M t : Int} {r : Int → Int} {k c : Int} (hM : jMo S M) (hr : D (M + 1) = r) (hI : rIn t r) (ht : t ≤ 60000) (k0 : 0 ≤ k) (k1 : k < r 2) (c0 : 0 ≤ c) (c1 : c < r 1) (h : r (29 + 11 * c) < 0) : JM G yX8_doEnter cX8_doEnter 7 (some .int) (d + 6) (0, 0) S D [.inr (.inr (some M)), .inl k, .inl c] (jrP S (jDo D M r (-100000003, none, 2))) := by
  have hM0 := hM
  obtain ⟨mk, m0, m1, m2, m4, m5, m8, m12, y1, l1, y2, l2, y3, l3, y4, l4, y5, l5, y6, l6, y7, l7⟩ := id hM
  have hr0 := hr
  have b1 := hI.1
  have k2 : k < 12 := by omega
  have c2 : c < 4 := by omega
  obtain ⟨bp, w0, w1, i0, i1, d0, d1⟩ := hI.bw k0 k1
  have bo := hI.2.2.2.1 k k0 k1
  unfold rBo at bo
  have co := (hI.2.2.1 c c0 c1).2
  unfold rCo at co
  have hln := hI.line c0 c1
  have hlle := sLf_le hI c
  show JX _ _ _ _ _ _ _ _ _ _ _ [_, _, _, _, _, _, _] _ _
  refine x_aload_n dX8_doEnter_0 rfl ?_
  refine x_iload_n dX8_doEnter_1 rfl ?_
  refine c_RX8_132d dX8_doEnter_2 rfl (kX8_noBarge hM0 hr0 ⟨by omega, by omega⟩ (by omega)) (by assumption) (Nat.le_of_ble_eq_true rfl) (Nat.le_of_ble_eq_true rfl) ⟨Nat.le_refl _, Nat.le_refl _⟩ ?_
  refine x_if_ne (tgt := 16) dX8_doEnter_5 (by decide) ⟨by split <;> omega, by split <;> omega⟩ (fun h => absurd h (by omega)) (fun hb5 => ?_)
  refine x_aload_n dX8_doEnter_8 rfl ?_
  refine x_iload_n dX8_doEnter_9 rfl ?_
  refine c_RX8_56d dX8_doEnter_10 rfl (kX8_noChamber hM0 hr0 ⟨by omega, by omega⟩ (by omega)) (by assumption) (Nat.le_of_ble_eq_true rfl) (Nat.le_of_ble_eq_true rfl) ⟨Nat.le_refl _, Nat.le_refl _⟩ ?_
  refine x_if_eq (tgt := 19) dX8_doEnter_13 (by decide) ⟨by split <;> omega, by split <;> omega⟩ (fun hb13 => ?_) (fun h => (h (by omega)).elim)
  refine x_aload_n dX8_doEnter_19 rfl ?_
  refine x_iload_n dX8_doEnter_20 rfl ?_
  refine c_RX8_92d dX8_doEnter_21 rfl (kX8_openGate hM0 hr0 c0 c2) (by assumption) (Nat.le_of_ble_eq_true rfl) (Nat.le_of_ble_eq_true rfl) ⟨Nat.le_refl _, Nat.le_refl _⟩ ?_
  refine x_istore_n dX8_doEnter_24 (by decide) ?_
  show JX _ _ _ _ _ _ _ _ _ _ _ [_, _, _, _, _, _, _] _ _
  refine x_iload_n dX8_doEnter_25 rfl ?_
  refine x_if_ge (tgt := 35) dX8_doEnter_26 (by decide) ⟨by omega, by omega⟩ (fun h => absurd h (by omega)) (fun hb26 => ?_)
  refine x_aload_n dX8_doEnter_29 rfl ?_
  refine x_iconst dX8_doEnter_30 ?_
  refine c_RX8_123d dX8_doEnter_31 rfl (kX8_refuse hM0) (by assumption) (Nat.le_of_ble_eq_true rfl) (Nat.le_of_ble_eq_true rfl) ⟨Nat.le_refl _, Nat.le_refl _⟩ ?_
  exact x_ireturn dX8_doEnter_34 rfl rfl ⟨Nat.le_refl _, Nat.le_refl _⟩ ⟨rfl, _, rfl, jDo_ref hr (by decide)⟩
theorem kX8_doEnter_p {G : JG} {S : JS} {D : JD} {d : Nat} {M t : Int} {r : Int → Int} {k c g : Int} (hM : jMo S M) (hr : D (M + 1) = r) (hI : rIn t r) (ht : t ≤ 60000) (k0 : 0 ≤ k) (k1 : k < r 2) (c0 : 0 ≤ c) (c1 : c < r 1) (hg : r (29 + 11 * c) = g) (g01 : g = 0 ∨ g = 1) (hp : r (71 + 8 * k) ≠ c + g) : JM G yX8_doEnter cX8_doEnter 7 (some .int) (d + 6) (0, 0) S D [.inr (.inr (some M)), .inl k, .inl c] (jrP S (jDo D M r (-100000003, none, 4))) := by
  have hM0 := hM
  obtain ⟨mk, m0, m1, m2, m4, m5, m8, m12, y1, l1, y2, l2, y3, l3, y4, l4, y5, l5, y6, l6, y7, l7⟩ := id hM
  have hr0 := hr
  have b1 := hI.1
  have k2 : k < 12 := by omega
  have c2 : c < 4 := by omega
  obtain ⟨bp, w0, w1, i0, i1, d0, d1⟩ := hI.bw k0 k1
  have bo := hI.2.2.2.1 k k0 k1
  unfold rBo at bo
  have co := (hI.2.2.1 c c0 c1).2
  unfold rCo at co
  have hln := hI.line c0 c1
  have hlle := sLf_le hI c
  show JX _ _ _ _ _ _ _ _ _ _ _ [_, _, _, _, _, _, _] _ _
  refine x_aload_n dX8_doEnter_0 rfl ?_
  refine x_iload_n dX8_doEnter_1 rfl ?_
  refine c_RX8_132d dX8_doEnter_2 rfl (kX8_noBarge hM0 hr0 ⟨by omega, by omega⟩ (by omega)) (by assumption) (Nat.le_of_ble_eq_true rfl) (Nat.le_of_ble_eq_true rfl) ⟨Nat.le_refl _, Nat.le_refl _⟩ ?_
  refine x_if_ne (tgt := 16) dX8_doEnter_5 (by decide) ⟨by split <;> omega, by split <;> omega⟩ (fun h => absurd h (by omega)) (fun hb5 => ?_)
  refine x_aload_n dX8_doEnter_8 rfl ?_
  refine x_iload_n dX8_doEnter_9 rfl ?_
  refine c_RX8_56d dX8_doEnter_10 rfl (kX8_noChamber hM0 hr0 ⟨by omega, by omega⟩ (by omega)) (by assumption) (Nat.le_of_ble_eq_true rfl) (Nat.le_of_ble_eq_true rfl) ⟨Nat.le_refl _, Nat.le_refl _⟩ ?_
  refine x_if_eq (tgt := 19) dX8_doEnter_13 (by decide) ⟨by split <;> omega, by split <;> omega⟩ (fun hb13 => ?_) (fun h => (h (by omega)).elim)
  refine x_aload_n dX8_doEnter_19 rfl ?_
  refine x_iload_n dX8_doEnter_20 rfl ?_
  refine c_RX8_92d dX8_doEnter_21 rfl (kX8_openGate hM0 hr0 c0 c2) (by assumption) (Nat.le_of_ble_eq_true rfl) (Nat.le_of_ble_eq_true rfl) ⟨Nat.le_refl _, Nat.le_refl _⟩ ?_
  rw [hg]
  refine x_istore_n dX8_doEnter_24 (by decide) ?_
  show JX _ _ _ _ _ _ _ _ _ _ _ [_, _, _, _, _, _, _] _ _
  refine x_iload_n dX8_doEnter_25 rfl ?_
  refine x_if_ge (tgt := 35) dX8_doEnter_26 (by decide) ⟨by omega, by omega⟩ (fun hb26 => ?_) (fun h => (h (by omega)).elim)
  refine x_aload_n dX8_doEnter_35 rfl ?_
  refine x_iload_n dX8_doEnter_36 rfl ?_
  refine x_bipush dX8_doEnter_37 (by decide) ?_
  refine c_RX8_60d dX8_doEnter_39 rfl (kX8_of hM0 hr0 (by omega) (by omega)) (by assumption) (Nat.le_of_ble_eq_true rfl) (Nat.le_of_ble_eq_true rfl) ⟨Nat.le_refl _, Nat.le_refl _⟩ ?_
  rw [show 65 + 8 * k + 6 = 71 + 8 * k by omega]
  refine x_iload_n dX8_doEnter_42 rfl ?_
  refine x_iload_n dX8_doEnter_43 rfl ?_
  refine x_iadd dX8_doEnter_44 ?_
  refine x_ic_eq (tgt := 54) dX8_doEnter_45 (by decide) ⟨by omega, by omega⟩ ⟨by omega, by omega⟩ (fun h => absurd h (by omega)) (fun hb45 => ?_)
  refine x_aload_n dX8_doEnter_48 rfl ?_
  refine x_iconst dX8_doEnter_49 ?_
  refine c_RX8_123d dX8_doEnter_50 rfl (kX8_refuse hM0) (by assumption) (Nat.le_of_ble_eq_true rfl) (Nat.le_of_ble_eq_true rfl) ⟨Nat.le_refl _, Nat.le_refl _⟩ ?_
  exact x_ireturn dX8_doEnter_53 rfl rfl ⟨Nat.le_refl _, Nat.le_refl _⟩ ⟨rfl, _, rfl, jDo_ref hr (by decide)⟩
theorem kX8_doEnter_a {G : JG} {S : JS} {D : JD} {d : Nat} {M t : Int} {r : Int → Int} {k c g : Int} (hM : jMo S M) (hr : D (M + 1) = r) (hI : rIn t r) (ht : t ≤ 60000) (k0 : 0 ≤ k) (k1 : k < r 2) (c0 : 0 ≤ c) (c1 : c < r 1) (hg : r (29 + 11 * c) = g) (g01 : g = 0 ∨ g = 1) (hp : r (71 + 8 * k) = c + g) (ha : sDp r (r (71 + 8 * k)) < sDr r k) : JM G yX8_doEnter cX8_doEnter 7 (some .int) (d + 6) (0, 0) S D [.inr (.inr (some M)), .inl k, .inl c] (jrP S (jDo D M r (-100000003, none, 5))) := by
  have hM0 := hM
  obtain ⟨mk, m0, m1, m2, m4, m5, m8, m12, y1, l1, y2, l2, y3, l3, y4, l4, y5, l5, y6, l6, y7, l7⟩ := id hM
  have hr0 := hr
  have b1 := hI.1
  have k2 : k < 12 := by omega
  have c2 : c < 4 := by omega
  obtain ⟨bp, w0, w1, i0, i1, d0, d1⟩ := hI.bw k0 k1
  have bo := hI.2.2.2.1 k k0 k1
  unfold rBo at bo
  have co := (hI.2.2.1 c c0 c1).2
  unfold rCo at co
  have hln := hI.line c0 c1
  have hlle := sLf_le hI c
  show JX _ _ _ _ _ _ _ _ _ _ _ [_, _, _, _, _, _, _] _ _
  refine x_aload_n dX8_doEnter_0 rfl ?_
  refine x_iload_n dX8_doEnter_1 rfl ?_
  refine c_RX8_132d dX8_doEnter_2 rfl (kX8_noBarge hM0 hr0 ⟨by omega, by omega⟩ (by omega)) (by assumption) (Nat.le_of_ble_eq_true rfl) (Nat.le_of_ble_eq_true rfl) ⟨Nat.le_refl _, Nat.le_refl _⟩ ?_
  refine x_if_ne (tgt := 16) dX8_doEnter_5 (by decide) ⟨by split <;> omega, by split <;> omega⟩ (fun h => absurd h (by omega)) (fun hb5 => ?_)
  refine x_aload_n dX8_doEnter_8 rfl ?_
  refine x_iload_n dX8_doEnter_9 rfl ?_
  refine c_RX8_56d dX8_doEnter_10 rfl (kX8_noChamber hM0 hr0 ⟨by omega, by omega⟩ (by omega)) (by assumption) (Nat.le_of_ble_eq_true rfl) (Nat.le_of_ble_eq_true rfl) ⟨Nat.le_refl _, Nat.le_refl _⟩ ?_
  refine x_if_eq (tgt := 19) dX8_doEnter_13 (by decide) ⟨by split <;> omega, by split <;> omega⟩ (fun hb13 => ?_) (fun h => (h (by omega)).elim)
  refine x_aload_n dX8_doEnter_19 rfl ?_
  refine x_iload_n dX8_doEnter_20 rfl ?_
  refine c_RX8_92d dX8_doEnter_21 rfl (kX8_openGate hM0 hr0 c0 c2) (by assumption) (Nat.le_of_ble_eq_true rfl) (Nat.le_of_ble_eq_true rfl) ⟨Nat.le_refl _, Nat.le_refl _⟩ ?_
  rw [hg]
  refine x_istore_n dX8_doEnter_24 (by decide) ?_
  show JX _ _ _ _ _ _ _ _ _ _ _ [_, _, _, _, _, _, _] _ _
  refine x_iload_n dX8_doEnter_25 rfl ?_
  refine x_if_ge (tgt := 35) dX8_doEnter_26 (by decide) ⟨by omega, by omega⟩ (fun hb26 => ?_) (fun h => (h (by omega)).elim)
  refine x_aload_n dX8_doEnter_35 rfl ?_
  refine x_iload_n dX8_doEnter_36 rfl ?_
  refine x_bipush dX8_doEnter_37 (by decide) ?_
  refine c_RX8_60d dX8_doEnter_39 rfl (kX8_of hM0 hr0 (by omega) (by omega)) (by assumption) (Nat.le_of_ble_eq_true rfl) (Nat.le_of_ble_eq_true rfl) ⟨Nat.le_refl _, Nat.le_refl _⟩ ?_
  rw [show 65 + 8 * k + 6 = 71 + 8 * k by omega]
  refine x_iload_n dX8_doEnter_42 rfl ?_
  refine x_iload_n dX8_doEnter_43 rfl ?_
  refine x_iadd dX8_doEnter_44 ?_
  refine x_ic_eq (tgt := 54) dX8_doEnter_45 (by decide) ⟨by omega, by omega⟩ ⟨by omega, by omega⟩ (fun hb45 => ?_) (fun h => (h (by omega)).elim)
  refine x_aload_n dX8_doEnter_54 rfl ?_
  refine x_iload_n dX8_doEnter_55 rfl ?_
  refine c_RX8_162d dX8_doEnter_56 rfl (kX8_isAground hM0 hr0 hI ht k0 k1) (by assumption) (Nat.le_of_ble_eq_true rfl) (Nat.le_of_ble_eq_true rfl) ⟨Nat.le_refl _, Nat.le_refl _⟩ ?_
  refine x_if_eq (tgt := 68) dX8_doEnter_59 (by decide) ⟨by split <;> omega, by split <;> omega⟩ (fun h => absurd h (by omega)) (fun hb59 => ?_)
  refine x_aload_n dX8_doEnter_62 rfl ?_
  refine x_iconst dX8_doEnter_63 ?_
  refine c_RX8_123d dX8_doEnter_64 rfl (kX8_refuse hM0) (by assumption) (Nat.le_of_ble_eq_true rfl) (Nat.le_of_ble_eq_true rfl) ⟨Nat.le_refl _, Nat.le_refl _⟩ ?_
  exact x_ireturn dX8_doEnter_67 rfl rfl ⟨Nat.le_refl _, Nat.le_refl _⟩ ⟨rfl, _, rfl, jDo_ref hr (by decide)⟩
theorem kX8_doEnter_l {G : JG} {S : JS} {D : JD} {d : Nat} {M t : Int} {r : Int → Int} {k c g : Int} (hM : jMo S M) (hr : D (M + 1) = r) (hI : rIn t r) (ht : t ≤ 60000) (k0 : 0 ≤ k) (k1 : k < r 2) (c0 : 0 ≤ c) (c1 : c < r 1) (hg : r (29 + 11 * c) = g) (g01 : g = 0 ∨ g = 1) (hp : r (71 + 8 * k) = c + g) (ha : ¬ (sDp r (r (71 + 8 * k)) < sDr r k)) (hl : sLf r c < r (65 + 8 * k)) : JM G yX8_doEnter cX8_doEnter 7 (some .int) (d + 6) (0, 0) S D [.inr (.inr (some M)), .inl k, .inl c] (jrP S (jDo D M r (-100000003, none, 6))) := by
  have hM0 := hM
  obtain ⟨mk, m0, m1, m2, m4, m5, m8, m12, y1, l1, y2, l2, y3, l3, y4, l4, y5, l5, y6, l6, y7, l7⟩ := id hM
  have hr0 := hr
  have b1 := hI.1
  have k2 : k < 12 := by omega
  have c2 : c < 4 := by omega
  obtain ⟨bp, w0, w1, i0, i1, d0, d1⟩ := hI.bw k0 k1
  have bo := hI.2.2.2.1 k k0 k1
  unfold rBo at bo
  have co := (hI.2.2.1 c c0 c1).2
  unfold rCo at co
  have hln := hI.line c0 c1
  have hlle := sLf_le hI c
  show JX _ _ _ _ _ _ _ _ _ _ _ [_, _, _, _, _, _, _] _ _
  refine x_aload_n dX8_doEnter_0 rfl ?_
  refine x_iload_n dX8_doEnter_1 rfl ?_
  refine c_RX8_132d dX8_doEnter_2 rfl (kX8_noBarge hM0 hr0 ⟨by omega, by omega⟩ (by omega)) (by assumption) (Nat.le_of_ble_eq_true rfl) (Nat.le_of_ble_eq_true rfl) ⟨Nat.le_refl _, Nat.le_refl _⟩ ?_
  refine x_if_ne (tgt := 16) dX8_doEnter_5 (by decide) ⟨by split <;> omega, by split <;> omega⟩ (fun h => absurd h (by omega)) (fun hb5 => ?_)
  refine x_aload_n dX8_doEnter_8 rfl ?_
  refine x_iload_n dX8_doEnter_9 rfl ?_
  refine c_RX8_56d dX8_doEnter_10 rfl (kX8_noChamber hM0 hr0 ⟨by omega, by omega⟩ (by omega)) (by assumption) (Nat.le_of_ble_eq_true rfl) (Nat.le_of_ble_eq_true rfl) ⟨Nat.le_refl _, Nat.le_refl _⟩ ?_
  refine x_if_eq (tgt := 19) dX8_doEnter_13 (by decide) ⟨by split <;> omega, by split <;> omega⟩ (fun hb13 => ?_) (fun h => (h (by omega)).elim)
  refine x_aload_n dX8_doEnter_19 rfl ?_
  refine x_iload_n dX8_doEnter_20 rfl ?_
  refine c_RX8_92d dX8_doEnter_21 rfl (kX8_openGate hM0 hr0 c0 c2) (by assumption) (Nat.le_of_ble_eq_true rfl) (Nat.le_of_ble_eq_true rfl) ⟨Nat.le_refl _, Nat.le_refl _⟩ ?_
  rw [hg]
  refine x_istore_n dX8_doEnter_24 (by decide) ?_
  show JX _ _ _ _ _ _ _ _ _ _ _ [_, _, _, _, _, _, _] _ _
  refine x_iload_n dX8_doEnter_25 rfl ?_
  refine x_if_ge (tgt := 35) dX8_doEnter_26 (by decide) ⟨by omega, by omega⟩ (fun hb26 => ?_) (fun h => (h (by omega)).elim)
  refine x_aload_n dX8_doEnter_35 rfl ?_
  refine x_iload_n dX8_doEnter_36 rfl ?_
  refine x_bipush dX8_doEnter_37 (by decide) ?_
  refine c_RX8_60d dX8_doEnter_39 rfl (kX8_of hM0 hr0 (by omega) (by omega)) (by assumption) (Nat.le_of_ble_eq_true rfl) (Nat.le_of_ble_eq_true rfl) ⟨Nat.le_refl _, Nat.le_refl _⟩ ?_
  rw [show 65 + 8 * k + 6 = 71 + 8 * k by omega]
  refine x_iload_n dX8_doEnter_42 rfl ?_
  refine x_iload_n dX8_doEnter_43 rfl ?_
  refine x_iadd dX8_doEnter_44 ?_
  refine x_ic_eq (tgt := 54) dX8_doEnter_45 (by decide) ⟨by omega, by omega⟩ ⟨by omega, by omega⟩ (fun hb45 => ?_) (fun h => (h (by omega)).elim)
  refine x_aload_n dX8_doEnter_54 rfl ?_
  refine x_iload_n dX8_doEnter_55 rfl ?_
  refine c_RX8_162d dX8_doEnter_56 rfl (kX8_isAground hM0 hr0 hI ht k0 k1) (by assumption) (Nat.le_of_ble_eq_true rfl) (Nat.le_of_ble_eq_true rfl) ⟨Nat.le_refl _, Nat.le_refl _⟩ ?_
  refine x_if_eq (tgt := 68) dX8_doEnter_59 (by decide) ⟨by split <;> omega, by split <;> omega⟩ (fun hb59 => ?_) (fun h => (h (by omega)).elim)
  refine x_aload_n dX8_doEnter_68 rfl ?_
  refine x_iload_n dX8_doEnter_69 rfl ?_
  refine x_iconst dX8_doEnter_70 ?_
  refine c_RX8_60d dX8_doEnter_71 rfl (kX8_of hM0 hr0 (by omega) (by omega)) (by assumption) (Nat.le_of_ble_eq_true rfl) (Nat.le_of_ble_eq_true rfl) ⟨Nat.le_refl _, Nat.le_refl _⟩ ?_
  rw [show 65 + 8 * k + 0 = 65 + 8 * k by omega]
  refine x_aload_n dX8_doEnter_74 rfl ?_
  refine x_iload_n dX8_doEnter_75 rfl ?_
  refine c_RX8_165d dX8_doEnter_76 rfl (kX8_lengthLeft hM0 hr0 hI c0 c1) (by assumption) (Nat.le_of_ble_eq_true rfl) (Nat.le_of_ble_eq_true rfl) ⟨Nat.le_refl _, Nat.le_refl _⟩ ?_
  refine x_ic_le (tgt := 89) dX8_doEnter_79 (by decide) ⟨by omega, by omega⟩ ⟨by omega, by omega⟩ (fun h => absurd h (by omega)) (fun hb79 => ?_)
  refine x_aload_n dX8_doEnter_82 rfl ?_
  refine x_bipush dX8_doEnter_83 (by decide) ?_
  refine c_RX8_123d dX8_doEnter_85 rfl (kX8_refuse hM0) (by assumption) (Nat.le_of_ble_eq_true rfl) (Nat.le_of_ble_eq_true rfl) ⟨Nat.le_refl _, Nat.le_refl _⟩ ?_
  exact x_ireturn dX8_doEnter_88 rfl rfl ⟨Nat.le_refl _, Nat.le_refl _⟩ ⟨rfl, _, rfl, jDo_ref hr (by decide)⟩
theorem kX8_doEnter_d {G : JG} {S : JS} {D : JD} {d : Nat} {M t : Int} {r : Int → Int} {k c g : Int} (hM : jMo S M) (hr : D (M + 1) = r) (hI : rIn t r) (ht : t ≤ 60000) (k0 : 0 ≤ k) (k1 : k < r 2) (c0 : 0 ≤ c) (c1 : c < r 1) (hg : r (29 + 11 * c) = g) (g01 : g = 0 ∨ g = 1) (hp : r (71 + 8 * k) = c + g) (ha : ¬ (sDp r (r (71 + 8 * k)) < sDr r k)) (hl : ¬ sLf r c < r (65 + 8 * k)) (hd : gDeep r k c g) : JM G yX8_doEnter cX8_doEnter 7 (some .int) (d + 6) (0, 0) S D [.inr (.inr (some M)), .inl k, .inl c] (jrP S (jDo D M r (-100000003, none, 7))) := by
  have hM0 := hM
  obtain ⟨mk, m0, m1, m2, m4, m5, m8, m12, y1, l1, y2, l2, y3, l3, y4, l4, y5, l5, y6, l6, y7, l7⟩ := id hM
  have hr0 := hr
  have b1 := hI.1
  have k2 : k < 12 := by omega
  have c2 : c < 4 := by omega
  obtain ⟨bp, w0, w1, i0, i1, d0, d1⟩ := hI.bw k0 k1
  have bo := hI.2.2.2.1 k k0 k1
  unfold rBo at bo
  have co := (hI.2.2.1 c c0 c1).2
  unfold rCo at co
  have hln := hI.line c0 c1
  have hlle := sLf_le hI c
  show JX _ _ _ _ _ _ _ _ _ _ _ [_, _, _, _, _, _, _] _ _
  refine x_aload_n dX8_doEnter_0 rfl ?_
  refine x_iload_n dX8_doEnter_1 rfl ?_
  refine c_RX8_132d dX8_doEnter_2 rfl (kX8_noBarge hM0 hr0 ⟨by omega, by omega⟩ (by omega)) (by assumption) (Nat.le_of_ble_eq_true rfl) (Nat.le_of_ble_eq_true rfl) ⟨Nat.le_refl _, Nat.le_refl _⟩ ?_
  refine x_if_ne (tgt := 16) dX8_doEnter_5 (by decide) ⟨by split <;> omega, by split <;> omega⟩ (fun h => absurd h (by omega)) (fun hb5 => ?_)
  refine x_aload_n dX8_doEnter_8 rfl ?_
  refine x_iload_n dX8_doEnter_9 rfl ?_
  refine c_RX8_56d dX8_doEnter_10 rfl (kX8_noChamber hM0 hr0 ⟨by omega, by omega⟩ (by omega)) (by assumption) (Nat.le_of_ble_eq_true rfl) (Nat.le_of_ble_eq_true rfl) ⟨Nat.le_refl _, Nat.le_refl _⟩ ?_
  refine x_if_eq (tgt := 19) dX8_doEnter_13 (by decide) ⟨by split <;> omega, by split <;> omega⟩ (fun hb13 => ?_) (fun h => (h (by omega)).elim)
  refine x_aload_n dX8_doEnter_19 rfl ?_
  refine x_iload_n dX8_doEnter_20 rfl ?_
  refine c_RX8_92d dX8_doEnter_21 rfl (kX8_openGate hM0 hr0 c0 c2) (by assumption) (Nat.le_of_ble_eq_true rfl) (Nat.le_of_ble_eq_true rfl) ⟨Nat.le_refl _, Nat.le_refl _⟩ ?_
  rw [hg]
  refine x_istore_n dX8_doEnter_24 (by decide) ?_
  show JX _ _ _ _ _ _ _ _ _ _ _ [_, _, _, _, _, _, _] _ _
  refine x_iload_n dX8_doEnter_25 rfl ?_
  refine x_if_ge (tgt := 35) dX8_doEnter_26 (by decide) ⟨by omega, by omega⟩ (fun hb26 => ?_) (fun h => (h (by omega)).elim)
  refine x_aload_n dX8_doEnter_35 rfl ?_
  refine x_iload_n dX8_doEnter_36 rfl ?_
  refine x_bipush dX8_doEnter_37 (by decide) ?_
  refine c_RX8_60d dX8_doEnter_39 rfl (kX8_of hM0 hr0 (by omega) (by omega)) (by assumption) (Nat.le_of_ble_eq_true rfl) (Nat.le_of_ble_eq_true rfl) ⟨Nat.le_refl _, Nat.le_refl _⟩ ?_
  rw [show 65 + 8 * k + 6 = 71 + 8 * k by omega]
  refine x_iload_n dX8_doEnter_42 rfl ?_
  refine x_iload_n dX8_doEnter_43 rfl ?_
  refine x_iadd dX8_doEnter_44 ?_
  refine x_ic_eq (tgt := 54) dX8_doEnter_45 (by decide) ⟨by omega, by omega⟩ ⟨by omega, by omega⟩ (fun hb45 => ?_) (fun h => (h (by omega)).elim)
  refine x_aload_n dX8_doEnter_54 rfl ?_
  refine x_iload_n dX8_doEnter_55 rfl ?_
  refine c_RX8_162d dX8_doEnter_56 rfl (kX8_isAground hM0 hr0 hI ht k0 k1) (by assumption) (Nat.le_of_ble_eq_true rfl) (Nat.le_of_ble_eq_true rfl) ⟨Nat.le_refl _, Nat.le_refl _⟩ ?_
  refine x_if_eq (tgt := 68) dX8_doEnter_59 (by decide) ⟨by split <;> omega, by split <;> omega⟩ (fun hb59 => ?_) (fun h => (h (by omega)).elim)
  refine x_aload_n dX8_doEnter_68 rfl ?_
  refine x_iload_n dX8_doEnter_69 rfl ?_
  refine x_iconst dX8_doEnter_70 ?_
  refine c_RX8_60d dX8_doEnter_71 rfl (kX8_of hM0 hr0 (by omega) (by omega)) (by assumption) (Nat.le_of_ble_eq_true rfl) (Nat.le_of_ble_eq_true rfl) ⟨Nat.le_refl _, Nat.le_refl _⟩ ?_
  rw [show 65 + 8 * k + 0 = 65 + 8 * k by omega]
  refine x_aload_n dX8_doEnter_74 rfl ?_
  refine x_iload_n dX8_doEnter_75 rfl ?_
  refine c_RX8_165d dX8_doEnter_76 rfl (kX8_lengthLeft hM0 hr0 hI c0 c1) (by assumption) (Nat.le_of_ble_eq_true rfl) (Nat.le_of_ble_eq_true rfl) ⟨Nat.le_refl _, Nat.le_refl _⟩ ?_
  refine x_ic_le (tgt := 89) dX8_doEnter_79 (by decide) ⟨by omega, by omega⟩ ⟨by omega, by omega⟩ (fun hb79 => ?_) (fun h => (h (by omega)).elim)
  refine x_aload_n dX8_doEnter_89 rfl ?_
  refine x_iload_n dX8_doEnter_90 rfl ?_
  refine x_iload_n dX8_doEnter_91 rfl ?_
  refine x_iload_n dX8_doEnter_92 rfl ?_
  refine c_RX8_168d dX8_doEnter_93 rfl (kX8_canPass hM0 hr0 hI ht k0 k1 c0 c1 g01) (by assumption) (Nat.le_of_ble_eq_true rfl) (Nat.le_of_ble_eq_true rfl) ⟨Nat.le_refl _, Nat.le_refl _⟩ ?_
  refine x_if_ne (tgt := 106) dX8_doEnter_96 (by decide) ⟨by split <;> omega, by split <;> omega⟩ (fun hz => absurd (if_pos hd) hz) (fun hb96 => ?_)
  refine x_aload_n dX8_doEnter_99 rfl ?_
  refine x_bipush dX8_doEnter_100 (by decide) ?_
  refine c_RX8_123d dX8_doEnter_102 rfl (kX8_refuse hM0) (by assumption) (Nat.le_of_ble_eq_true rfl) (Nat.le_of_ble_eq_true rfl) ⟨Nat.le_refl _, Nat.le_refl _⟩ ?_
  exact x_ireturn dX8_doEnter_105 rfl rfl ⟨Nat.le_refl _, Nat.le_refl _⟩ ⟨rfl, _, rfl, jDo_ref hr (by decide)⟩
theorem kX8_doEnter_y0 {G : JG} {S : JS} {D : JD} {d : Nat} {M t : Int} {r : Int → Int} {k c : Int} (hM : jMo S M) (hr : D (M + 1) = r) (hI : rIn t r) (ht : t ≤ 60000) (k0 : 0 ≤ k) (k1 : k < r 2) (c0 : 0 ≤ c) (c1 : c < r 1) (hg : r (29 + 11 * c) = 0) (hp : r (71 + 8 * k) = c + 0) (ha : ¬ (sDp r (r (71 + 8 * k)) < sDr r k)) (hl : ¬ sLf r c < r (65 + 8 * k)) (hd : ¬ gDeep r k c 0) (ht2 : t + 1 ≤ 60000) : JM G yX8_doEnter cX8_doEnter 7 (some .int) (d + 6) (0, 0) S D [.inr (.inr (some M)), .inl k, .inl c] (jrP S (jDo D M r (sLf (rEnter k c 0 r) c, some (rEnter k c 0 r), 0))) := by
  have hM0 := hM
  obtain ⟨mk, m0, m1, m2, m4, m5, m8, m12, y1, l1, y2, l2, y3, l3, y4, l4, y5, l5, y6, l6, y7, l7⟩ := id hM
  have hr0 := hr
  have b1 := hI.1
  have k2 : k < 12 := by omega
  have c2 : c < 4 := by omega
  obtain ⟨bp, w0, w1, i0, i1, d0, d1⟩ := hI.bw k0 k1
  have bo := hI.2.2.2.1 k k0 k1
  unfold rBo at bo
  have co := (hI.2.2.1 c c0 c1).2
  unfold rCo at co
  have hln := hI.line c0 c1
  have hlle := sLf_le hI c
  have g01 : (0 : Int) = 0 ∨ (0 : Int) = 1 := by omega
  have hnp : r (71 + 8 * k) ≠ 100 + c := by omega
  have hroom := hI.room c0 c1 k0 k1 hnp
  show JX _ _ _ _ _ _ _ _ _ _ _ [_, _, _, _, _, _, _] _ _
  refine x_aload_n dX8_doEnter_0 rfl ?_
  refine x_iload_n dX8_doEnter_1 rfl ?_
  refine c_RX8_132d dX8_doEnter_2 rfl (kX8_noBarge hM0 hr0 ⟨by omega, by omega⟩ (by omega)) (by assumption) (Nat.le_of_ble_eq_true rfl) (Nat.le_of_ble_eq_true rfl) ⟨Nat.le_refl _, Nat.le_refl _⟩ ?_
  refine x_if_ne (tgt := 16) dX8_doEnter_5 (by decide) ⟨by split <;> omega, by split <;> omega⟩ (fun h => absurd h (by omega)) (fun hb5 => ?_)
  refine x_aload_n dX8_doEnter_8 rfl ?_
  refine x_iload_n dX8_doEnter_9 rfl ?_
  refine c_RX8_56d dX8_doEnter_10 rfl (kX8_noChamber hM0 hr0 ⟨by omega, by omega⟩ (by omega)) (by assumption) (Nat.le_of_ble_eq_true rfl) (Nat.le_of_ble_eq_true rfl) ⟨Nat.le_refl _, Nat.le_refl _⟩ ?_
  refine x_if_eq (tgt := 19) dX8_doEnter_13 (by decide) ⟨by split <;> omega, by split <;> omega⟩ (fun hb13 => ?_) (fun h => (h (by omega)).elim)
  refine x_aload_n dX8_doEnter_19 rfl ?_
  refine x_iload_n dX8_doEnter_20 rfl ?_
  refine c_RX8_92d dX8_doEnter_21 rfl (kX8_openGate hM0 hr0 c0 c2) (by assumption) (Nat.le_of_ble_eq_true rfl) (Nat.le_of_ble_eq_true rfl) ⟨Nat.le_refl _, Nat.le_refl _⟩ ?_
  rw [hg]
  refine x_istore_n dX8_doEnter_24 (by decide) ?_
  show JX _ _ _ _ _ _ _ _ _ _ _ [_, _, _, _, _, _, _] _ _
  refine x_iload_n dX8_doEnter_25 rfl ?_
  refine x_if_ge (tgt := 35) dX8_doEnter_26 (by decide) ⟨by omega, by omega⟩ (fun hb26 => ?_) (fun h => (h (by omega)).elim)
  refine x_aload_n dX8_doEnter_35 rfl ?_
  refine x_iload_n dX8_doEnter_36 rfl ?_
  refine x_bipush dX8_doEnter_37 (by decide) ?_
  refine c_RX8_60d dX8_doEnter_39 rfl (kX8_of hM0 hr0 (by omega) (by omega)) (by assumption) (Nat.le_of_ble_eq_true rfl) (Nat.le_of_ble_eq_true rfl) ⟨Nat.le_refl _, Nat.le_refl _⟩ ?_
  rw [show 65 + 8 * k + 6 = 71 + 8 * k by omega]
  refine x_iload_n dX8_doEnter_42 rfl ?_
  refine x_iload_n dX8_doEnter_43 rfl ?_
  refine x_iadd dX8_doEnter_44 ?_
  refine x_ic_eq (tgt := 54) dX8_doEnter_45 (by decide) ⟨by omega, by omega⟩ ⟨by omega, by omega⟩ (fun hb45 => ?_) (fun h => (h (by omega)).elim)
  refine x_aload_n dX8_doEnter_54 rfl ?_
  refine x_iload_n dX8_doEnter_55 rfl ?_
  refine c_RX8_162d dX8_doEnter_56 rfl (kX8_isAground hM0 hr0 hI ht k0 k1) (by assumption) (Nat.le_of_ble_eq_true rfl) (Nat.le_of_ble_eq_true rfl) ⟨Nat.le_refl _, Nat.le_refl _⟩ ?_
  refine x_if_eq (tgt := 68) dX8_doEnter_59 (by decide) ⟨by split <;> omega, by split <;> omega⟩ (fun hb59 => ?_) (fun h => (h (by omega)).elim)
  refine x_aload_n dX8_doEnter_68 rfl ?_
  refine x_iload_n dX8_doEnter_69 rfl ?_
  refine x_iconst dX8_doEnter_70 ?_
  refine c_RX8_60d dX8_doEnter_71 rfl (kX8_of hM0 hr0 (by omega) (by omega)) (by assumption) (Nat.le_of_ble_eq_true rfl) (Nat.le_of_ble_eq_true rfl) ⟨Nat.le_refl _, Nat.le_refl _⟩ ?_
  rw [show 65 + 8 * k + 0 = 65 + 8 * k by omega]
  refine x_aload_n dX8_doEnter_74 rfl ?_
  refine x_iload_n dX8_doEnter_75 rfl ?_
  refine c_RX8_165d dX8_doEnter_76 rfl (kX8_lengthLeft hM0 hr0 hI c0 c1) (by assumption) (Nat.le_of_ble_eq_true rfl) (Nat.le_of_ble_eq_true rfl) ⟨Nat.le_refl _, Nat.le_refl _⟩ ?_
  refine x_ic_le (tgt := 89) dX8_doEnter_79 (by decide) ⟨by omega, by omega⟩ ⟨by omega, by omega⟩ (fun hb79 => ?_) (fun h => (h (by omega)).elim)
  refine x_aload_n dX8_doEnter_89 rfl ?_
  refine x_iload_n dX8_doEnter_90 rfl ?_
  refine x_iload_n dX8_doEnter_91 rfl ?_
  refine x_iload_n dX8_doEnter_92 rfl ?_
  refine c_RX8_168d dX8_doEnter_93 rfl (kX8_canPass hM0 hr0 hI ht k0 k1 c0 c1 g01) (by assumption) (Nat.le_of_ble_eq_true rfl) (Nat.le_of_ble_eq_true rfl) ⟨Nat.le_refl _, Nat.le_refl _⟩ ?_
  refine x_if_ne (tgt := 106) dX8_doEnter_96 (by decide) ⟨by split <;> omega, by split <;> omega⟩ (fun hb96 => ?_) (fun hz => (hz (by rw [if_neg hd]; decide)).elim)
  refine x_sipush dX8_doEnter_106 (by decide) ?_
  refine x_bipush dX8_doEnter_109 (by decide) ?_
  refine x_iload_n dX8_doEnter_111 rfl ?_
  refine x_imul dX8_doEnter_112 ?_
  refine x_iadd dX8_doEnter_113 ?_
  refine x_istore dX8_doEnter_114 (by decide) ?_
  show JX _ _ _ _ _ _ _ _ _ _ _ [_, _, _, _, _, _, _] _ _
  refine x_aload_n dX8_doEnter_116 rfl ?_
  refine gf_RX8_7 dX8_doEnter_117 rfl (by assumption) ?_
  rw [m0]
  refine x_iload dX8_doEnter_120 rfl ?_
  refine x_iald dX8_doEnter_122 (by assumption) ⟨by omega, by omega⟩ ?_
  rw [hr]
  refine x_istore dX8_doEnter_123 (by decide) ?_
  show JX _ _ _ _ _ _ _ _ _ _ _ [_, _, _, _, _, _, _] _ _
  refine x_iload_n dX8_doEnter_125 rfl ?_
  refine x_if_ne (tgt := 166) dX8_doEnter_126 (by decide) ⟨by omega, by omega⟩ (fun h => absurd h (by omega)) (fun hb126 => ?_)
  refine x_iload dX8_doEnter_129 rfl ?_
  refine x_istore dX8_doEnter_131 (by decide) ?_
  show JX _ _ _ _ _ _ _ _ _ _ _ [_, _, _, _, _, _, _] _ _
  refine enter_loop (n := r (161 + 13 * c)) (r := r) (D0 := D) hM0 c0 c2 (by omega) (fun D9 e9 f9 => ?_) (r (161 + 13 * c)).toNat _ D (by omega) (by omega) (by rw [rShI_n]; exact hr) (fun _ _ => rfl)
  refine x_aload_n dX8_doEnter_166 rfl ?_
  refine gf_RX8_7 dX8_doEnter_167 rfl (by assumption) ?_
  rw [m0]
  refine x_iload dX8_doEnter_170 rfl ?_
  refine x_iload_n dX8_doEnter_172 rfl ?_
  refine x_if_ne (tgt := 180) dX8_doEnter_173 (by decide) ⟨by omega, by omega⟩ (fun h => absurd h (by omega)) (fun hb173 => ?_)
  refine x_iconst dX8_doEnter_176 ?_
  refine x_goto (tgt := 184) dX8_doEnter_177 (by decide) ?_
  refine x_iadd dX8_doEnter_184 ?_
  refine x_iload_n dX8_doEnter_185 rfl ?_
  rw [show 161 + 13 * c + 1 = 162 + 13 * c by omega]
  refine x_iast dX8_doEnter_186 (by assumption) ⟨by omega, by omega⟩ ?_
  have hrA : (jup D9 (M + 1) (162 + 13 * c) k) (M + 1) = rup (rShI r c (r (161 + 13 * c)) 0) (162 + 13 * c) k := by rw [jup_row, e9]
  refine x_aload_n dX8_doEnter_187 rfl ?_
  refine gf_RX8_7 dX8_doEnter_188 rfl (by assumption) ?_
  rw [m0]
  refine x_iload dX8_doEnter_191 rfl ?_
  refine x_dup2 dX8_doEnter_193 (fun _ h => by cases h) (fun _ h => by cases h) ?_
  refine x_iald dX8_doEnter_194 (by assumption) ⟨by omega, by omega⟩ ?_
  rw [hrA, rup_ne (show 161 + 13 * c ≠ 162 + 13 * c by omega), rShI_lo (by omega)]
  refine x_iconst dX8_doEnter_195 ?_
  refine x_iadd dX8_doEnter_196 ?_
  refine x_iast dX8_doEnter_197 (by assumption) ⟨by omega, by omega⟩ ?_
  have hrB : (jup (jup D9 (M + 1) (162 + 13 * c) k) (M + 1) (161 + 13 * c) (r (161 + 13 * c) + 1)) (M + 1) = rLineIn c 0 k r := by rw [jup_row, hrA]; exact line_in0
  refine x_aload_n dX8_doEnter_198 rfl ?_
  refine x_iload_n dX8_doEnter_199 rfl ?_
  refine x_bipush dX8_doEnter_200 (by decide) ?_
  refine x_bipush dX8_doEnter_202 (by decide) ?_
  refine x_iload_n dX8_doEnter_204 rfl ?_
  refine x_iadd dX8_doEnter_205 ?_
  refine c_RX8_129d dX8_doEnter_206 rfl (kX8_put hM0 hrB (by omega) (by omega)) (by assumption) (Nat.le_of_ble_eq_true rfl) (Nat.le_of_ble_eq_true rfl) ⟨Nat.le_refl _, Nat.le_refl _⟩ ?_
  rw [show 65 + 8 * k + 6 = 71 + 8 * k by omega]
  have hrC : (jup (jup (jup D9 (M + 1) (162 + 13 * c) k) (M + 1) (161 + 13 * c) (r (161 + 13 * c) + 1)) (M + 1) (71 + 8 * k) (100 + c)) (M + 1) = rup (rLineIn c 0 k r) (71 + 8 * k) (100 + c) := by rw [jup_row, hrB]
  have hp30 : rup (rLineIn c 0 k r) (71 + 8 * k) (100 + c) (30 + 11 * c + 0) = r (30 + 11 * c + 0) := by rw [rup_ne (by omega), rLineIn_o hroom (by omega)]
  have hq30 : 0 ≤ r (30 + 11 * c + 0) ∧ r (30 + 11 * c + 0) ≤ t := by
    first
      | (rw [Int.add_zero]; omega)
      | (rw [show 30 + 11 * c + 1 = 31 + 11 * c by omega]; omega)
  refine x_aload_n dX8_doEnter_209 rfl ?_
  refine x_iload_n dX8_doEnter_210 rfl ?_
  refine x_iload_n dX8_doEnter_211 rfl ?_
  refine x_iload_n dX8_doEnter_212 rfl ?_
  refine c_RX8_171p dX8_doEnter_213 rfl (kX8_pass hM0 hrC k0 k2 c0 c2 g01 (by rw [hp30]; omega)) (by assumption) (Nat.le_of_ble_eq_true rfl) (Nat.le_of_ble_eq_true rfl) ⟨Nat.le_refl _, Nat.le_refl _⟩ (fun D3 h3 => ?_)
  obtain ⟨g3, x3⟩ := h3
  have hrD : D3 (M + 1) = rEnter k c 0 r := by rw [g3]; exact rPas_ps c0 c2 g01 k0
  have hI2 := hI.enter c0 c1 g01 k0 k1 hp (by omega)
  have e21 : rEnter k c 0 r 1 = r 1 := psd_in hI c0 c1 k0 k1 hnp 1 (by omega) (by omega) (by omega) (by omega) (by omega)
  have hX3 : ∀ x : Int, x ≠ M + 1 → D3 x = D x := fun x hx => by rw [x3 x hx, jup_off hx, jup_off hx, jup_off hx, f9 x hx]
  refine x_aload_n dX8_doEnter_216 rfl ?_
  refine x_iload_n dX8_doEnter_217 rfl ?_
  refine c_RX8_165d dX8_doEnter_218 rfl (kX8_lengthLeft hM0 hrD hI2 c0 (by rw [e21]; exact c1)) (by assumption) (Nat.le_of_ble_eq_true rfl) (Nat.le_of_ble_eq_true rfl) ⟨Nat.le_refl _, Nat.le_refl _⟩ ?_
  exact x_ireturn dX8_doEnter_221 rfl rfl ⟨Nat.le_refl _, Nat.le_refl _⟩ ⟨rfl, _, rfl, jDo_put hrD hX3⟩
theorem kX8_doEnter_y1 {G : JG} {S : JS} {D : JD} {d : Nat} {M t : Int} {r : Int → Int} {k c : Int} (hM : jMo S M) (hr : D (M + 1) = r) (hI : rIn t r) (ht : t ≤ 60000) (k0 : 0 ≤ k) (k1 : k < r 2) (c0 : 0 ≤ c) (c1 : c < r 1) (hg : r (29 + 11 * c) = 1) (hp : r (71 + 8 * k) = c + 1) (ha : ¬ (sDp r (r (71 + 8 * k)) < sDr r k)) (hl : ¬ sLf r c < r (65 + 8 * k)) (hd : ¬ gDeep r k c 1) (ht2 : t + 1 ≤ 60000) : JM G yX8_doEnter cX8_doEnter 7 (some .int) (d + 6) (0, 0) S D [.inr (.inr (some M)), .inl k, .inl c] (jrP S (jDo D M r (sLf (rEnter k c 1 r) c, some (rEnter k c 1 r), 0))) := by
  have hM0 := hM
  obtain ⟨mk, m0, m1, m2, m4, m5, m8, m12, y1, l1, y2, l2, y3, l3, y4, l4, y5, l5, y6, l6, y7, l7⟩ := id hM
  have hr0 := hr
  have b1 := hI.1
  have k2 : k < 12 := by omega
  have c2 : c < 4 := by omega
  obtain ⟨bp, w0, w1, i0, i1, d0, d1⟩ := hI.bw k0 k1
  have bo := hI.2.2.2.1 k k0 k1
  unfold rBo at bo
  have co := (hI.2.2.1 c c0 c1).2
  unfold rCo at co
  have hln := hI.line c0 c1
  have hlle := sLf_le hI c
  have g01 : (1 : Int) = 0 ∨ (1 : Int) = 1 := by omega
  have hnp : r (71 + 8 * k) ≠ 100 + c := by omega
  have hroom := hI.room c0 c1 k0 k1 hnp
  show JX _ _ _ _ _ _ _ _ _ _ _ [_, _, _, _, _, _, _] _ _
  refine x_aload_n dX8_doEnter_0 rfl ?_
  refine x_iload_n dX8_doEnter_1 rfl ?_
  refine c_RX8_132d dX8_doEnter_2 rfl (kX8_noBarge hM0 hr0 ⟨by omega, by omega⟩ (by omega)) (by assumption) (Nat.le_of_ble_eq_true rfl) (Nat.le_of_ble_eq_true rfl) ⟨Nat.le_refl _, Nat.le_refl _⟩ ?_
  refine x_if_ne (tgt := 16) dX8_doEnter_5 (by decide) ⟨by split <;> omega, by split <;> omega⟩ (fun h => absurd h (by omega)) (fun hb5 => ?_)
  refine x_aload_n dX8_doEnter_8 rfl ?_
  refine x_iload_n dX8_doEnter_9 rfl ?_
  refine c_RX8_56d dX8_doEnter_10 rfl (kX8_noChamber hM0 hr0 ⟨by omega, by omega⟩ (by omega)) (by assumption) (Nat.le_of_ble_eq_true rfl) (Nat.le_of_ble_eq_true rfl) ⟨Nat.le_refl _, Nat.le_refl _⟩ ?_
  refine x_if_eq (tgt := 19) dX8_doEnter_13 (by decide) ⟨by split <;> omega, by split <;> omega⟩ (fun hb13 => ?_) (fun h => (h (by omega)).elim)
  refine x_aload_n dX8_doEnter_19 rfl ?_
  refine x_iload_n dX8_doEnter_20 rfl ?_
  refine c_RX8_92d dX8_doEnter_21 rfl (kX8_openGate hM0 hr0 c0 c2) (by assumption) (Nat.le_of_ble_eq_true rfl) (Nat.le_of_ble_eq_true rfl) ⟨Nat.le_refl _, Nat.le_refl _⟩ ?_
  rw [hg]
  refine x_istore_n dX8_doEnter_24 (by decide) ?_
  show JX _ _ _ _ _ _ _ _ _ _ _ [_, _, _, _, _, _, _] _ _
  refine x_iload_n dX8_doEnter_25 rfl ?_
  refine x_if_ge (tgt := 35) dX8_doEnter_26 (by decide) ⟨by omega, by omega⟩ (fun hb26 => ?_) (fun h => (h (by omega)).elim)
  refine x_aload_n dX8_doEnter_35 rfl ?_
  refine x_iload_n dX8_doEnter_36 rfl ?_
  refine x_bipush dX8_doEnter_37 (by decide) ?_
  refine c_RX8_60d dX8_doEnter_39 rfl (kX8_of hM0 hr0 (by omega) (by omega)) (by assumption) (Nat.le_of_ble_eq_true rfl) (Nat.le_of_ble_eq_true rfl) ⟨Nat.le_refl _, Nat.le_refl _⟩ ?_
  rw [show 65 + 8 * k + 6 = 71 + 8 * k by omega]
  refine x_iload_n dX8_doEnter_42 rfl ?_
  refine x_iload_n dX8_doEnter_43 rfl ?_
  refine x_iadd dX8_doEnter_44 ?_
  refine x_ic_eq (tgt := 54) dX8_doEnter_45 (by decide) ⟨by omega, by omega⟩ ⟨by omega, by omega⟩ (fun hb45 => ?_) (fun h => (h (by omega)).elim)
  refine x_aload_n dX8_doEnter_54 rfl ?_
  refine x_iload_n dX8_doEnter_55 rfl ?_
  refine c_RX8_162d dX8_doEnter_56 rfl (kX8_isAground hM0 hr0 hI ht k0 k1) (by assumption) (Nat.le_of_ble_eq_true rfl) (Nat.le_of_ble_eq_true rfl) ⟨Nat.le_refl _, Nat.le_refl _⟩ ?_
  refine x_if_eq (tgt := 68) dX8_doEnter_59 (by decide) ⟨by split <;> omega, by split <;> omega⟩ (fun hb59 => ?_) (fun h => (h (by omega)).elim)
  refine x_aload_n dX8_doEnter_68 rfl ?_
  refine x_iload_n dX8_doEnter_69 rfl ?_
  refine x_iconst dX8_doEnter_70 ?_
  refine c_RX8_60d dX8_doEnter_71 rfl (kX8_of hM0 hr0 (by omega) (by omega)) (by assumption) (Nat.le_of_ble_eq_true rfl) (Nat.le_of_ble_eq_true rfl) ⟨Nat.le_refl _, Nat.le_refl _⟩ ?_
  rw [show 65 + 8 * k + 0 = 65 + 8 * k by omega]
  refine x_aload_n dX8_doEnter_74 rfl ?_
  refine x_iload_n dX8_doEnter_75 rfl ?_
  refine c_RX8_165d dX8_doEnter_76 rfl (kX8_lengthLeft hM0 hr0 hI c0 c1) (by assumption) (Nat.le_of_ble_eq_true rfl) (Nat.le_of_ble_eq_true rfl) ⟨Nat.le_refl _, Nat.le_refl _⟩ ?_
  refine x_ic_le (tgt := 89) dX8_doEnter_79 (by decide) ⟨by omega, by omega⟩ ⟨by omega, by omega⟩ (fun hb79 => ?_) (fun h => (h (by omega)).elim)
  refine x_aload_n dX8_doEnter_89 rfl ?_
  refine x_iload_n dX8_doEnter_90 rfl ?_
  refine x_iload_n dX8_doEnter_91 rfl ?_
  refine x_iload_n dX8_doEnter_92 rfl ?_
  refine c_RX8_168d dX8_doEnter_93 rfl (kX8_canPass hM0 hr0 hI ht k0 k1 c0 c1 g01) (by assumption) (Nat.le_of_ble_eq_true rfl) (Nat.le_of_ble_eq_true rfl) ⟨Nat.le_refl _, Nat.le_refl _⟩ ?_
  refine x_if_ne (tgt := 106) dX8_doEnter_96 (by decide) ⟨by split <;> omega, by split <;> omega⟩ (fun hb96 => ?_) (fun hz => (hz (by rw [if_neg hd]; decide)).elim)
  refine x_sipush dX8_doEnter_106 (by decide) ?_
  refine x_bipush dX8_doEnter_109 (by decide) ?_
  refine x_iload_n dX8_doEnter_111 rfl ?_
  refine x_imul dX8_doEnter_112 ?_
  refine x_iadd dX8_doEnter_113 ?_
  refine x_istore dX8_doEnter_114 (by decide) ?_
  show JX _ _ _ _ _ _ _ _ _ _ _ [_, _, _, _, _, _, _] _ _
  refine x_aload_n dX8_doEnter_116 rfl ?_
  refine gf_RX8_7 dX8_doEnter_117 rfl (by assumption) ?_
  rw [m0]
  refine x_iload dX8_doEnter_120 rfl ?_
  refine x_iald dX8_doEnter_122 (by assumption) ⟨by omega, by omega⟩ ?_
  rw [hr]
  refine x_istore dX8_doEnter_123 (by decide) ?_
  show JX _ _ _ _ _ _ _ _ _ _ _ [_, _, _, _, _, _, _] _ _
  refine x_iload_n dX8_doEnter_125 rfl ?_
  refine x_if_ne (tgt := 166) dX8_doEnter_126 (by decide) ⟨by omega, by omega⟩ (fun hb126 => ?_) (fun h => (h (by omega)).elim)
  refine x_aload_n dX8_doEnter_166 rfl ?_
  refine gf_RX8_7 dX8_doEnter_167 rfl (by assumption) ?_
  rw [m0]
  refine x_iload dX8_doEnter_170 rfl ?_
  refine x_iload_n dX8_doEnter_172 rfl ?_
  refine x_if_ne (tgt := 180) dX8_doEnter_173 (by decide) ⟨by omega, by omega⟩ (fun hb173 => ?_) (fun h => (h (by omega)).elim)
  refine x_iload dX8_doEnter_180 rfl ?_
  refine x_iconst dX8_doEnter_182 ?_
  refine x_iadd dX8_doEnter_183 ?_
  refine x_iadd dX8_doEnter_184 ?_
  refine x_iload_n dX8_doEnter_185 rfl ?_
  rw [show 161 + 13 * c + (r (161 + 13 * c) + 1) = 162 + 13 * c + r (161 + 13 * c) by omega]
  refine x_iast dX8_doEnter_186 (by assumption) ⟨by omega, by omega⟩ ?_
  have hrA : (jup D (M + 1) (162 + 13 * c + r (161 + 13 * c)) k) (M + 1) = rup (r) (162 + 13 * c + r (161 + 13 * c)) k := by rw [jup_row, hr]
  refine x_aload_n dX8_doEnter_187 rfl ?_
  refine gf_RX8_7 dX8_doEnter_188 rfl (by assumption) ?_
  rw [m0]
  refine x_iload dX8_doEnter_191 rfl ?_
  refine x_dup2 dX8_doEnter_193 (fun _ h => by cases h) (fun _ h => by cases h) ?_
  refine x_iald dX8_doEnter_194 (by assumption) ⟨by omega, by omega⟩ ?_
  rw [hrA, rup_ne (show 161 + 13 * c ≠ 162 + 13 * c + r (161 + 13 * c) by omega)]
  refine x_iconst dX8_doEnter_195 ?_
  refine x_iadd dX8_doEnter_196 ?_
  refine x_iast dX8_doEnter_197 (by assumption) ⟨by omega, by omega⟩ ?_
  have hrB : (jup (jup D (M + 1) (162 + 13 * c + r (161 + 13 * c)) k) (M + 1) (161 + 13 * c) (r (161 + 13 * c) + 1)) (M + 1) = rLineIn c 1 k r := by rw [jup_row, hrA]; exact line_in1
  refine x_aload_n dX8_doEnter_198 rfl ?_
  refine x_iload_n dX8_doEnter_199 rfl ?_
  refine x_bipush dX8_doEnter_200 (by decide) ?_
  refine x_bipush dX8_doEnter_202 (by decide) ?_
  refine x_iload_n dX8_doEnter_204 rfl ?_
  refine x_iadd dX8_doEnter_205 ?_
  refine c_RX8_129d dX8_doEnter_206 rfl (kX8_put hM0 hrB (by omega) (by omega)) (by assumption) (Nat.le_of_ble_eq_true rfl) (Nat.le_of_ble_eq_true rfl) ⟨Nat.le_refl _, Nat.le_refl _⟩ ?_
  rw [show 65 + 8 * k + 6 = 71 + 8 * k by omega]
  have hrC : (jup (jup (jup D (M + 1) (162 + 13 * c + r (161 + 13 * c)) k) (M + 1) (161 + 13 * c) (r (161 + 13 * c) + 1)) (M + 1) (71 + 8 * k) (100 + c)) (M + 1) = rup (rLineIn c 1 k r) (71 + 8 * k) (100 + c) := by rw [jup_row, hrB]
  have hp30 : rup (rLineIn c 1 k r) (71 + 8 * k) (100 + c) (30 + 11 * c + 1) = r (30 + 11 * c + 1) := by rw [rup_ne (by omega), rLineIn_o hroom (by omega)]
  have hq30 : 0 ≤ r (30 + 11 * c + 1) ∧ r (30 + 11 * c + 1) ≤ t := by
    first
      | (rw [Int.add_zero]; omega)
      | (rw [show 30 + 11 * c + 1 = 31 + 11 * c by omega]; omega)
  refine x_aload_n dX8_doEnter_209 rfl ?_
  refine x_iload_n dX8_doEnter_210 rfl ?_
  refine x_iload_n dX8_doEnter_211 rfl ?_
  refine x_iload_n dX8_doEnter_212 rfl ?_
  refine c_RX8_171p dX8_doEnter_213 rfl (kX8_pass hM0 hrC k0 k2 c0 c2 g01 (by rw [hp30]; omega)) (by assumption) (Nat.le_of_ble_eq_true rfl) (Nat.le_of_ble_eq_true rfl) ⟨Nat.le_refl _, Nat.le_refl _⟩ (fun D3 h3 => ?_)
  obtain ⟨g3, x3⟩ := h3
  have hrD : D3 (M + 1) = rEnter k c 1 r := by rw [g3]; exact rPas_ps c0 c2 g01 k0
  have hI2 := hI.enter c0 c1 g01 k0 k1 hp (by omega)
  have e21 : rEnter k c 1 r 1 = r 1 := psd_in hI c0 c1 k0 k1 hnp 1 (by omega) (by omega) (by omega) (by omega) (by omega)
  have hX3 : ∀ x : Int, x ≠ M + 1 → D3 x = D x := fun x hx => by rw [x3 x hx, jup_off hx, jup_off hx, jup_off hx]
  refine x_aload_n dX8_doEnter_216 rfl ?_
  refine x_iload_n dX8_doEnter_217 rfl ?_
  refine c_RX8_165d dX8_doEnter_218 rfl (kX8_lengthLeft hM0 hrD hI2 c0 (by rw [e21]; exact c1)) (by assumption) (Nat.le_of_ble_eq_true rfl) (Nat.le_of_ble_eq_true rfl) ⟨Nat.le_refl _, Nat.le_refl _⟩ ?_
  exact x_ireturn dX8_doEnter_221 rfl rfl ⟨Nat.le_refl _, Nat.le_refl _⟩ ⟨rfl, _, rfl, jDo_put hrD hX3⟩
theorem kX8_doEnter {G : JG} {S : JS} {D : JD} {d : Nat} {M t : Int} {r : Int → Int}  {k c : Int} (hM : jMo S M) (hr : D (M + 1) = r) (hI : rIn t r) (ht : t ≤ 60000) (ht2 : t + 1 ≤ 60000) (rk : i32 k) (rc : i32 c) : JM G yX8_doEnter cX8_doEnter 7 (some .int) (d + 6) (0, 0) S D [.inr (.inr (some M)), .inl k, .inl c] (jrP S (jDo D M r (zEnter k c r))) := by
  unfold zEnter
  by_cases h : (0 ≤ k ∧ k < r 2) ∧ (0 ≤ c ∧ c < r 1)
  · rw [if_pos h]
    obtain ⟨⟨k0, k1⟩, c0, c1⟩ := h
    have hgt := hI.gates c c0 c1
    by_cases hv : r (29 + 11 * c) < 0
    · rw [if_pos hv]; exact kX8_doEnter_g hM hr hI ht k0 k1 c0 c1 hv
    · rw [if_neg hv]
      obtain ⟨g, hg⟩ : ∃ g, r (29 + 11 * c) = g := ⟨_, rfl⟩
      have g01 : g = 0 ∨ g = 1 := by omega
      rw [hg]
      by_cases hp : r (71 + 8 * k) ≠ c + g
      · rw [if_pos hp]; exact kX8_doEnter_p hM hr hI ht k0 k1 c0 c1 hg g01 hp
      · rw [if_neg hp]
        have hp' : r (71 + 8 * k) = c + g := Classical.byContradiction hp
        by_cases ha : gAgr r k
        · rw [if_pos ha]; exact kX8_doEnter_a hM hr hI ht k0 k1 c0 c1 hg g01 hp' ha
        · rw [if_neg ha]
          by_cases hl : sLf r c < r (65 + 8 * k)
          · rw [if_pos hl]; exact kX8_doEnter_l hM hr hI ht k0 k1 c0 c1 hg g01 hp' ha hl
          · rw [if_neg hl]
            by_cases hd : gDeep r k c g
            · rw [if_pos hd]; exact kX8_doEnter_d hM hr hI ht k0 k1 c0 c1 hg g01 hp' ha hl hd
            · rw [if_neg hd]
              rcases g01 with rfl | rfl
              · exact kX8_doEnter_y0 hM hr hI ht k0 k1 c0 c1 hg hp' ha hl hd ht2
              · exact kX8_doEnter_y1 hM hr hI ht k0 k1 c0 c1 hg hp' ha hl hd ht2
  · rw [if_neg h]; exact kX8_doEnter_u hM hr hI ht rk rc h
