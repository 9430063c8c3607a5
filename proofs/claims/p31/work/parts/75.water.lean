/-! THE LAW: water -/
def wF (r : Int → Int) (p b : Int) : Int := if r (71 + 8 * b) = p then sW r b else 0
def wC (r : Int → Int) (p b : Int) : Int := if r (71 + 8 * b) = p then 1 else 0
theorem wF_y {r : Int → Int} {p b : Int} (h : r (71 + 8 * b) = p) : wF r p b = sW r b ∧ wC r p b = 1 := ⟨if_pos h, if_pos h⟩
theorem wF_n {r : Int → Int} {p b : Int} (h : ¬ r (71 + 8 * b) = p) : wF r p b = 0 ∧ wC r p b = 0 := ⟨if_neg h, if_neg h⟩
theorem tdiv_pos {a b : Int} (ha : 0 ≤ a) : a.tdiv b = a / b := Int.tdiv_eq_ediv_of_nonneg ha
theorem rIn.floatsN {t : Int} {r : Int → Int} (h : rIn t r) (w : Int) (m : Nat) (hm : (m : Int) ≤ r 2) : 0 ≤ jsum (fun b => if r (71 + 8 * b) = w then sW r b else 0) m ∧ jsum (fun b => if r (71 + 8 * b) = w then sW r b else 0) m ≤ 1500 * m := by
  have g : ∀ k : Int, 0 ≤ k → k < m → 0 ≤ (if r (71 + 8 * k) = w then sW r k else 0) ∧ (if r (71 + 8 * k) = w then sW r k else 0) ≤ 1500 := fun k a b => by
    obtain ⟨-, w0, w1, -⟩ := h.bw (k := k) a (by omega)
    split <;> omega
  have h1 := jsum_nonneg (f := fun b => if r (71 + 8 * b) = w then sW r b else 0) (n := m) (fun k a b => (g k a b).1)
  have h2 := jsum_le (f := fun b => if r (71 + 8 * b) = w then sW r b else 0) (M := 1500) (n := m) (fun k a b => (g k a b).2)
  omega
theorem jsum_one01 {f : Int → Int} (h : ∀ k : Int, 0 ≤ f k ∧ f k ≤ 1) (m : Nat) : 0 ≤ jsum f m ∧ jsum f m ≤ m := by
  have h1 := jsum_nonneg (f := f) (n := m) (fun k _ _ => (h k).1)
  have h2 := jsum_le (f := f) (M := 1) (n := m) (fun k _ _ => (h k).2)
  omega
theorem water_tail {G : JG} {S : JS} {D : JD} {d : Nat} {X t n q : Int} {hs : Int → Int → Int} {r : Int → Int} {p : Int} (hP : pSt S D X t n hs r q) (ht : t ≤ 60000) (hp : rPl r p) (l5 : Option JV) : JX G yL_water cL_water 6 (some .boolean) (d + 7) (0, 0) (0, 0) S D 74 [some (.inr (.inr (some X))), some (.inl p), some (.inl (sFl r p)), some (.inl (sCn r p)), some (.inl (r 2)), l5] [] (jr (.inl 1) S D) := by
  have hB := hP.1
  have bk := hB.1
  have hI := hP.2.1.2.2.2.1
  have b1 := hI.1
  obtain ⟨p0, p1, v0, v1, w0, w1, f0, f1, c0, c1, a0, a1, g0, g1⟩ := hI.pB ht hp
  have dq : sLv r p = r (wA p + 1) + (r (wA p + 2) + sFl r p) * 100 / r (wA p) := rfl
  have td := tdiv_pos (a := (r (wA p + 2) + sFl r p) * 100) (b := r (wA p)) (by omega)
  refine x_aload_n dL_water_74 rfl ?_
  refine x_iload_n dL_water_75 rfl ?_
  refine x_iconst dL_water_76 ?_
  refine c_RL_25d dL_water_77 rfl (to_1 hP ht hp) (Nat.le_of_ble_eq_true rfl) (Nat.le_of_ble_eq_true rfl) ⟨Nat.le_refl _, Nat.le_refl _⟩ ?_
  refine x_i2l dL_water_80 ⟨by omega, by omega⟩ ?_
  refine x_iload_n dL_water_81 rfl ?_
  refine x_i2l dL_water_82 ⟨by omega, by omega⟩ ?_
  refine x_ladd dL_water_83 ?_
  refine x_lstore dL_water_84 (by decide) ?_
  show JX _ _ _ _ _ _ _ _ _ _ _ [_, _, _, _, _, _] _ _
  refine x_aload_n dL_water_86 rfl ?_
  refine x_iload_n dL_water_87 rfl ?_
  refine x_iconst dL_water_88 ?_
  refine c_RL_25d dL_water_89 rfl (to_1 hP ht hp) (Nat.le_of_ble_eq_true rfl) (Nat.le_of_ble_eq_true rfl) ⟨Nat.le_refl _, Nat.le_refl _⟩ ?_
  refine x_if_lt (tgt := 152) dL_water_92 (by decide) ⟨by omega, by omega⟩ (fun h => absurd h (by omega)) (fun hb92 => ?_)
  refine x_aload_n dL_water_95 rfl ?_
  refine x_iload_n dL_water_96 rfl ?_
  refine x_iconst dL_water_97 ?_
  refine c_RL_25d dL_water_98 rfl (to_2 hP ht hp) (Nat.le_of_ble_eq_true rfl) (Nat.le_of_ble_eq_true rfl) ⟨Nat.le_refl _, Nat.le_refl _⟩ ?_
  refine x_iload_n dL_water_101 rfl ?_
  refine x_ic_ne (tgt := 152) dL_water_102 (by decide) ⟨by omega, by omega⟩ ⟨by omega, by omega⟩ (fun h => absurd h (by omega)) (fun hb102 => ?_)
  refine x_aload_n dL_water_105 rfl ?_
  refine x_iload_n dL_water_106 rfl ?_
  refine x_iconst dL_water_107 ?_
  refine c_RL_25d dL_water_108 rfl (to_3 hP ht hp) (Nat.le_of_ble_eq_true rfl) (Nat.le_of_ble_eq_true rfl) ⟨Nat.le_refl _, Nat.le_refl _⟩ ?_
  refine x_iload_n dL_water_111 rfl ?_
  refine x_ic_ne (tgt := 152) dL_water_112 (by decide) ⟨by omega, by omega⟩ ⟨by omega, by omega⟩ (fun h => absurd h (by omega)) (fun hb112 => ?_)
  refine x_aload_n dL_water_115 rfl ?_
  refine x_iload_n dL_water_116 rfl ?_
  refine x_iconst dL_water_117 ?_
  refine c_RL_25d dL_water_118 rfl (to_0 hP ht hp) (Nat.le_of_ble_eq_true rfl) (Nat.le_of_ble_eq_true rfl) ⟨Nat.le_refl _, Nat.le_refl _⟩ ?_
  refine x_i2l dL_water_121 ⟨by omega, by omega⟩ ?_
  refine x_aload_n dL_water_122 rfl ?_
  refine x_iload_n dL_water_123 rfl ?_
  refine x_iconst dL_water_124 ?_
  refine c_RL_25d dL_water_125 rfl (to_5 hP ht hp) (Nat.le_of_ble_eq_true rfl) (Nat.le_of_ble_eq_true rfl) ⟨Nat.le_refl _, Nat.le_refl _⟩ ?_
  refine x_i2l dL_water_128 ⟨by omega, by omega⟩ ?_
  refine x_lload dL_water_129 rfl ?_
  refine x_ldc2 (e := 100) dL_water_131 ctl_RL_31 (by decide) ?_
  refine x_lmul dL_water_134 ?_
  refine x_aload_n dL_water_135 rfl ?_
  refine x_iload_n dL_water_136 rfl ?_
  refine x_iconst dL_water_137 ?_
  refine c_RL_25d dL_water_138 rfl (to_4 hP ht hp) (Nat.le_of_ble_eq_true rfl) (Nat.le_of_ble_eq_true rfl) ⟨Nat.le_refl _, Nat.le_refl _⟩ ?_
  refine x_i2l dL_water_141 ⟨by omega, by omega⟩ ?_
  refine x_ldiv dL_water_142 ⟨by omega, by omega⟩ ⟨by omega, by omega⟩ (by omega) ?_
  rw [td]
  refine x_ladd dL_water_143 ?_
  refine x_lc_ne (tgt := 152) dL_water_144 dL_water_145 (by decide) ⟨by omega, by omega⟩ ⟨by omega, by omega⟩ (fun h => absurd h (by omega)) (fun hb145 => ?_)
  refine x_iconst dL_water_148 ?_
  refine x_goto (tgt := 153) dL_water_149 (by decide) ?_
  exact x_ireturn dL_water_153 rfl (jbool (by first | exact Or.inl rfl | exact Or.inr rfl)).1 ⟨Nat.le_refl _, Nat.le_refl _⟩ ⟨rfl, rfl, rfl⟩
theorem water_loop {G : JG} {S : JS} {D : JD} {d : Nat} {X t n q : Int} {hs : Int → Int → Int} {r : Int → Int} {p : Int} (hP : pSt S D X t n hs r q) (ht : t ≤ 60000) (hp : rPl r p) : ∀ (k i : Nat), (i : Int) + k = r 2 → ∀ l5 : Option JV, JX G yL_water cL_water 6 (some .boolean) (d + 7) (0, 0) (0, 0) S D 7 [some (.inr (.inr (some X))), some (.inl p), some (.inl (jsum (wF r p) i)), some (.inl (jsum (wC r p) i)), some (.inl (i)), l5] [] (jr (.inl 1) S D) := by
  have hB := hP.1
  have bk := hB.1
  have hI := hP.2.1.2.2.2.1
  have b1 := hI.1
  obtain ⟨p0, p1, v0, v1, w0, w1, f0, f1, c0, c1, a0, a1, g0, g1⟩ := hI.pB ht hp
  intro k
  induction k with
  | zero =>
    intro i hi l5
    have e2 : (r 2).toNat = i := by omega
    have tl := water_tail (G := G) (d := d) hP ht hp l5
    rw [show sFl r p = jsum (wF r p) i by rw [← e2]; rfl, show sCn r p = jsum (wC r p) i by rw [← e2]; rfl, show r 2 = (i : Int) by omega] at tl
    refine x_iload dL_water_7 rfl ?_
    refine x_aload_n dL_water_9 rfl ?_
    refine x_iconst dL_water_10 ?_
    refine c_RL_18d dL_water_11 rfl (tn_2 hP ht) bk (Nat.le_of_ble_eq_true rfl) (Nat.le_of_ble_eq_true rfl) ⟨Nat.le_refl _, Nat.le_refl _⟩ ?_
    refine x_ic_ge (tgt := 74) dL_water_14 (by decide) ⟨by omega, by omega⟩ ⟨by omega, by omega⟩ (fun hb14 => ?_) (fun h => (h (by omega)).elim)
    exact tl
  | succ k ih =>
    intro i hi l5
    have hk : 0 ≤ (i : Int) ∧ (i : Int) < r 2 := ⟨by omega, by omega⟩
    obtain ⟨k0, q0, q1, q2, q3, q4, q5, q6, q7, q8, q9, q10, q11, q12, q13, q14, q15, q16, q17, q18⟩ := hI.bB ht hk
    by_cases qq : r (71 + 8 * (i : Int)) = p
    · have h2 := fun l => ih (i + 1) (by omega) l
      rw [jsum_nat, jsum_nat, (wF_y qq).1, (wF_y qq).2, show (((i + 1 : Nat)) : Int) = (i : Int) + 1 by omega] at h2
      refine x_iload dL_water_7 rfl ?_
      refine x_aload_n dL_water_9 rfl ?_
      refine x_iconst dL_water_10 ?_
      refine c_RL_18d dL_water_11 rfl (tn_2 hP ht) bk (Nat.le_of_ble_eq_true rfl) (Nat.le_of_ble_eq_true rfl) ⟨Nat.le_refl _, Nat.le_refl _⟩ ?_
      refine x_ic_ge (tgt := 74) dL_water_14 (by decide) ⟨by omega, by omega⟩ ⟨by omega, by omega⟩ (fun h => absurd h (by omega)) (fun hb14 => ?_)
      refine x_aload_n dL_water_17 rfl ?_
      refine x_iload dL_water_18 rfl ?_
      refine x_bipush dL_water_20 (by decide) ?_
      refine c_RL_22d dL_water_22 rfl (tb_7 hP ht hk) bk (Nat.le_of_ble_eq_true rfl) (Nat.le_of_ble_eq_true rfl) ⟨Nat.le_refl _, Nat.le_refl _⟩ ?_
      refine x_iload_n dL_water_25 rfl ?_
      refine x_ic_ne (tgt := 33) dL_water_26 (by decide) ⟨by omega, by omega⟩ ⟨by omega, by omega⟩ (fun h => absurd h (by omega)) (fun hb26 => ?_)
      refine x_iconst dL_water_29 ?_
      refine x_goto (tgt := 34) dL_water_30 (by decide) ?_
      refine x_istore dL_water_34 (by decide) ?_
      show JX _ _ _ _ _ _ _ _ _ _ _ [_, _, _, _, _, _] _ _
      refine x_iload_n dL_water_36 rfl ?_
      refine x_iload dL_water_37 rfl ?_
      refine x_if_eq (tgt := 52) dL_water_39 (by decide) ⟨by omega, by omega⟩ (fun h => absurd h (by omega)) (fun hb39 => ?_)
      refine x_aload_n dL_water_42 rfl ?_
      refine x_iload dL_water_43 rfl ?_
      refine x_iconst dL_water_45 ?_
      refine c_RL_22d dL_water_46 rfl (tb_1 hP ht hk) bk (Nat.le_of_ble_eq_true rfl) (Nat.le_of_ble_eq_true rfl) ⟨Nat.le_refl _, Nat.le_refl _⟩ ?_
      refine x_goto (tgt := 53) dL_water_49 (by decide) ?_
      refine x_iadd dL_water_53 ?_
      refine x_istore_n dL_water_54 (by decide) ?_
      show JX _ _ _ _ _ _ _ _ _ _ _ [_, _, _, _, _, _] _ _
      refine x_iload_n dL_water_55 rfl ?_
      refine x_iload dL_water_56 rfl ?_
      refine x_if_eq (tgt := 65) dL_water_58 (by decide) ⟨by omega, by omega⟩ (fun h => absurd h (by omega)) (fun hb58 => ?_)
      refine x_iconst dL_water_61 ?_
      refine x_goto (tgt := 66) dL_water_62 (by decide) ?_
      refine x_iadd dL_water_66 ?_
      refine x_istore_n dL_water_67 (by decide) ?_
      show JX _ _ _ _ _ _ _ _ _ _ _ [_, _, _, _, _, _] _ _
      refine x_iinc dL_water_68 rfl (by decide) ?_
      show JX _ _ _ _ _ _ _ _ _ _ _ [_, _, _, _, _, _] _ _
      refine x_goto (tgt := 7) dL_water_71 (by decide) ?_
      exact h2 _
    · have h2 := fun l => ih (i + 1) (by omega) l
      rw [jsum_nat, jsum_nat, (wF_n qq).1, (wF_n qq).2, show (((i + 1 : Nat)) : Int) = (i : Int) + 1 by omega] at h2
      refine x_iload dL_water_7 rfl ?_
      refine x_aload_n dL_water_9 rfl ?_
      refine x_iconst dL_water_10 ?_
      refine c_RL_18d dL_water_11 rfl (tn_2 hP ht) bk (Nat.le_of_ble_eq_true rfl) (Nat.le_of_ble_eq_true rfl) ⟨Nat.le_refl _, Nat.le_refl _⟩ ?_
      refine x_ic_ge (tgt := 74) dL_water_14 (by decide) ⟨by omega, by omega⟩ ⟨by omega, by omega⟩ (fun h => absurd h (by omega)) (fun hb14 => ?_)
      refine x_aload_n dL_water_17 rfl ?_
      refine x_iload dL_water_18 rfl ?_
      refine x_bipush dL_water_20 (by decide) ?_
      refine c_RL_22d dL_water_22 rfl (tb_7 hP ht hk) bk (Nat.le_of_ble_eq_true rfl) (Nat.le_of_ble_eq_true rfl) ⟨Nat.le_refl _, Nat.le_refl _⟩ ?_
      refine x_iload_n dL_water_25 rfl ?_
      refine x_ic_ne (tgt := 33) dL_water_26 (by decide) ⟨by omega, by omega⟩ ⟨by omega, by omega⟩ (fun hb26 => ?_) (fun h => (h (by omega)).elim)
      refine x_iconst dL_water_33 ?_
      refine x_istore dL_water_34 (by decide) ?_
      show JX _ _ _ _ _ _ _ _ _ _ _ [_, _, _, _, _, _] _ _
      refine x_iload_n dL_water_36 rfl ?_
      refine x_iload dL_water_37 rfl ?_
      refine x_if_eq (tgt := 52) dL_water_39 (by decide) ⟨by omega, by omega⟩ (fun hb39 => ?_) (fun h => (h (by omega)).elim)
      refine x_iconst dL_water_52 ?_
      refine x_iadd dL_water_53 ?_
      refine x_istore_n dL_water_54 (by decide) ?_
      show JX _ _ _ _ _ _ _ _ _ _ _ [_, _, _, _, _, _] _ _
      refine x_iload_n dL_water_55 rfl ?_
      refine x_iload dL_water_56 rfl ?_
      refine x_if_eq (tgt := 65) dL_water_58 (by decide) ⟨by omega, by omega⟩ (fun hb58 => ?_) (fun h => (h (by omega)).elim)
      refine x_iconst dL_water_65 ?_
      refine x_iadd dL_water_66 ?_
      refine x_istore_n dL_water_67 (by decide) ?_
      show JX _ _ _ _ _ _ _ _ _ _ _ [_, _, _, _, _, _] _ _
      refine x_iinc dL_water_68 rfl (by decide) ?_
      show JX _ _ _ _ _ _ _ _ _ _ _ [_, _, _, _, _, _] _ _
      refine x_goto (tgt := 7) dL_water_71 (by decide) ?_
      exact h2 _
theorem kL_water {G : JG} {S : JS} {D : JD} {d : Nat} {X t n q : Int} {hs : Int → Int → Int} {r : Int → Int} {p : Int} (hP : pSt S D X t n hs r q) (ht : t ≤ 60000) (hp : rPl r p) : JM G yL_water cL_water 6 (some .boolean) (d + 7) (0, 0) S D [.inr (.inr (some X)), .inl p] (jr (.inl 1) S D) := by
  have hB := hP.1
  have bk := hB.1
  have hI := hP.2.1.2.2.2.1
  have b1 := hI.1
  show JX _ _ _ _ _ _ _ _ _ _ _ [_, _, _, _, _, _] _ _
  refine x_iconst dL_water_0 ?_
  refine x_istore_n dL_water_1 (by decide) ?_
  show JX _ _ _ _ _ _ _ _ _ _ _ [_, _, _, _, _, _] _ _
  refine x_iconst dL_water_2 ?_
  refine x_istore_n dL_water_3 (by decide) ?_
  show JX _ _ _ _ _ _ _ _ _ _ _ [_, _, _, _, _, _] _ _
  refine x_iconst dL_water_4 ?_
  refine x_istore dL_water_5 (by decide) ?_
  show JX _ _ _ _ _ _ _ _ _ _ _ [_, _, _, _, _, _] _ _
  exact water_loop hP ht hp (r 2).toNat 0 (by omega) none
