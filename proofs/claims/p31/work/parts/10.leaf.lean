/-! LEAVES: arithmetic, waters, sills, barges, chambers -/
theorem jcmp_r (a b : Int) : i32 (jcmp a b) := by
  unfold jcmp
  split
  · exact ⟨by omega, by omega⟩
  · split <;> exact ⟨by omega, by omega⟩
theorem jcmp_lt (a b : Int) : jcmp a b < 0 ↔ a < b := by
  unfold jcmp
  split
  · omega
  · split <;> omega
theorem jcmp_gt (a b : Int) : 0 < jcmp a b ↔ b < a := by
  unfold jcmp
  split
  · omega
  · split <;> omega
theorem jcmp_eq (a b : Int) : jcmp a b = 0 ↔ a = b := by
  unfold jcmp
  split
  · omega
  · split <;> omega
theorem jcmp_le (a b : Int) : jcmp a b ≤ 0 ↔ a ≤ b := by
  have := jcmp_gt a b
  omega
theorem jcmp_ge (a b : Int) : 0 ≤ jcmp a b ↔ b ≤ a := by
  have := jcmp_lt a b
  omega
section JLC
variable {G : JG} {y : MethodName} {cc : ByteArray} {nL : Nat} {rt : Option FieldType} {d : Nat} {kb kc : Nat × Nat} {S : JS} {D : JD} {pc : Nat} {ls : List (Option JV)} {st : List JV} {Q : Option JV → JS → JD → Prop}
theorem x_lc_eq {a b off : Int} {tgt : Nat} (hd : decode cc pc = .ok (.lcmp, 1)) (hd2 : decode cc (pc + 1) = .ok (.ifCond .eq off, 3)) (ht : ((pc + 1 : Nat) : Int) + off = (tgt : Int)) (ra : i64 a) (rb : i64 b) (Kt : a = b → JX G y cc nL rt d kb kc S D tgt ls st Q) (Kf : ¬ (a = b) → JX G y cc nL rt d kb kc S D (pc + 1 + 3) ls st Q) : JX G y cc nL rt d kb kc S D pc ls (.inr (.inl b) :: .inr (.inl a) :: st) Q :=
  x_lcmp hd ra rb (x_if_eq hd2 ht (jcmp_r a b) (fun h => Kt ((jcmp_eq a b).mp h)) (fun h => Kf (fun z => h ((jcmp_eq a b).mpr z))))
theorem x_lc_ne {a b off : Int} {tgt : Nat} (hd : decode cc pc = .ok (.lcmp, 1)) (hd2 : decode cc (pc + 1) = .ok (.ifCond .ne off, 3)) (ht : ((pc + 1 : Nat) : Int) + off = (tgt : Int)) (ra : i64 a) (rb : i64 b) (Kt : ¬ a = b → JX G y cc nL rt d kb kc S D tgt ls st Q) (Kf : ¬ (¬ a = b) → JX G y cc nL rt d kb kc S D (pc + 1 + 3) ls st Q) : JX G y cc nL rt d kb kc S D pc ls (.inr (.inl b) :: .inr (.inl a) :: st) Q :=
  x_lcmp hd ra rb (x_if_ne hd2 ht (jcmp_r a b) (fun h => Kt ((not_congr (jcmp_eq a b)).mp h)) (fun h => Kf (fun z => h ((not_congr (jcmp_eq a b)).mpr z))))
theorem x_lc_lt {a b off : Int} {tgt : Nat} (hd : decode cc pc = .ok (.lcmp, 1)) (hd2 : decode cc (pc + 1) = .ok (.ifCond .lt off, 3)) (ht : ((pc + 1 : Nat) : Int) + off = (tgt : Int)) (ra : i64 a) (rb : i64 b) (Kt : a < b → JX G y cc nL rt d kb kc S D tgt ls st Q) (Kf : ¬ (a < b) → JX G y cc nL rt d kb kc S D (pc + 1 + 3) ls st Q) : JX G y cc nL rt d kb kc S D pc ls (.inr (.inl b) :: .inr (.inl a) :: st) Q :=
  x_lcmp hd ra rb (x_if_lt hd2 ht (jcmp_r a b) (fun h => Kt ((jcmp_lt a b).mp h)) (fun h => Kf (fun z => h ((jcmp_lt a b).mpr z))))
theorem x_lc_ge {a b off : Int} {tgt : Nat} (hd : decode cc pc = .ok (.lcmp, 1)) (hd2 : decode cc (pc + 1) = .ok (.ifCond .ge off, 3)) (ht : ((pc + 1 : Nat) : Int) + off = (tgt : Int)) (ra : i64 a) (rb : i64 b) (Kt : b ≤ a → JX G y cc nL rt d kb kc S D tgt ls st Q) (Kf : ¬ (b ≤ a) → JX G y cc nL rt d kb kc S D (pc + 1 + 3) ls st Q) : JX G y cc nL rt d kb kc S D pc ls (.inr (.inl b) :: .inr (.inl a) :: st) Q :=
  x_lcmp hd ra rb (x_if_ge hd2 ht (jcmp_r a b) (fun h => Kt ((jcmp_ge a b).mp h)) (fun h => Kf (fun z => h ((jcmp_ge a b).mpr z))))
theorem x_lc_gt {a b off : Int} {tgt : Nat} (hd : decode cc pc = .ok (.lcmp, 1)) (hd2 : decode cc (pc + 1) = .ok (.ifCond .gt off, 3)) (ht : ((pc + 1 : Nat) : Int) + off = (tgt : Int)) (ra : i64 a) (rb : i64 b) (Kt : b < a → JX G y cc nL rt d kb kc S D tgt ls st Q) (Kf : ¬ (b < a) → JX G y cc nL rt d kb kc S D (pc + 1 + 3) ls st Q) : JX G y cc nL rt d kb kc S D pc ls (.inr (.inl b) :: .inr (.inl a) :: st) Q :=
  x_lcmp hd ra rb (x_if_gt hd2 ht (jcmp_r a b) (fun h => Kt ((jcmp_gt a b).mp h)) (fun h => Kf (fun z => h ((jcmp_gt a b).mpr z))))
theorem x_lc_le {a b off : Int} {tgt : Nat} (hd : decode cc pc = .ok (.lcmp, 1)) (hd2 : decode cc (pc + 1) = .ok (.ifCond .le off, 3)) (ht : ((pc + 1 : Nat) : Int) + off = (tgt : Int)) (ra : i64 a) (rb : i64 b) (Kt : a ≤ b → JX G y cc nL rt d kb kc S D tgt ls st Q) (Kf : ¬ (a ≤ b) → JX G y cc nL rt d kb kc S D (pc + 1 + 3) ls st Q) : JX G y cc nL rt d kb kc S D pc ls (.inr (.inl b) :: .inr (.inl a) :: st) Q :=
  x_lcmp hd ra rb (x_if_le hd2 ht (jcmp_r a b) (fun h => Kt ((jcmp_le a b).mp h)) (fun h => Kf (fun z => h ((jcmp_le a b).mpr z))))
end JLC
theorem jxor_lt {a b : Int} (ra : i64 a) (rb : i64 b) (hb : 0 < b) : jxor a b < 0 ↔ a < 0 := by
  have e : jxor a b = ((Int64.ofInt a).toBitVec ^^^ (Int64.ofInt b).toBitVec).toInt := rfl
  have ea : (Int64.ofInt a).toBitVec.toInt = a := i64_t ra
  have eb : (Int64.ofInt b).toBitVec.toInt = b := i64_t rb
  have m : ∀ x : BitVec 64, x.toInt < 0 ↔ x.msb = true := fun x => by
    first | exact BitVec.toInt_neg_iff_msb | (rw [BitVec.msb_eq_toInt]; simp) | (rw [← BitVec.msb_eq_toInt]; simp)
  rw [e, m, BitVec.msb_xor]
  have hb2 : (Int64.ofInt b).toBitVec.msb = false := by
    cases h : (Int64.ofInt b).toBitVec.msb with
    | false => rfl
    | true => have := (m _).mpr h; omega
  rw [hb2, Bool.xor_false, ← m, ea]
theorem jxor_r (a b : Int) : i64 (jxor a b) := by
  have h1 := (Int64.ofInt a ^^^ Int64.ofInt b).toInt_lt
  have h2 := (Int64.ofInt a ^^^ Int64.ofInt b).le_toInt
  unfold jxor
  exact ⟨by omega, by omega⟩
/-- division that rounds down, out of the one that cuts -/
theorem jfd_neg {a b : Int} (ha : a < 0) (hb : 0 < b) (hm : a.tdiv b * b ≠ a) : a / b = a.tdiv b - 1 := by
  have h1 := Int.mul_tdiv_add_tmod a b
  have h2 : a.tmod b ≤ 0 := by
    have := Int.tmod_nonneg (a := -a) b (by omega)
    rw [Int.neg_tmod] at this
    omega
  have h3 : -b < a.tmod b := Int.lt_tmod_of_pos a hb
  have e : a.tdiv b * b = b * a.tdiv b := Int.mul_comm _ _
  have h4 : a.tmod b ≠ 0 := by omega
  have e2 : b * (a.tdiv b - 1) = b * a.tdiv b - b := by rw [Int.mul_sub, Int.mul_one]
  exact ((Int.ediv_emod_unique (r := a.tmod b + b) (q := a.tdiv b - 1) hb).mpr ⟨by omega, by omega, by omega⟩).1
theorem jfd_exact {a b : Int} (hb : 0 < b) (hm : a.tdiv b * b = a) : a / b = a.tdiv b := by
  have e : a.tdiv b * b = b * a.tdiv b := Int.mul_comm _ _
  exact ((Int.ediv_emod_unique (r := 0) (q := a.tdiv b) hb).mpr ⟨by omega, by omega, by omega⟩).1
theorem jfd_pos {a b : Int} (ha : 0 ≤ a) : a / b = a.tdiv b := (Int.tdiv_eq_ediv_of_nonneg ha).symm
theorem jd_mul {a b : Int} (ra : i64 a) (h0 : 0 < b) : i64 (a.tdiv b * b) := by
  have h1 := Int.mul_tdiv_add_tmod a b
  have e : a.tdiv b * b = b * a.tdiv b := Int.mul_comm _ _
  unfold i64 at ra ⊢
  rcases Int.le_total 0 a with q | q
  · have h2 := Int.tmod_nonneg (a := a) b q
    have h3 := Int.mul_nonneg (Int.le_of_lt h0) (jd_nonneg q h0)
    omega
  · have h2 := Int.tmod_nonneg (a := -a) b (by omega)
    rw [Int.neg_tmod] at h2
    have h3 := Int.mul_nonneg (Int.le_of_lt h0) (show 0 ≤ -(a.tdiv b) by have := jd_neg q h0; omega)
    rw [Int.mul_neg] at h3
    omega
theorem kJ9_floorDiv {G : JG} {S : JS} {D : JD} {d : Nat} {x z : Int} (rx : i64 x) (rz : i64 z) (hz : 0 < z) : JM G yJ9_floorDiv_f86c9 cJ9_floorDiv_f86c9 6 (some .long) d (0, 0) S D [.inr (.inl x), .inr (.inl z)] (jr (.inr (.inl (x / z))) S D) := by
  show JX _ _ _ _ _ _ _ _ _ _ _ [_, _, _, _, _, _] _ _
  refine x_lload_n dJ9_floorDiv_f86c9_0 rfl ?_
  refine x_lload_n dJ9_floorDiv_f86c9_1 rfl ?_
  refine x_ldiv dJ9_floorDiv_f86c9_2 rx rz hz ?_
  refine x_lstore dJ9_floorDiv_f86c9_3 (by decide) ?_
  show JX _ _ _ _ _ _ _ _ _ _ _ [_, _, _, _, _, _] _ _
  refine x_lload_n dJ9_floorDiv_f86c9_5 rfl ?_
  refine x_lload_n dJ9_floorDiv_f86c9_6 rfl ?_
  refine x_lxor dJ9_floorDiv_f86c9_7 ?_
  refine x_lconst (e := 0) dJ9_floorDiv_f86c9_8 (by decide) ?_
  refine x_lc_ge (tgt := 27) dJ9_floorDiv_f86c9_9 dJ9_floorDiv_f86c9_10 (by decide) (jxor_r x z) ⟨by omega, by omega⟩ (fun hb10 => ?_) (fun hb10 => ?_)
  · refine x_lload dJ9_floorDiv_f86c9_27 rfl ?_
    exact x_lreturn dJ9_floorDiv_f86c9_29 rfl ⟨Nat.le_refl _, Nat.le_refl _⟩ ⟨by first | rw [jfd_pos (by have := jxor_lt rx rz hz; omega)] | rw [jfd_exact hz hb19], rfl, rfl⟩
  · refine x_lload dJ9_floorDiv_f86c9_13 rfl ?_
    refine x_lload_n dJ9_floorDiv_f86c9_15 rfl ?_
    refine x_lmul dJ9_floorDiv_f86c9_16 ?_
    refine x_lload_n dJ9_floorDiv_f86c9_17 rfl ?_
    refine x_lc_eq (tgt := 27) dJ9_floorDiv_f86c9_18 dJ9_floorDiv_f86c9_19 (by decide) (jd_mul rx hz) rx (fun hb19 => ?_) (fun hb19 => ?_)
    · refine x_lload dJ9_floorDiv_f86c9_27 rfl ?_
      exact x_lreturn dJ9_floorDiv_f86c9_29 rfl ⟨Nat.le_refl _, Nat.le_refl _⟩ ⟨by first | rw [jfd_pos (by have := jxor_lt rx rz hz; omega)] | rw [jfd_exact hz hb19], rfl, rfl⟩
    · refine x_lload dJ9_floorDiv_f86c9_22 rfl ?_
      refine x_lconst (e := 1) dJ9_floorDiv_f86c9_24 (by decide) ?_
      refine x_lsub dJ9_floorDiv_f86c9_25 ?_
      exact x_lreturn dJ9_floorDiv_f86c9_26 rfl ⟨Nat.le_refl _, Nat.le_refl _⟩ ⟨by rw [jfd_neg (by have := jxor_lt rx rz hz; omega) hz hb19], rfl, rfl⟩
theorem kJ9_minl {G : JG} {S : JS} {D : JD} {d : Nat} {a b : Int} (ra : i64 a) (rb : i64 b) : JM G yJ9_min_f86c9 cJ9_min_f86c9 4 (some .long) d (0, 0) S D [.inr (.inl a), .inr (.inl b)] (jr (.inr (.inl (min a b))) S D) := by
  show JX _ _ _ _ _ _ _ _ _ _ _ [_, _, _, _] _ _
  refine x_lload_n dJ9_min_f86c9_0 rfl ?_
  refine x_lload_n dJ9_min_f86c9_1 rfl ?_
  refine x_lc_gt (tgt := 10) dJ9_min_f86c9_2 dJ9_min_f86c9_3 (by decide) ra rb (fun hb3 => ?_) (fun hb3 => ?_)
  · refine x_lload_n dJ9_min_f86c9_10 rfl ?_
    exact x_lreturn dJ9_min_f86c9_11 rfl ⟨Nat.le_refl _, Nat.le_refl _⟩ ⟨by congr; omega, rfl, rfl⟩
  · refine x_lload_n dJ9_min_f86c9_6 rfl ?_
    refine x_goto (tgt := 11) dJ9_min_f86c9_7 (by decide) ?_
    exact x_lreturn dJ9_min_f86c9_11 rfl ⟨Nat.le_refl _, Nat.le_refl _⟩ ⟨by congr; omega, rfl, rfl⟩
theorem kJ9_maxl {G : JG} {S : JS} {D : JD} {d : Nat} {a b : Int} (ra : i64 a) (rb : i64 b) : JM G yJ9_max_f86c9 cJ9_max_f86c9 4 (some .long) d (0, 0) S D [.inr (.inl a), .inr (.inl b)] (jr (.inr (.inl (max a b))) S D) := by
  show JX _ _ _ _ _ _ _ _ _ _ _ [_, _, _, _] _ _
  refine x_lload_n dJ9_max_f86c9_0 rfl ?_
  refine x_lload_n dJ9_max_f86c9_1 rfl ?_
  refine x_lc_lt (tgt := 10) dJ9_max_f86c9_2 dJ9_max_f86c9_3 (by decide) ra rb (fun hb3 => ?_) (fun hb3 => ?_)
  · refine x_lload_n dJ9_max_f86c9_10 rfl ?_
    exact x_lreturn dJ9_max_f86c9_11 rfl ⟨Nat.le_refl _, Nat.le_refl _⟩ ⟨by congr; omega, rfl, rfl⟩
  · refine x_lload_n dJ9_max_f86c9_6 rfl ?_
    refine x_goto (tgt := 11) dJ9_max_f86c9_7 (by decide) ?_
    exact x_lreturn dJ9_max_f86c9_11 rfl ⟨Nat.le_refl _, Nat.le_refl _⟩ ⟨by congr; omega, rfl, rfl⟩
theorem kJ9_mini {G : JG} {S : JS} {D : JD} {d : Nat} {a b : Int} (ra : i32 a) (rb : i32 b) : JM G yJ9_min_7cf53 cJ9_min_7cf53 2 (some .int) d (0, 0) S D [.inl a, .inl b] (jr (.inl (min a b)) S D) := by
  show JX _ _ _ _ _ _ _ _ _ _ _ [_, _] _ _
  refine x_iload_n dJ9_min_7cf53_0 rfl ?_
  refine x_iload_n dJ9_min_7cf53_1 rfl ?_
  refine x_ic_gt (tgt := 9) dJ9_min_7cf53_2 (by decide) ra rb (fun hb2 => ?_) (fun hb2 => ?_)
  · refine x_iload_n dJ9_min_7cf53_9 rfl ?_
    exact x_ireturn dJ9_min_7cf53_10 rfl rfl ⟨Nat.le_refl _, Nat.le_refl _⟩ ⟨by congr; omega, rfl, rfl⟩
  · refine x_iload_n dJ9_min_7cf53_5 rfl ?_
    refine x_goto (tgt := 10) dJ9_min_7cf53_6 (by decide) ?_
    exact x_ireturn dJ9_min_7cf53_10 rfl rfl ⟨Nat.le_refl _, Nat.le_refl _⟩ ⟨by congr; omega, rfl, rfl⟩
theorem kJ9_abs {G : JG} {S : JS} {D : JD} {d : Nat} {a : Int} (ra : i64 a) : JM G yJ9_abs_067f4 cJ9_abs_067f4 2 (some .long) d (0, 0) S D [.inr (.inl a)] (jr (.inr (.inl (max a (-a)))) S D) := by
  show JX _ _ _ _ _ _ _ _ _ _ _ [_, _] _ _
  refine x_lload_n dJ9_abs_067f4_0 rfl ?_
  refine x_lconst (e := 0) dJ9_abs_067f4_1 (by decide) ?_
  refine x_lc_ge (tgt := 11) dJ9_abs_067f4_2 dJ9_abs_067f4_3 (by decide) ra ⟨by omega, by omega⟩ (fun hb3 => ?_) (fun hb3 => ?_)
  · refine x_lload_n dJ9_abs_067f4_11 rfl ?_
    exact x_lreturn dJ9_abs_067f4_12 rfl ⟨Nat.le_refl _, Nat.le_refl _⟩ ⟨by congr; omega, rfl, rfl⟩
  · refine x_lload_n dJ9_abs_067f4_6 rfl ?_
    refine x_lneg dJ9_abs_067f4_7 ?_
    refine x_goto (tgt := 12) dJ9_abs_067f4_8 (by decide) ?_
    exact x_lreturn dJ9_abs_067f4_12 rfl ⟨Nat.le_refl _, Nat.le_refl _⟩ ⟨by congr; omega, rfl, rfl⟩
theorem kX7_isWithin {G : JG} {S : JS} {D : JD} {d : Nat} {v l m : Int} (rv : i32 v) (rl : i32 l) (rm : i32 m) : JM G yX7_isWithin cX7_isWithin 3 (some .boolean) d (0, 0) S D [.inl v, .inl l, .inl m] (jr (.inl (if l ≤ v ∧ v ≤ m then 1 else 0)) S D) := by
  show JX _ _ _ _ _ _ _ _ _ _ _ [_, _, _] _ _
  refine x_iload_n dX7_isWithin_0 rfl ?_
  refine x_iload_n dX7_isWithin_1 rfl ?_
  refine x_ic_lt (tgt := 14) dX7_isWithin_2 (by decide) rv rl (fun hb2 => ?_) (fun hb2 => ?_)
  · refine x_iconst dX7_isWithin_14 ?_
    exact x_ireturn dX7_isWithin_15 rfl (jbool (by first | exact Or.inl rfl | exact Or.inr rfl)).1 ⟨Nat.le_refl _, Nat.le_refl _⟩ ⟨by congr; omega, rfl, rfl⟩
  · refine x_iload_n dX7_isWithin_5 rfl ?_
    refine x_iload_n dX7_isWithin_6 rfl ?_
    refine x_ic_gt (tgt := 14) dX7_isWithin_7 (by decide) rv rm (fun hb7 => ?_) (fun hb7 => ?_)
    · refine x_iconst dX7_isWithin_14 ?_
      exact x_ireturn dX7_isWithin_15 rfl (jbool (by first | exact Or.inl rfl | exact Or.inr rfl)).1 ⟨Nat.le_refl _, Nat.le_refl _⟩ ⟨by congr; omega, rfl, rfl⟩
    · refine x_iconst dX7_isWithin_10 ?_
      refine x_goto (tgt := 15) dX7_isWithin_11 (by decide) ?_
      exact x_ireturn dX7_isWithin_15 rfl (jbool (by first | exact Or.inl rfl | exact Or.inr rfl)).1 ⟨Nat.le_refl _, Nat.le_refl _⟩ ⟨by congr; omega, rfl, rfl⟩
theorem kX7_isBasin {G : JG} {S : JS} {D : JD} {d : Nat} {a f : Int} (ra : i32 a) (rf : i32 f) : JM G yX7_isBasin cX7_isBasin 2 (some .boolean) (d + 1) (0, 0) S D [.inl a, .inl f] (jr (.inl (if 100 ≤ a ∧ a ≤ 100000 ∧ 0 ≤ f ∧ f ≤ 5000 then 1 else 0)) S D) := by
  show JX _ _ _ _ _ _ _ _ _ _ _ [_, _] _ _
  refine x_iload_n dX7_isBasin_0 rfl ?_
  refine x_bipush dX7_isBasin_1 (by decide) ?_
  refine x_ldcw (e := 100000) dX7_isBasin_3 ct_RX7_312 (by decide) ?_
  refine c_RX7_65d dX7_isBasin_6 rfl (kX7_isWithin (by assumption) ⟨by omega, by omega⟩ ⟨by omega, by omega⟩) (Nat.le_of_ble_eq_true rfl) (Nat.le_of_ble_eq_true rfl) ⟨Nat.le_refl _, Nat.le_refl _⟩ ?_
  refine x_if_eq (tgt := 27) dX7_isBasin_9 (by decide) ⟨by split <;> omega, by split <;> omega⟩ (fun hb9 => ?_) (fun hb9 => ?_)
  · refine x_iconst dX7_isBasin_27 ?_
    exact x_ireturn dX7_isBasin_28 rfl (jbool (by first | exact Or.inl rfl | exact Or.inr rfl)).1 ⟨Nat.le_refl _, Nat.le_refl _⟩ ⟨by congr; omega, rfl, rfl⟩
  · refine x_iload_n dX7_isBasin_12 rfl ?_
    refine x_iconst dX7_isBasin_13 ?_
    refine x_sipush dX7_isBasin_14 (by decide) ?_
    refine c_RX7_65d dX7_isBasin_17 rfl (kX7_isWithin (by assumption) ⟨by omega, by omega⟩ ⟨by omega, by omega⟩) (Nat.le_of_ble_eq_true rfl) (Nat.le_of_ble_eq_true rfl) ⟨Nat.le_refl _, Nat.le_refl _⟩ ?_
    refine x_if_eq (tgt := 27) dX7_isBasin_20 (by decide) ⟨by split <;> omega, by split <;> omega⟩ (fun hb20 => ?_) (fun hb20 => ?_)
    · refine x_iconst dX7_isBasin_27 ?_
      exact x_ireturn dX7_isBasin_28 rfl (jbool (by first | exact Or.inl rfl | exact Or.inr rfl)).1 ⟨Nat.le_refl _, Nat.le_refl _⟩ ⟨by congr; omega, rfl, rfl⟩
    · refine x_iconst dX7_isBasin_23 ?_
      refine x_goto (tgt := 28) dX7_isBasin_24 (by decide) ?_
      exact x_ireturn dX7_isBasin_28 rfl (jbool (by first | exact Or.inl rfl | exact Or.inr rfl)).1 ⟨Nat.le_refl _, Nat.le_refl _⟩ ⟨by congr; omega, rfl, rfl⟩
theorem kX7_isReach {G : JG} {S : JS} {D : JD} {d : Nat} {a f w : Int} (ra : i32 a) (rf : i32 f) (rw0 : i32 w) : JM G yX7_isReach cX7_isReach 3 (some .boolean) (d + 2) (0, 0) S D [.inl a, .inl f, .inl w] (jr (.inl (if 100 ≤ a ∧ a ≤ 100000 ∧ 0 ≤ f ∧ f ≤ 5000 ∧ 0 ≤ w ∧ w ≤ 10000000 then 1 else 0)) S D) := by
  show JX _ _ _ _ _ _ _ _ _ _ _ [_, _, _] _ _
  refine x_iload_n dX7_isReach_0 rfl ?_
  refine x_iload_n dX7_isReach_1 rfl ?_
  refine c_RX7_61d dX7_isReach_2 rfl (kX7_isBasin (by assumption) (by assumption)) (Nat.le_of_ble_eq_true rfl) (Nat.le_of_ble_eq_true rfl) ⟨Nat.le_refl _, Nat.le_refl _⟩ ?_
  refine x_if_eq (tgt := 23) dX7_isReach_5 (by decide) ⟨by split <;> omega, by split <;> omega⟩ (fun hb5 => ?_) (fun hb5 => ?_)
  · refine x_iconst dX7_isReach_23 ?_
    exact x_ireturn dX7_isReach_24 rfl (jbool (by first | exact Or.inl rfl | exact Or.inr rfl)).1 ⟨Nat.le_refl _, Nat.le_refl _⟩ ⟨by congr; omega, rfl, rfl⟩
  · refine x_iload_n dX7_isReach_8 rfl ?_
    refine x_iconst dX7_isReach_9 ?_
    refine x_ldcw (e := 10000000) dX7_isReach_10 ct_RX7_313 (by decide) ?_
    refine c_RX7_65d dX7_isReach_13 rfl (kX7_isWithin (by assumption) ⟨by omega, by omega⟩ ⟨by omega, by omega⟩) (Nat.le_of_ble_eq_true rfl) (Nat.le_of_ble_eq_true rfl) ⟨Nat.le_refl _, Nat.le_refl _⟩ ?_
    refine x_if_eq (tgt := 23) dX7_isReach_16 (by decide) ⟨by split <;> omega, by split <;> omega⟩ (fun hb16 => ?_) (fun hb16 => ?_)
    · refine x_iconst dX7_isReach_23 ?_
      exact x_ireturn dX7_isReach_24 rfl (jbool (by first | exact Or.inl rfl | exact Or.inr rfl)).1 ⟨Nat.le_refl _, Nat.le_refl _⟩ ⟨by congr; omega, rfl, rfl⟩
    · refine x_iconst dX7_isReach_19 ?_
      refine x_goto (tgt := 24) dX7_isReach_20 (by decide) ?_
      exact x_ireturn dX7_isReach_24 rfl (jbool (by first | exact Or.inl rfl | exact Or.inr rfl)).1 ⟨Nat.le_refl _, Nat.le_refl _⟩ ⟨by congr; omega, rfl, rfl⟩
theorem kX7_isTons {G : JG} {S : JS} {D : JD} {d : Nat} {v : Int} (rv : i32 v) : JM G yX7_isTons cX7_isTons 1 (some .boolean) (d + 1) (0, 0) S D [.inl v] (jr (.inl (if v ≠ 0 ∧ -1000 ≤ v ∧ v ≤ 1000 then 1 else 0)) S D) := by
  show JX _ _ _ _ _ _ _ _ _ _ _ [_] _ _
  refine x_iload_n dX7_isTons_0 rfl ?_
  refine x_if_eq (tgt := 21) dX7_isTons_1 (by decide) rv (fun hb1 => ?_) (fun hb1 => ?_)
  · refine x_iconst dX7_isTons_21 ?_
    exact x_ireturn dX7_isTons_22 rfl (jbool (by first | exact Or.inl rfl | exact Or.inr rfl)).1 ⟨Nat.le_refl _, Nat.le_refl _⟩ ⟨by congr; omega, rfl, rfl⟩
  · refine x_iload_n dX7_isTons_4 rfl ?_
    refine x_sipush dX7_isTons_5 (by decide) ?_
    refine x_sipush dX7_isTons_8 (by decide) ?_
    refine c_RX7_65d dX7_isTons_11 rfl (kX7_isWithin (by assumption) ⟨by omega, by omega⟩ ⟨by omega, by omega⟩) (Nat.le_of_ble_eq_true rfl) (Nat.le_of_ble_eq_true rfl) ⟨Nat.le_refl _, Nat.le_refl _⟩ ?_
    refine x_if_eq (tgt := 21) dX7_isTons_14 (by decide) ⟨by split <;> omega, by split <;> omega⟩ (fun hb14 => ?_) (fun hb14 => ?_)
    · refine x_iconst dX7_isTons_21 ?_
      exact x_ireturn dX7_isTons_22 rfl (jbool (by first | exact Or.inl rfl | exact Or.inr rfl)).1 ⟨Nat.le_refl _, Nat.le_refl _⟩ ⟨by congr; omega, rfl, rfl⟩
    · refine x_iconst dX7_isTons_17 ?_
      refine x_goto (tgt := 22) dX7_isTons_18 (by decide) ?_
      exact x_ireturn dX7_isTons_22 rfl (jbool (by first | exact Or.inl rfl | exact Or.inr rfl)).1 ⟨Nat.le_refl _, Nat.le_refl _⟩ ⟨by congr; omega, rfl, rfl⟩
theorem kX7_divideDown {G : JG} {S : JS} {D : JD} {d : Nat} {x z : Int} (rx : i64 x) (rz : i64 z) (hz : 0 < z) : JM G yX7_divideDown cX7_divideDown 4 (some .long) (d + 1) (0, 0) S D [.inr (.inl x), .inr (.inl z)] (jr (.inr (.inl (x / z))) S D) := by
  show JX _ _ _ _ _ _ _ _ _ _ _ [_, _, _, _] _ _
  refine x_lload_n dX7_divideDown_0 rfl ?_
  refine x_lconst (e := 1) dX7_divideDown_1 (by decide) ?_
  refine x_lc_ge (tgt := 10) dX7_divideDown_2 dX7_divideDown_3 (by decide) rz ⟨by omega, by omega⟩ (fun hb3 => ?_) (fun h => (h (by omega)).elim)
  refine x_lload_n dX7_divideDown_10 rfl ?_
  refine x_lload_n dX7_divideDown_11 rfl ?_
  refine c_RX7_314d dX7_divideDown_12 rfl (kJ9_floorDiv rx rz hz) (Nat.le_of_ble_eq_true rfl) (Nat.le_of_ble_eq_true rfl) ⟨Nat.le_refl _, Nat.le_refl _⟩ ?_
  exact x_lreturn dX7_divideDown_15 rfl ⟨Nat.le_refl _, Nat.le_refl _⟩ ⟨rfl, rfl, rfl⟩
def dW (D : JD) (w a f m : Int) : JD := jup (jup (jup (jup (jup D w 0 a) w 1 f) w 2 m) w 3 0) w 4 0
def dWc (D : JD) (w o : Int) : JD :=
  let D1 := jup D o 0 (D w 0)
  let D2 := jup D1 o 1 (D1 w 1)
  let D3 := jup D2 o 2 (D2 w 2)
  let D4 := jup D3 o 3 (D3 w 3)
  jup D4 o 4 (D4 w 4)
def dS0 (D : JD) (s : Int) : JD := jup (jup (jup D s 0 0) s 1 0) s 2 0
def dSc (D : JD) (s o : Int) : JD :=
  let D1 := jup D o 0 (D s 0)
  let D2 := jup D1 o 1 (D1 s 1)
  jup D2 o 2 (D2 s 2)
theorem kX6_begin {G : JG} {S : JS} {D : JD} {d : Nat} {w a f m : Int} (hk : jK S w = 6) (ra : i32 a) (rf : i32 f) (rm : i32 m) : JM G yX6_begin cX6_begin 4 none d (0, 0) S D [.inr (.inr (some w)), .inl a, .inl f, .inl m] (jn S (dW D w a f m)) := by
  show JX _ _ _ _ _ _ _ _ _ _ _ [_, _, _, _] _ _
  refine x_aload_n dX6_begin_0 rfl ?_
  refine x_iload_n dX6_begin_1 rfl ?_
  refine x_i2l dX6_begin_2 ra ?_
  refine pf_RX6_9 dX6_begin_3 rfl (by assumption) ?_
  refine x_aload_n dX6_begin_6 rfl ?_
  refine x_iload_n dX6_begin_7 rfl ?_
  refine x_i2l dX6_begin_8 rf ?_
  refine pf_RX6_15 dX6_begin_9 rfl (by assumption) ?_
  refine x_aload_n dX6_begin_12 rfl ?_
  refine x_iload_n dX6_begin_13 rfl ?_
  refine x_i2l dX6_begin_14 rm ?_
  refine pf_RX6_18 dX6_begin_15 rfl (by assumption) ?_
  refine x_aload_n dX6_begin_18 rfl ?_
  refine x_lconst (e := 0) dX6_begin_19 (by decide) ?_
  refine pf_RX6_21 dX6_begin_20 rfl (by assumption) ?_
  refine x_aload_n dX6_begin_23 rfl ?_
  refine x_iconst dX6_begin_24 ?_
  refine pf_RX6_24 dX6_begin_25 rfl (by assumption) ?_
  exact x_return dX6_begin_28 rfl ⟨Nat.le_refl _, Nat.le_refl _⟩ ⟨rfl, rfl, rfl⟩
theorem kX6_depth {G : JG} {S : JS} {D : JD} {d : Nat} {w : Int} (hk : jK S w = 6) (h1 : i64 ((D w 2 + D w 3) * 100)) (h2 : i64 (D w 0)) (h3 : 0 < D w 0) : JM G yX6_depth cX6_depth 1 (some .long) (d + 2) (0, 0) S D [.inr (.inr (some w))] (jr (.inr (.inl ((D w 2 + D w 3) * 100 / D w 0))) S D) := by
  show JX _ _ _ _ _ _ _ _ _ _ _ [_] _ _
  refine x_aload_n dX6_depth_0 rfl ?_
  refine gf_RX6_18 dX6_depth_1 rfl (by assumption) ?_
  refine x_aload_n dX6_depth_4 rfl ?_
  refine gf_RX6_21 dX6_depth_5 rfl (by assumption) ?_
  refine x_ladd dX6_depth_8 ?_
  refine x_ldc2 (e := 100) dX6_depth_9 ctl_RX6_28 (by decide) ?_
  refine x_lmul dX6_depth_12 ?_
  refine x_aload_n dX6_depth_13 rfl ?_
  refine gf_RX6_9 dX6_depth_14 rfl (by assumption) ?_
  refine n_RX6_30d dX6_depth_17 rfl (kX7_divideDown h1 h2 h3) (Nat.le_of_ble_eq_true rfl) (Nat.le_of_ble_eq_true rfl) ⟨Nat.le_refl _, Nat.le_refl _⟩ ?_
  exact x_lreturn dX6_depth_20 rfl ⟨Nat.le_refl _, Nat.le_refl _⟩ ⟨rfl, rfl, rfl⟩
theorem kX6_level {G : JG} {S : JS} {D : JD} {d : Nat} {w : Int} (hk : jK S w = 6) (h1 : i64 ((D w 2 + D w 3) * 100)) (h2 : i64 (D w 0)) (h3 : 0 < D w 0) : JM G yX6_level cX6_level 1 (some .long) (d + 3) (0, 0) S D [.inr (.inr (some w))] (jr (.inr (.inl (D w 1 + (D w 2 + D w 3) * 100 / D w 0))) S D) := by
  show JX _ _ _ _ _ _ _ _ _ _ _ [_] _ _
  refine x_aload_n dX6_level_0 rfl ?_
  refine gf_RX6_15 dX6_level_1 rfl (by assumption) ?_
  refine x_aload_n dX6_level_4 rfl ?_
  refine c_RX6_34d dX6_level_5 rfl (kX6_depth hk h1 h2 h3) (by assumption) (Nat.le_of_ble_eq_true rfl) (Nat.le_of_ble_eq_true rfl) ⟨Nat.le_refl _, Nat.le_refl _⟩ ?_
  refine x_ladd dX6_level_8 ?_
  exact x_lreturn dX6_level_9 rfl ⟨Nat.le_refl _, Nat.le_refl _⟩ ⟨rfl, rfl, rfl⟩
theorem kX6_takeIn {G : JG} {S : JS} {D : JD} {d : Nat} {w e : Int} (hk : jK S w = 6) (re : i32 e) : JM G yX6_takeIn cX6_takeIn 2 none d (0, 0) S D [.inr (.inr (some w)), .inl e] (jn S (jup (jup D w 3 (D w 3 + e)) w 4 (D w 4 + 1))) := by
  show JX _ _ _ _ _ _ _ _ _ _ _ [_, _] _ _
  refine x_aload_n dX6_takeIn_0 rfl ?_
  refine x_dup dX6_takeIn_1 (fun _ h => by cases h) ?_
  refine gf_RX6_21 dX6_takeIn_2 rfl (by assumption) ?_
  refine x_iload_n dX6_takeIn_5 rfl ?_
  refine x_i2l dX6_takeIn_6 re ?_
  refine x_ladd dX6_takeIn_7 ?_
  refine pf_RX6_21 dX6_takeIn_8 rfl (by assumption) ?_
  refine x_aload_n dX6_takeIn_11 rfl ?_
  refine x_dup dX6_takeIn_12 (fun _ h => by cases h) ?_
  refine gf_RX6_24 dX6_takeIn_13 rfl (by assumption) ?_
  refine x_iconst dX6_takeIn_16 ?_
  refine x_iadd dX6_takeIn_17 ?_
  refine pf_RX6_24 dX6_takeIn_18 rfl (by assumption) ?_
  exact x_return dX6_takeIn_21 rfl ⟨Nat.le_refl _, Nat.le_refl _⟩ ⟨rfl, rfl, by simp only [jup_nk (show (4 : Int) ≠ 3 by decide)]⟩
theorem kX6_letOut {G : JG} {S : JS} {D : JD} {d : Nat} {w e : Int} (hk : jK S w = 6) (re : i32 e) : JM G yX6_letOut cX6_letOut 2 none d (0, 0) S D [.inr (.inr (some w)), .inl e] (jn S (jup (jup D w 3 (D w 3 - e)) w 4 (D w 4 - 1))) := by
  show JX _ _ _ _ _ _ _ _ _ _ _ [_, _] _ _
  refine x_aload_n dX6_letOut_0 rfl ?_
  refine x_dup dX6_letOut_1 (fun _ h => by cases h) ?_
  refine gf_RX6_21 dX6_letOut_2 rfl (by assumption) ?_
  refine x_iload_n dX6_letOut_5 rfl ?_
  refine x_i2l dX6_letOut_6 re ?_
  refine x_lsub dX6_letOut_7 ?_
  refine pf_RX6_21 dX6_letOut_8 rfl (by assumption) ?_
  refine x_aload_n dX6_letOut_11 rfl ?_
  refine x_dup dX6_letOut_12 (fun _ h => by cases h) ?_
  refine gf_RX6_24 dX6_letOut_13 rfl (by assumption) ?_
  refine x_iconst dX6_letOut_16 ?_
  refine x_isub dX6_letOut_17 ?_
  refine pf_RX6_24 dX6_letOut_18 rfl (by assumption) ?_
  exact x_return dX6_letOut_21 rfl ⟨Nat.le_refl _, Nat.le_refl _⟩ ⟨rfl, rfl, by simp only [jup_nk (show (4 : Int) ≠ 3 by decide)]⟩
theorem kX6_copyTo {G : JG} {S : JS} {D : JD} {d : Nat} {w o : Int} (hk : jK S w = 6) (hk2 : jK S o = 6) : JM G yX6_copyTo cX6_copyTo 2 none d (0, 0) S D [.inr (.inr (some w)), .inr (.inr (some o))] (jn S (dWc D w o)) := by
  show JX _ _ _ _ _ _ _ _ _ _ _ [_, _] _ _
  refine x_aload_n dX6_copyTo_0 rfl ?_
  refine x_aload_n dX6_copyTo_1 rfl ?_
  refine gf_RX6_9 dX6_copyTo_2 rfl (by assumption) ?_
  refine pf_RX6_9 dX6_copyTo_5 rfl (by assumption) ?_
  refine x_aload_n dX6_copyTo_8 rfl ?_
  refine x_aload_n dX6_copyTo_9 rfl ?_
  refine gf_RX6_15 dX6_copyTo_10 rfl (by assumption) ?_
  refine pf_RX6_15 dX6_copyTo_13 rfl (by assumption) ?_
  refine x_aload_n dX6_copyTo_16 rfl ?_
  refine x_aload_n dX6_copyTo_17 rfl ?_
  refine gf_RX6_18 dX6_copyTo_18 rfl (by assumption) ?_
  refine pf_RX6_18 dX6_copyTo_21 rfl (by assumption) ?_
  refine x_aload_n dX6_copyTo_24 rfl ?_
  refine x_aload_n dX6_copyTo_25 rfl ?_
  refine gf_RX6_21 dX6_copyTo_26 rfl (by assumption) ?_
  refine pf_RX6_21 dX6_copyTo_29 rfl (by assumption) ?_
  refine x_aload_n dX6_copyTo_32 rfl ?_
  refine x_aload_n dX6_copyTo_33 rfl ?_
  refine gf_RX6_24 dX6_copyTo_34 rfl (by assumption) ?_
  refine pf_RX6_24 dX6_copyTo_37 rfl (by assumption) ?_
  exact x_return dX6_copyTo_40 rfl ⟨Nat.le_refl _, Nat.le_refl _⟩ ⟨rfl, rfl, rfl⟩
/-- what the water w, a chamber's, would have after sharing with r -/
def dShare (D : JD) (w r : Int) : Int :=
  min (max (D w 0 * (((D w 2 + D r 2 + D w 3 + D r 3) * 100 + (D w 0 * D w 1 + D r 0 * D r 1)) / (D w 0 + D r 0) - D w 1) / 100 - D w 3) 0) (D w 2 + D r 2)
def dShareOk (D : JD) (w r : Int) : Prop :=
  i64 ((D w 2 + D r 2 + D w 3 + D r 3) * 100 + (D w 0 * D w 1 + D r 0 * D r 1)) ∧ i64 (D w 0 + D r 0) ∧ 0 < D w 0 + D r 0 ∧
  i64 (D w 0 * (((D w 2 + D r 2 + D w 3 + D r 3) * 100 + (D w 0 * D w 1 + D r 0 * D r 1)) / (D w 0 + D r 0) - D w 1)) ∧
  i64 (D w 0 * (((D w 2 + D r 2 + D w 3 + D r 3) * 100 + (D w 0 * D w 1 + D r 0 * D r 1)) / (D w 0 + D r 0) - D w 1) / 100 - D w 3) ∧ i64 (D w 2 + D r 2)
theorem kX6_flowFrom {G : JG} {S : JS} {D : JD} {d : Nat} {w r : Int} (hk : jK S w = 6) (hk2 : jK S r = 6) (hs : dShareOk D w r) : JM G yX6_flowFrom cX6_flowFrom 12 (some .long) (d + 2) (0, 0) S D [.inr (.inr (some w)), .inr (.inr (some r))] (jr (.inr (.inl (dShare D w r - D w 2))) S D) := by
  obtain ⟨s1, s2, s3, s4, s5, s6⟩ := hs
  show JX _ _ _ _ _ _ _ _ _ _ _ [_, _, _, _, _, _, _, _, _, _, _, _] _ _
  refine x_aload_n dX6_flowFrom_0 rfl ?_
  refine gf_RX6_18 dX6_flowFrom_1 rfl (by assumption) ?_
  refine x_aload_n dX6_flowFrom_4 rfl ?_
  refine gf_RX6_18 dX6_flowFrom_5 rfl (by assumption) ?_
  refine x_ladd dX6_flowFrom_8 ?_
  refine x_lstore_n dX6_flowFrom_9 (by decide) ?_
  show JX _ _ _ _ _ _ _ _ _ _ _ [_, _, _, _, _, _, _, _, _, _, _, _] _ _
  refine x_lload_n dX6_flowFrom_10 rfl ?_
  refine x_aload_n dX6_flowFrom_11 rfl ?_
  refine gf_RX6_21 dX6_flowFrom_12 rfl (by assumption) ?_
  refine x_ladd dX6_flowFrom_15 ?_
  refine x_aload_n dX6_flowFrom_16 rfl ?_
  refine gf_RX6_21 dX6_flowFrom_17 rfl (by assumption) ?_
  refine x_ladd dX6_flowFrom_20 ?_
  refine x_lstore dX6_flowFrom_21 (by decide) ?_
  show JX _ _ _ _ _ _ _ _ _ _ _ [_, _, _, _, _, _, _, _, _, _, _, _] _ _
  refine x_aload_n dX6_flowFrom_23 rfl ?_
  refine gf_RX6_9 dX6_flowFrom_24 rfl (by assumption) ?_
  refine x_aload_n dX6_flowFrom_27 rfl ?_
  refine gf_RX6_15 dX6_flowFrom_28 rfl (by assumption) ?_
  refine x_lmul dX6_flowFrom_31 ?_
  refine x_aload_n dX6_flowFrom_32 rfl ?_
  refine gf_RX6_9 dX6_flowFrom_33 rfl (by assumption) ?_
  refine x_aload_n dX6_flowFrom_36 rfl ?_
  refine gf_RX6_15 dX6_flowFrom_37 rfl (by assumption) ?_
  refine x_lmul dX6_flowFrom_40 ?_
  refine x_ladd dX6_flowFrom_41 ?_
  refine x_lstore dX6_flowFrom_42 (by decide) ?_
  show JX _ _ _ _ _ _ _ _ _ _ _ [_, _, _, _, _, _, _, _, _, _, _, _] _ _
  refine x_lload dX6_flowFrom_44 rfl ?_
  refine x_ldc2 (e := 100) dX6_flowFrom_46 ctl_RX6_28 (by decide) ?_
  refine x_lmul dX6_flowFrom_49 ?_
  refine x_lload dX6_flowFrom_50 rfl ?_
  refine x_ladd dX6_flowFrom_52 ?_
  refine x_aload_n dX6_flowFrom_53 rfl ?_
  refine gf_RX6_9 dX6_flowFrom_54 rfl (by assumption) ?_
  refine x_aload_n dX6_flowFrom_57 rfl ?_
  refine gf_RX6_9 dX6_flowFrom_58 rfl (by assumption) ?_
  refine x_ladd dX6_flowFrom_61 ?_
  refine n_RX6_30d dX6_flowFrom_62 rfl (kX7_divideDown s1 s2 s3) (Nat.le_of_ble_eq_true rfl) (Nat.le_of_ble_eq_true rfl) ⟨Nat.le_refl _, Nat.le_refl _⟩ ?_
  refine x_lstore dX6_flowFrom_65 (by decide) ?_
  show JX _ _ _ _ _ _ _ _ _ _ _ [_, _, _, _, _, _, _, _, _, _, _, _] _ _
  refine x_aload_n dX6_flowFrom_67 rfl ?_
  refine gf_RX6_9 dX6_flowFrom_68 rfl (by assumption) ?_
  refine x_lload dX6_flowFrom_71 rfl ?_
  refine x_aload_n dX6_flowFrom_73 rfl ?_
  refine gf_RX6_15 dX6_flowFrom_74 rfl (by assumption) ?_
  refine x_lsub dX6_flowFrom_77 ?_
  refine x_lmul dX6_flowFrom_78 ?_
  refine x_ldc2 (e := 100) dX6_flowFrom_79 ctl_RX6_28 (by decide) ?_
  refine n_RX6_30d dX6_flowFrom_82 rfl (kX7_divideDown s4 ⟨by omega, by omega⟩ (by decide)) (Nat.le_of_ble_eq_true rfl) (Nat.le_of_ble_eq_true rfl) ⟨Nat.le_refl _, Nat.le_refl _⟩ ?_
  refine x_aload_n dX6_flowFrom_85 rfl ?_
  refine gf_RX6_21 dX6_flowFrom_86 rfl (by assumption) ?_
  refine x_lsub dX6_flowFrom_89 ?_
  refine x_lstore dX6_flowFrom_90 (by decide) ?_
  show JX _ _ _ _ _ _ _ _ _ _ _ [_, _, _, _, _, _, _, _, _, _, _, _] _ _
  refine x_lload dX6_flowFrom_92 rfl ?_
  refine x_lconst (e := 0) dX6_flowFrom_94 (by decide) ?_
  refine c_RX6_38d dX6_flowFrom_95 rfl (kJ9_maxl s5 ⟨by omega, by omega⟩) (Nat.le_of_ble_eq_true rfl) (Nat.le_of_ble_eq_true rfl) ⟨Nat.le_refl _, Nat.le_refl _⟩ ?_
  refine x_lload_n dX6_flowFrom_98 rfl ?_
  refine c_RX6_43d dX6_flowFrom_99 rfl (kJ9_minl (by rcases Int.le_total (D w 0 * (((D w 2 + D r 2 + D w 3 + D r 3) * 100 + (D w 0 * D w 1 + D r 0 * D r 1)) / (D w 0 + D r 0) - D w 1) / 100 - D w 3) 0 with q | q <;> exact ⟨by omega, by omega⟩) s6) (Nat.le_of_ble_eq_true rfl) (Nat.le_of_ble_eq_true rfl) ⟨Nat.le_refl _, Nat.le_refl _⟩ ?_
  refine x_aload_n dX6_flowFrom_102 rfl ?_
  refine gf_RX6_18 dX6_flowFrom_103 rfl (by assumption) ?_
  refine x_lsub dX6_flowFrom_106 ?_
  exact x_lreturn dX6_flowFrom_107 rfl ⟨Nat.le_refl _, Nat.le_refl _⟩ ⟨rfl, rfl, rfl⟩
theorem kX6_shareWith {G : JG} {S : JS} {D : JD} {d : Nat} {w r : Int} (hk : jK S w = 6) (hk2 : jK S r = 6) (hne : r ≠ w) (hs : dShareOk D w r) : JM G yX6_shareWith cX6_shareWith 4 none (d + 3) (0, 0) S D [.inr (.inr (some w)), .inr (.inr (some r))] (jn S (jup (jup D w 2 (dShare D w r)) r 2 (D w 2 + D r 2 - dShare D w r))) := by
  show JX _ _ _ _ _ _ _ _ _ _ _ [_, _, _, _] _ _
  refine x_aload_n dX6_shareWith_0 rfl ?_
  refine x_aload_n dX6_shareWith_1 rfl ?_
  refine c_RX6_46d dX6_shareWith_2 rfl (kX6_flowFrom (by assumption) (by assumption) (by assumption)) (by assumption) (Nat.le_of_ble_eq_true rfl) (Nat.le_of_ble_eq_true rfl) ⟨Nat.le_refl _, Nat.le_refl _⟩ ?_
  refine x_lstore_n dX6_shareWith_5 (by decide) ?_
  show JX _ _ _ _ _ _ _ _ _ _ _ [_, _, _, _] _ _
  refine x_aload_n dX6_shareWith_6 rfl ?_
  refine x_dup dX6_shareWith_7 (fun _ h => by cases h) ?_
  refine gf_RX6_18 dX6_shareWith_8 rfl (by assumption) ?_
  refine x_lload_n dX6_shareWith_11 rfl ?_
  refine x_ladd dX6_shareWith_12 ?_
  refine pf_RX6_18 dX6_shareWith_13 rfl (by assumption) ?_
  refine x_aload_n dX6_shareWith_16 rfl ?_
  refine x_dup dX6_shareWith_17 (fun _ h => by cases h) ?_
  refine gf_RX6_18 dX6_shareWith_18 rfl (by assumption) ?_
  refine x_lload_n dX6_shareWith_21 rfl ?_
  refine x_lsub dX6_shareWith_22 ?_
  refine pf_RX6_18 dX6_shareWith_23 rfl (by assumption) ?_
  exact x_return dX6_shareWith_26 rfl ⟨Nat.le_refl _, Nat.le_refl _⟩ ⟨rfl, rfl, by rw [jup_ne hne, show D w 2 + (dShare D w r - D w 2) = dShare D w r by omega, show D r 2 - (dShare D w r - D w 2) = D w 2 + D r 2 - dShare D w r by omega]⟩
theorem kX6_property_0 {G : JG} {S : JS} {D : JD} {d : Nat} {w : Int} (hk : jK S w = 6) (h1 : i64 ((D w 2 + D w 3) * 100)) (h2 : i64 (D w 0)) (h3 : 0 < D w 0)  : JM G yX6_property cX6_property 2 (some .int) (d + 4) (0, 0) S D [.inr (.inr (some w)), .inl 0] (jr (.inl (D w 1 + (D w 2 + D w 3) * 100 / D w 0)) S D) := by
  show JX _ _ _ _ _ _ _ _ _ _ _ [_, _] _ _
  refine x_iload_n dX6_property_0 rfl ?_
  refine x_switch (tgt := 40) dX6_property_1 ⟨by omega, by omega⟩ (by decide) (by decide) ?_
  refine x_aload_n dX6_property_40 rfl ?_
  refine c_RX6_50d dX6_property_41 rfl (kX6_level (by assumption) (by assumption) (by assumption) (by assumption)) (by assumption) (Nat.le_of_ble_eq_true rfl) (Nat.le_of_ble_eq_true rfl) ⟨Nat.le_refl _, Nat.le_refl _⟩ ?_
  refine x_l2i dX6_property_44 ?_
  exact x_ireturn dX6_property_45 rfl rfl ⟨Nat.le_refl _, Nat.le_refl _⟩ ⟨rfl, rfl, rfl⟩
theorem kX6_property_1 {G : JG} {S : JS} {D : JD} {d : Nat} {w : Int} (hk : jK S w = 6)  : JM G yX6_property cX6_property 2 (some .int) (d + 4) (0, 0) S D [.inr (.inr (some w)), .inl 1] (jr (.inl (D w 2)) S D) := by
  show JX _ _ _ _ _ _ _ _ _ _ _ [_, _] _ _
  refine x_iload_n dX6_property_0 rfl ?_
  refine x_switch (tgt := 46) dX6_property_1 ⟨by omega, by omega⟩ (by decide) (by decide) ?_
  refine x_aload_n dX6_property_46 rfl ?_
  refine gf_RX6_18 dX6_property_47 rfl (by assumption) ?_
  refine x_l2i dX6_property_50 ?_
  exact x_ireturn dX6_property_51 rfl rfl ⟨Nat.le_refl _, Nat.le_refl _⟩ ⟨rfl, rfl, rfl⟩
theorem kX6_property_2 {G : JG} {S : JS} {D : JD} {d : Nat} {w : Int} (hk : jK S w = 6)  : JM G yX6_property cX6_property 2 (some .int) (d + 4) (0, 0) S D [.inr (.inr (some w)), .inl 2] (jr (.inl (D w 3)) S D) := by
  show JX _ _ _ _ _ _ _ _ _ _ _ [_, _] _ _
  refine x_iload_n dX6_property_0 rfl ?_
  refine x_switch (tgt := 52) dX6_property_1 ⟨by omega, by omega⟩ (by decide) (by decide) ?_
  refine x_aload_n dX6_property_52 rfl ?_
  refine gf_RX6_21 dX6_property_53 rfl (by assumption) ?_
  refine x_l2i dX6_property_56 ?_
  exact x_ireturn dX6_property_57 rfl rfl ⟨Nat.le_refl _, Nat.le_refl _⟩ ⟨rfl, rfl, rfl⟩
theorem kX6_property_3 {G : JG} {S : JS} {D : JD} {d : Nat} {w : Int} (hk : jK S w = 6)  : JM G yX6_property cX6_property 2 (some .int) (d + 4) (0, 0) S D [.inr (.inr (some w)), .inl 3] (jr (.inl (D w 4)) S D) := by
  show JX _ _ _ _ _ _ _ _ _ _ _ [_, _] _ _
  refine x_iload_n dX6_property_0 rfl ?_
  refine x_switch (tgt := 58) dX6_property_1 ⟨by omega, by omega⟩ (by decide) (by decide) ?_
  refine x_aload_n dX6_property_58 rfl ?_
  refine gf_RX6_24 dX6_property_59 rfl (by assumption) ?_
  exact x_ireturn dX6_property_62 rfl rfl ⟨Nat.le_refl _, Nat.le_refl _⟩ ⟨rfl, rfl, rfl⟩
theorem kX6_property_4 {G : JG} {S : JS} {D : JD} {d : Nat} {w : Int} (hk : jK S w = 6)  : JM G yX6_property cX6_property 2 (some .int) (d + 4) (0, 0) S D [.inr (.inr (some w)), .inl 4] (jr (.inl (D w 0)) S D) := by
  show JX _ _ _ _ _ _ _ _ _ _ _ [_, _] _ _
  refine x_iload_n dX6_property_0 rfl ?_
  refine x_switch (tgt := 63) dX6_property_1 ⟨by omega, by omega⟩ (by decide) (by decide) ?_
  refine x_aload_n dX6_property_63 rfl ?_
  refine gf_RX6_9 dX6_property_64 rfl (by assumption) ?_
  refine x_l2i dX6_property_67 ?_
  exact x_ireturn dX6_property_68 rfl rfl ⟨Nat.le_refl _, Nat.le_refl _⟩ ⟨rfl, rfl, rfl⟩
theorem kX6_property_5 {G : JG} {S : JS} {D : JD} {d : Nat} {w : Int} (hk : jK S w = 6)  : JM G yX6_property cX6_property 2 (some .int) (d + 4) (0, 0) S D [.inr (.inr (some w)), .inl 5] (jr (.inl (D w 1)) S D) := by
  show JX _ _ _ _ _ _ _ _ _ _ _ [_, _] _ _
  refine x_iload_n dX6_property_0 rfl ?_
  refine x_switch (tgt := 69) dX6_property_1 ⟨by omega, by omega⟩ (by decide) (by decide) ?_
  refine x_aload_n dX6_property_69 rfl ?_
  refine gf_RX6_15 dX6_property_70 rfl (by assumption) ?_
  refine x_l2i dX6_property_73 ?_
  exact x_ireturn dX6_property_74 rfl rfl ⟨Nat.le_refl _, Nat.le_refl _⟩ ⟨rfl, rfl, rfl⟩
theorem kX6_property_n {G : JG} {S : JS} {D : JD} {d : Nat} {w e : Int} (re : i32 e) (he : e < 0 ∨ 5 < e) : JM G yX6_property cX6_property 2 (some .int) (d + 4) (0, 0) S D [.inr (.inr (some w)), .inl e] (jr (.inl (-100000002)) S D) := by
  show JX _ _ _ _ _ _ _ _ _ _ _ [_, _] _ _
  refine x_iload_n dX6_property_0 rfl ?_
  refine x_switch (tgt := 75) dX6_property_1 re (by rw [if_pos he]; rfl) (by decide) ?_
  refine x_ldc (e := -100000002) dX6_property_75 ct_RX6_53 (by decide) ?_
  exact x_ireturn dX6_property_77 rfl rfl ⟨Nat.le_refl _, Nat.le_refl _⟩ ⟨rfl, rfl, rfl⟩
theorem kX5_begin {G : JG} {S : JS} {D : JD} {d : Nat} {w : Int} (hk : jK S w = 5) : JM G yX5_begin cX5_begin 1 none d (0, 0) S D [.inr (.inr (some w))] (jn S (dS0 D w)) := by
  show JX _ _ _ _ _ _ _ _ _ _ _ [_] _ _
  refine x_aload_n dX5_begin_0 rfl ?_
  refine x_iconst dX5_begin_1 ?_
  refine pf_RX5_9 dX5_begin_2 rfl (by assumption) ?_
  refine x_aload_n dX5_begin_5 rfl ?_
  refine x_iconst dX5_begin_6 ?_
  refine pf_RX5_15 dX5_begin_7 rfl (by assumption) ?_
  refine x_aload_n dX5_begin_10 rfl ?_
  refine x_iconst dX5_begin_11 ?_
  refine pf_RX5_18 dX5_begin_12 rfl (by assumption) ?_
  exact x_return dX5_begin_15 rfl ⟨Nat.le_refl _, Nat.le_refl _⟩ ⟨rfl, rfl, rfl⟩
theorem kX5_height {G : JG} {S : JS} {D : JD} {d : Nat} {w : Int} (hk : jK S w = 5) : JM G yX5_height cX5_height 1 (some .int) d (0, 0) S D [.inr (.inr (some w))] (jr (.inl (D w 0 + D w 1)) S D) := by
  show JX _ _ _ _ _ _ _ _ _ _ _ [_] _ _
  refine x_aload_n dX5_height_0 rfl ?_
  refine gf_RX5_9 dX5_height_1 rfl (by assumption) ?_
  refine x_aload_n dX5_height_4 rfl ?_
  refine gf_RX5_15 dX5_height_5 rfl (by assumption) ?_
  refine x_iadd dX5_height_8 ?_
  exact x_ireturn dX5_height_9 rfl rfl ⟨Nat.le_refl _, Nat.le_refl _⟩ ⟨rfl, rfl, rfl⟩
theorem kX5_copyTo {G : JG} {S : JS} {D : JD} {d : Nat} {w o : Int} (hk : jK S w = 5) (hk2 : jK S o = 5) : JM G yX5_copyTo cX5_copyTo 2 none d (0, 0) S D [.inr (.inr (some w)), .inr (.inr (some o))] (jn S (dSc D w o)) := by
  show JX _ _ _ _ _ _ _ _ _ _ _ [_, _] _ _
  refine x_aload_n dX5_copyTo_0 rfl ?_
  refine x_aload_n dX5_copyTo_1 rfl ?_
  refine gf_RX5_9 dX5_copyTo_2 rfl (by assumption) ?_
  refine pf_RX5_9 dX5_copyTo_5 rfl (by assumption) ?_
  refine x_aload_n dX5_copyTo_8 rfl ?_
  refine x_aload_n dX5_copyTo_9 rfl ?_
  refine gf_RX5_15 dX5_copyTo_10 rfl (by assumption) ?_
  refine pf_RX5_15 dX5_copyTo_13 rfl (by assumption) ?_
  refine x_aload_n dX5_copyTo_16 rfl ?_
  refine x_aload_n dX5_copyTo_17 rfl ?_
  refine gf_RX5_18 dX5_copyTo_18 rfl (by assumption) ?_
  refine pf_RX5_18 dX5_copyTo_21 rfl (by assumption) ?_
  exact x_return dX5_copyTo_24 rfl ⟨Nat.le_refl _, Nat.le_refl _⟩ ⟨rfl, rfl, rfl⟩
/-- a passage by a sill -/
def dPass (D : JD) (w : Int) : JD :=
  if (D w 2 + 1) % 8 = 0 then jup (jup D w 2 (D w 2 + 1)) w 1 (D w 1 + 1) else jup D w 2 (D w 2 + 1)
theorem kX5_countPassage {G : JG} {S : JS} {D : JD} {d : Nat} {w : Int} (hk : jK S w = 5) (h0 : 0 ≤ D w 2) (h1 : D w 2 < 2000000000) : JM G yX5_countPassage cX5_countPassage 1 none d (0, 0) S D [.inr (.inr (some w))] (jn S (dPass D w)) := by
  show JX _ _ _ _ _ _ _ _ _ _ _ [_] _ _
  refine x_aload_n dX5_countPassage_0 rfl ?_
  refine x_dup dX5_countPassage_1 (fun _ h => by cases h) ?_
  refine gf_RX5_18 dX5_countPassage_2 rfl (by assumption) ?_
  refine x_iconst dX5_countPassage_5 ?_
  refine x_iadd dX5_countPassage_6 ?_
  refine pf_RX5_18 dX5_countPassage_7 rfl (by assumption) ?_
  refine x_aload_n dX5_countPassage_10 rfl ?_
  refine gf_RX5_18 dX5_countPassage_11 rfl (by assumption) ?_
  rw [jup_eq]
  refine x_bipush dX5_countPassage_14 (by decide) ?_
  refine x_irem dX5_countPassage_16 ⟨by omega, by omega⟩ ⟨by omega, by omega⟩ (by omega) ?_
  rw [Int.tmod_eq_emod_of_nonneg (show 0 ≤ D w 2 + 1 by omega)]
  refine x_if_ne (tgt := 30) dX5_countPassage_17 (by decide) ⟨by omega, by omega⟩ (fun hb17 => ?_) (fun hb17 => ?_)
  · exact x_return dX5_countPassage_30 rfl ⟨Nat.le_refl _, Nat.le_refl _⟩ ⟨rfl, rfl, by unfold dPass; first | rw [if_neg hb17] | (rw [if_pos (by omega), jup_nk (show (1 : Int) ≠ 2 by decide)])⟩
  · refine x_aload_n dX5_countPassage_20 rfl ?_
    refine x_dup dX5_countPassage_21 (fun _ h => by cases h) ?_
    refine gf_RX5_15 dX5_countPassage_22 rfl (by assumption) ?_
    refine x_iconst dX5_countPassage_25 ?_
    refine x_iadd dX5_countPassage_26 ?_
    refine pf_RX5_15 dX5_countPassage_27 rfl (by assumption) ?_
    exact x_return dX5_countPassage_30 rfl ⟨Nat.le_refl _, Nat.le_refl _⟩ ⟨rfl, rfl, by unfold dPass; first | rw [if_neg hb17] | (rw [if_pos (by omega), jup_nk (show (1 : Int) ≠ 2 by decide)])⟩
def dB (D : JD) (b p l w i h : Int) : JD := jup (jup (jup (jup (jup (jup (jup (jup D b 0 l) b 1 w) b 2 i) b 3 h) b 4 0) b 5 0) b 6 p) b 7 0
def dBc (D : JD) (b o : Int) : JD :=
  let D1 := jup D o 0 (D b 0)
  let D2 := jup D1 o 1 (D1 b 1)
  let D3 := jup D2 o 2 (D2 b 2)
  let D4 := jup D3 o 3 (D3 b 3)
  let D5 := jup D4 o 4 (D4 b 4)
  let D6 := jup D5 o 5 (D5 b 5)
  let D7 := jup D6 o 6 (D6 b 6)
  jup D7 o 7 (D7 b 7)
theorem kX0_begin {G : JG} {S : JS} {D : JD} {d : Nat} {b p l w i h : Int} (hk : jK S b = 0) : JM G yX0_begin cX0_begin 6 none d (0, 0) S D [.inr (.inr (some b)), .inl p, .inl l, .inl w, .inl i, .inl h] (jn S (dB D b p l w i h)) := by
  show JX _ _ _ _ _ _ _ _ _ _ _ [_, _, _, _, _, _] _ _
  refine x_aload_n dX0_begin_0 rfl ?_
  refine x_iload_n dX0_begin_1 rfl ?_
  refine pf_RX0_9 dX0_begin_2 rfl (by assumption) ?_
  refine x_aload_n dX0_begin_5 rfl ?_
  refine x_iload_n dX0_begin_6 rfl ?_
  refine pf_RX0_15 dX0_begin_7 rfl (by assumption) ?_
  refine x_aload_n dX0_begin_10 rfl ?_
  refine x_iload dX0_begin_11 rfl ?_
  refine pf_RX0_18 dX0_begin_13 rfl (by assumption) ?_
  refine x_aload_n dX0_begin_16 rfl ?_
  refine x_iload dX0_begin_17 rfl ?_
  refine pf_RX0_21 dX0_begin_19 rfl (by assumption) ?_
  refine x_aload_n dX0_begin_22 rfl ?_
  refine x_iconst dX0_begin_23 ?_
  refine pf_RX0_24 dX0_begin_24 rfl (by assumption) ?_
  refine x_aload_n dX0_begin_27 rfl ?_
  refine x_iconst dX0_begin_28 ?_
  refine pf_RX0_27 dX0_begin_29 rfl (by assumption) ?_
  refine x_aload_n dX0_begin_32 rfl ?_
  refine x_iload_n dX0_begin_33 rfl ?_
  refine pf_RX0_30 dX0_begin_34 rfl (by assumption) ?_
  refine x_aload_n dX0_begin_37 rfl ?_
  refine x_iconst dX0_begin_38 ?_
  refine pf_RX0_33 dX0_begin_39 rfl (by assumption) ?_
  exact x_return dX0_begin_42 rfl ⟨Nat.le_refl _, Nat.le_refl _⟩ ⟨rfl, rfl, rfl⟩
theorem kX0_copyTo {G : JG} {S : JS} {D : JD} {d : Nat} {b o : Int} (hk : jK S b = 0) (hk2 : jK S o = 0) : JM G yX0_copyTo cX0_copyTo 2 none d (0, 0) S D [.inr (.inr (some b)), .inr (.inr (some o))] (jn S (dBc D b o)) := by
  show JX _ _ _ _ _ _ _ _ _ _ _ [_, _] _ _
  refine x_aload_n dX0_copyTo_0 rfl ?_
  refine x_aload_n dX0_copyTo_1 rfl ?_
  refine gf_RX0_9 dX0_copyTo_2 rfl (by assumption) ?_
  refine pf_RX0_9 dX0_copyTo_5 rfl (by assumption) ?_
  refine x_aload_n dX0_copyTo_8 rfl ?_
  refine x_aload_n dX0_copyTo_9 rfl ?_
  refine gf_RX0_15 dX0_copyTo_10 rfl (by assumption) ?_
  refine pf_RX0_15 dX0_copyTo_13 rfl (by assumption) ?_
  refine x_aload_n dX0_copyTo_16 rfl ?_
  refine x_aload_n dX0_copyTo_17 rfl ?_
  refine gf_RX0_18 dX0_copyTo_18 rfl (by assumption) ?_
  refine pf_RX0_18 dX0_copyTo_21 rfl (by assumption) ?_
  refine x_aload_n dX0_copyTo_24 rfl ?_
  refine x_aload_n dX0_copyTo_25 rfl ?_
  refine gf_RX0_21 dX0_copyTo_26 rfl (by assumption) ?_
  refine pf_RX0_21 dX0_copyTo_29 rfl (by assumption) ?_
  refine x_aload_n dX0_copyTo_32 rfl ?_
  refine x_aload_n dX0_copyTo_33 rfl ?_
  refine gf_RX0_24 dX0_copyTo_34 rfl (by assumption) ?_
  refine pf_RX0_24 dX0_copyTo_37 rfl (by assumption) ?_
  refine x_aload_n dX0_copyTo_40 rfl ?_
  refine x_aload_n dX0_copyTo_41 rfl ?_
  refine gf_RX0_27 dX0_copyTo_42 rfl (by assumption) ?_
  refine pf_RX0_27 dX0_copyTo_45 rfl (by assumption) ?_
  refine x_aload_n dX0_copyTo_48 rfl ?_
  refine x_aload_n dX0_copyTo_49 rfl ?_
  refine gf_RX0_30 dX0_copyTo_50 rfl (by assumption) ?_
  refine pf_RX0_30 dX0_copyTo_53 rfl (by assumption) ?_
  refine x_aload_n dX0_copyTo_56 rfl ?_
  refine x_aload_n dX0_copyTo_57 rfl ?_
  refine gf_RX0_33 dX0_copyTo_58 rfl (by assumption) ?_
  refine pf_RX0_33 dX0_copyTo_61 rfl (by assumption) ?_
  exact x_return dX0_copyTo_64 rfl ⟨Nat.le_refl _, Nat.le_refl _⟩ ⟨rfl, rfl, rfl⟩
theorem kX0_weight {G : JG} {S : JS} {D : JD} {d : Nat} {b : Int} (hk : jK S b = 0) : JM G yX0_weight cX0_weight 1 (some .int) d (0, 0) S D [.inr (.inr (some b))] (jr (.inl (D b 1 + D b 4 + D b 5)) S D) := by
  show JX _ _ _ _ _ _ _ _ _ _ _ [_] _ _
  refine x_aload_n dX0_weight_0 rfl ?_
  refine gf_RX0_15 dX0_weight_1 rfl (by assumption) ?_
  refine x_aload_n dX0_weight_4 rfl ?_
  refine gf_RX0_24 dX0_weight_5 rfl (by assumption) ?_
  refine x_iadd dX0_weight_8 ?_
  refine x_aload_n dX0_weight_9 rfl ?_
  refine gf_RX0_27 dX0_weight_10 rfl (by assumption) ?_
  refine x_iadd dX0_weight_13 ?_
  exact x_ireturn dX0_weight_14 rfl rfl ⟨Nat.le_refl _, Nat.le_refl _⟩ ⟨rfl, rfl, rfl⟩
theorem kX0_freeHold {G : JG} {S : JS} {D : JD} {d : Nat} {b : Int} (hk : jK S b = 0) : JM G yX0_freeHold cX0_freeHold 1 (some .int) d (0, 0) S D [.inr (.inr (some b))] (jr (.inl (D b 3 - D b 4 - D b 5)) S D) := by
  show JX _ _ _ _ _ _ _ _ _ _ _ [_] _ _
  refine x_aload_n dX0_freeHold_0 rfl ?_
  refine gf_RX0_21 dX0_freeHold_1 rfl (by assumption) ?_
  refine x_aload_n dX0_freeHold_4 rfl ?_
  refine gf_RX0_24 dX0_freeHold_5 rfl (by assumption) ?_
  refine x_isub dX0_freeHold_8 ?_
  refine x_aload_n dX0_freeHold_9 rfl ?_
  refine gf_RX0_27 dX0_freeHold_10 rfl (by assumption) ?_
  refine x_isub dX0_freeHold_13 ?_
  exact x_ireturn dX0_freeHold_14 rfl rfl ⟨Nat.le_refl _, Nat.le_refl _⟩ ⟨rfl, rfl, rfl⟩
theorem kX0_isInChamber {G : JG} {S : JS} {D : JD} {d : Nat} {b : Int} (hk : jK S b = 0) (rp : i32 (D b 6)) : JM G yX0_isInChamber cX0_isInChamber 1 (some .boolean) d (0, 0) S D [.inr (.inr (some b))] (jr (.inl (if 100 ≤ D b 6 then 1 else 0)) S D) := by
  show JX _ _ _ _ _ _ _ _ _ _ _ [_] _ _
  refine x_aload_n dX0_isInChamber_0 rfl ?_
  refine gf_RX0_30 dX0_isInChamber_1 rfl (by assumption) ?_
  refine x_bipush dX0_isInChamber_4 (by decide) ?_
  refine x_ic_lt (tgt := 13) dX0_isInChamber_6 (by decide) rp ⟨by omega, by omega⟩ (fun hb6 => ?_) (fun hb6 => ?_)
  · refine x_iconst dX0_isInChamber_13 ?_
    exact x_ireturn dX0_isInChamber_14 rfl (jbool (by first | exact Or.inl rfl | exact Or.inr rfl)).1 ⟨Nat.le_refl _, Nat.le_refl _⟩ ⟨by congr; omega, rfl, rfl⟩
  · refine x_iconst dX0_isInChamber_9 ?_
    refine x_goto (tgt := 14) dX0_isInChamber_10 (by decide) ?_
    exact x_ireturn dX0_isInChamber_14 rfl (jbool (by first | exact Or.inl rfl | exact Or.inr rfl)).1 ⟨Nat.le_refl _, Nat.le_refl _⟩ ⟨by congr; omega, rfl, rfl⟩
theorem kX0_draught {G : JG} {S : JS} {D : JD} {d : Nat} {b : Int} (hk : jK S b = 0) (h1 : 0 ≤ (D b 1 + D b 4 + D b 5) ∧ (D b 1 + D b 4 + D b 5) ≤ 100000) (h2 : 1 ≤ D b 2 ∧ D b 2 ≤ 100) : JM G yX0_draught cX0_draught 1 (some .int) (d + 2) (0, 0) S D [.inr (.inr (some b))] (jr (.inl (((D b 1 + D b 4 + D b 5) + D b 2 - 1) / D b 2)) S D) := by
  show JX _ _ _ _ _ _ _ _ _ _ _ [_] _ _
  refine x_aload_n dX0_draught_0 rfl ?_
  refine c_RX0_36d dX0_draught_1 rfl (kX0_weight (by assumption)) (by assumption) (Nat.le_of_ble_eq_true rfl) (Nat.le_of_ble_eq_true rfl) ⟨Nat.le_refl _, Nat.le_refl _⟩ ?_
  refine x_i2l dX0_draught_4 ⟨by omega, by omega⟩ ?_
  refine x_aload_n dX0_draught_5 rfl ?_
  refine gf_RX0_18 dX0_draught_6 rfl (by assumption) ?_
  refine x_i2l dX0_draught_9 ⟨by omega, by omega⟩ ?_
  refine x_ladd dX0_draught_10 ?_
  refine x_lconst (e := 1) dX0_draught_11 (by decide) ?_
  refine x_lsub dX0_draught_12 ?_
  refine x_aload_n dX0_draught_13 rfl ?_
  refine gf_RX0_18 dX0_draught_14 rfl (by assumption) ?_
  refine x_i2l dX0_draught_17 ⟨by omega, by omega⟩ ?_
  refine n_RX0_40d dX0_draught_18 rfl (kX7_divideDown ⟨by omega, by omega⟩ ⟨by omega, by omega⟩ (by omega)) (Nat.le_of_ble_eq_true rfl) (Nat.le_of_ble_eq_true rfl) ⟨Nat.le_refl _, Nat.le_refl _⟩ ?_
  refine x_l2i dX0_draught_21 ?_
  exact x_ireturn dX0_draught_22 rfl rfl ⟨Nat.le_refl _, Nat.le_refl _⟩ ⟨rfl, rfl, rfl⟩
