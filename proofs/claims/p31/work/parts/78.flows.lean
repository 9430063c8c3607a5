/-! THE LAW: what would flow; what a barge could have more -/
theorem tm_down {x : Int} : (x - (x.tmod 100 + 100).tmod 100).tdiv 100 = x / 100 := by
  have h := Int.mul_tdiv_add_tmod x 100
  have a : (x.tmod 100 + 100).tmod 100 = x % 100 := by
    rcases Int.le_total 0 x with q | q
    · rw [Int.tmod_eq_emod_of_nonneg q]
      have h0 := Int.emod_nonneg x (show (100 : Int) ≠ 0 by decide)
      have h1 := Int.emod_lt_of_pos x (show (0 : Int) < 100 by decide)
      rw [Int.tmod_eq_emod_of_nonneg (by omega)]
      omega
    · have n0 : 0 ≤ (-x).tmod 100 := Int.tmod_nonneg _ (by omega)
      have n1 : (-x).tmod 100 < 100 := Int.tmod_lt_of_pos _ (by decide)
      rw [Int.neg_tmod] at n0 n1
      rw [Int.tmod_eq_emod_of_nonneg (by omega)]
      omega
  rw [a]
  have e : x - x % 100 = 100 * (x / 100) := by omega
  rw [e, Int.mul_tdiv_cancel_left _ (by decide)]
/-- what flows, by the height of both waters -/
theorem sShd_is {r : Int → Int} {c g x : Int} (h : x = r (21 + 11 * c) * (sHt r c g - r (22 + 11 * c)) / 100 - sFl r (100 + c)) : (x < 0 → sShd r c g = min 0 (r (23 + 11 * c) + r (8 + 3 * (c + g)))) ∧ (¬ x < 0 → r (23 + 11 * c) + r (8 + 3 * (c + g)) < x → sShd r c g = r (23 + 11 * c) + r (8 + 3 * (c + g))) ∧ (¬ x < 0 → ¬ r (23 + 11 * c) + r (8 + 3 * (c + g)) < x → sShd r c g = x) := by
  unfold sShd
  rw [← h]
  refine ⟨fun a => ?_, fun a b => ?_, fun a b => ?_⟩ <;> omega
theorem kL_flows {G : JG} {S : JS} {D : JD} {d : Nat} {X t n q : Int} {hs : Int → Int → Int} {r : Int → Int} {c g : Int} (hP : pSt S D X t n hs r q) (ht : t ≤ 60000) (hc : 0 ≤ c ∧ c < r 1) (hg : g = 0 ∨ g = 1) : JM G yL_flows cL_flows 18 (some .boolean) (d + 6) (0, 0) S D [.inr (.inr (some X)), .inl c, .inl g] (jr (.inl 1) S D) := by
  have hB := hP.1
  have bk := hB.1
  have hI := hP.2.1.2.2.2.1
  have b1 := hI.1
  obtain ⟨c4, ln0, ln1, lf0, lf1, gt, s0, s1, s2, s3, sg, v0, v1, w0, w1, f0, f1, k0, k1, kk, a0, a1, g0, g1⟩ := hI.cB ht hc
  have hr := hI.reach hc.1 hc.2 hg
  have hi : 0 ≤ c + g ∧ c + g < r 0 := hr
  have ar := hI.ar hi.1 hi.2
  have mr := (hI.maxw ht).2.1 (c + g) hi.1 hi.2
  have fr := hI.floats (c + g)
  have rg := shRange (a := r (21 + 11 * c)) (b := r (6 + 3 * (c + g))) (f := r (22 + 11 * c)) (g := r (7 + 3 * (c + g))) (m := r (23 + 11 * c)) (n := r (8 + 3 * (c + g))) (p := sFl r (100 + c)) (q := sFl r (c + g)) ⟨by omega, by omega⟩ ⟨by omega, by omega⟩ ⟨by omega, by omega⟩ ⟨by omega, by omega⟩ ⟨by omega, by omega⟩ ⟨by omega, by omega⟩ ⟨by omega, by omega⟩ ⟨by omega, by omega⟩
  have n1 := Int.mul_nonneg (show 0 ≤ r (21 + 11 * c) by omega) (show 0 ≤ r (22 + 11 * c) by omega)
  have n2 := Int.mul_nonneg (show 0 ≤ r (6 + 3 * (c + g)) by omega) (show 0 ≤ r (7 + 3 * (c + g)) by omega)
  have eN : (r (23 + 11 * c) + r (8 + 3 * (c + g)) + sFl r (100 + c) + sFl r (c + g)) * 100 + r (21 + 11 * c) * r (22 + 11 * c) + r (6 + 3 * (c + g)) * r (7 + 3 * (c + g)) = (r (23 + 11 * c) + r (8 + 3 * (c + g)) + sFl r (100 + c) + sFl r (c + g)) * 100 + (r (21 + 11 * c) * r (22 + 11 * c) + r (6 + 3 * (c + g)) * r (7 + 3 * (c + g))) := by omega
  have eH : ((r (23 + 11 * c) + r (8 + 3 * (c + g)) + sFl r (100 + c) + sFl r (c + g)) * 100 + r (21 + 11 * c) * r (22 + 11 * c) + r (6 + 3 * (c + g)) * r (7 + 3 * (c + g))).tdiv (r (21 + 11 * c) + r (6 + 3 * (c + g))) = sHt r c g := by rw [eN, tdiv_pos (by omega)]; rfl
  have rgH : i64 (r (21 + 11 * c) * (sHt r c g - r (22 + 11 * c))) := rg.2.2.2.1
  have rgN : i64 ((r (23 + 11 * c) + r (8 + 3 * (c + g)) + sFl r (100 + c) + sFl r (c + g)) * 100 + r (21 + 11 * c) * r (22 + 11 * c) + r (6 + 3 * (c + g)) * r (7 + 3 * (c + g))) := by rw [eN]; exact rg.1
  have mb1 := mul_bnd (a := r (21 + 11 * c)) (x := r (22 + 11 * c)) (A := 100000) (X := 5000) (by omega) (by omega) (by omega) (by omega)
  have mb2 := mul_bnd (a := r (6 + 3 * (c + g))) (x := r (7 + 3 * (c + g))) (A := 100000) (X := 5000) (by omega) (by omega) (by omega) (by omega)
  have sh0 : 0 ≤ sHt r c g := Int.ediv_nonneg (by omega) (by omega)
  have sh1 : sHt r c g ≤ (r (23 + 11 * c) + r (8 + 3 * (c + g)) + sFl r (100 + c) + sFl r (c + g)) * 100 + (r (21 + 11 * c) * r (22 + 11 * c) + r (6 + 3 * (c + g)) * r (7 + 3 * (c + g))) := Int.ediv_le_self _ (by omega)
  have pb := mul_bnd (a := r (21 + 11 * c)) (x := sHt r c g - r (22 + 11 * c)) (A := 100000) (X := 300000000000) (by omega) (by omega) (by omega) (by omega)
  obtain ⟨x1, x2, x3⟩ := sShd_is (r := r) (c := c) (g := g) rfl
  have dn := tm_down (x := r (21 + 11 * c) * (sHt r c g - r (22 + 11 * c)))
  generalize hPt : r (21 + 11 * c) * (sHt r c g - r (22 + 11 * c)) = PT at *
  have tm0 := Int.tmod_lt_of_pos PT (show (0 : Int) < 100 by decide)
  have tm1 : -100 < PT.tmod 100 := by have h1 := Int.tmod_lt_of_pos (-PT) (show (0 : Int) < 100 by decide); rw [Int.neg_tmod] at h1; omega
  have tm2 := Int.tmod_nonneg (a := PT.tmod 100 + 100) 100 (by omega)
  have tm3 := Int.tmod_lt_of_pos (PT.tmod 100 + 100) (show (0 : Int) < 100 by decide)
  have rp : i64 PT := rgH
  unfold i64 at rp
  have sr : i32 (sShd r c g - r (23 + 11 * c)) := by constructor <;> omega
  show JX _ _ _ _ _ _ _ _ _ _ _ [_, _, _, _, _, _, _, _, _, _, _, _, _, _, _, _, _, _] _ _
  by_cases hx : PT / 100 - sFl r (100 + c) < 0
  · have x4 := x1 hx
    refine x_iload_n dL_flows_0 rfl ?_
    refine x_iload_n dL_flows_1 rfl ?_
    refine x_iadd dL_flows_2 ?_
    refine x_istore_n dL_flows_3 (by decide) ?_
    show JX _ _ _ _ _ _ _ _ _ _ _ [_, _, _, _, _, _, _, _, _, _, _, _, _, _, _, _, _, _] _ _
    refine x_aload_n dL_flows_4 rfl ?_
    refine x_iload_n dL_flows_5 rfl ?_
    refine x_iconst dL_flows_6 ?_
    refine c_RL_15d dL_flows_7 rfl (tc_4 hP ht hc) bk (Nat.le_of_ble_eq_true rfl) (Nat.le_of_ble_eq_true rfl) ⟨Nat.le_refl _, Nat.le_refl _⟩ ?_
    refine x_i2l dL_flows_10 ⟨by omega, by omega⟩ ?_
    refine x_lstore dL_flows_11 (by decide) ?_
    show JX _ _ _ _ _ _ _ _ _ _ _ [_, _, _, _, _, _, _, _, _, _, _, _, _, _, _, _, _, _] _ _
    refine x_aload_n dL_flows_13 rfl ?_
    refine x_iload_n dL_flows_14 rfl ?_
    refine x_iconst dL_flows_15 ?_
    refine c_RL_9d dL_flows_16 rfl (tr_4 hP ht hi) bk (Nat.le_of_ble_eq_true rfl) (Nat.le_of_ble_eq_true rfl) ⟨Nat.le_refl _, Nat.le_refl _⟩ ?_
    refine x_i2l dL_flows_19 ⟨by omega, by omega⟩ ?_
    refine x_lstore dL_flows_20 (by decide) ?_
    show JX _ _ _ _ _ _ _ _ _ _ _ [_, _, _, _, _, _, _, _, _, _, _, _, _, _, _, _, _, _] _ _
    refine x_aload_n dL_flows_22 rfl ?_
    refine x_iload_n dL_flows_23 rfl ?_
    refine x_iconst dL_flows_24 ?_
    refine c_RL_15d dL_flows_25 rfl (tc_1 hP ht hc) bk (Nat.le_of_ble_eq_true rfl) (Nat.le_of_ble_eq_true rfl) ⟨Nat.le_refl _, Nat.le_refl _⟩ ?_
    refine x_i2l dL_flows_28 ⟨by omega, by omega⟩ ?_
    refine x_aload_n dL_flows_29 rfl ?_
    refine x_iload_n dL_flows_30 rfl ?_
    refine x_iconst dL_flows_31 ?_
    refine c_RL_9d dL_flows_32 rfl (tr_1 hP ht hi) bk (Nat.le_of_ble_eq_true rfl) (Nat.le_of_ble_eq_true rfl) ⟨Nat.le_refl _, Nat.le_refl _⟩ ?_
    refine x_i2l dL_flows_35 ⟨by omega, by omega⟩ ?_
    refine x_ladd dL_flows_36 ?_
    refine x_lstore dL_flows_37 (by decide) ?_
    show JX _ _ _ _ _ _ _ _ _ _ _ [_, _, _, _, _, _, _, _, _, _, _, _, _, _, _, _, _, _] _ _
    refine x_lload dL_flows_39 rfl ?_
    refine x_aload_n dL_flows_41 rfl ?_
    refine x_iload_n dL_flows_42 rfl ?_
    refine x_iconst dL_flows_43 ?_
    refine c_RL_15d dL_flows_44 rfl (tc_2 hP ht hc) bk (Nat.le_of_ble_eq_true rfl) (Nat.le_of_ble_eq_true rfl) ⟨Nat.le_refl _, Nat.le_refl _⟩ ?_
    refine x_i2l dL_flows_47 ⟨by omega, by omega⟩ ?_
    refine x_ladd dL_flows_48 ?_
    refine x_aload_n dL_flows_49 rfl ?_
    refine x_iload_n dL_flows_50 rfl ?_
    refine x_iconst dL_flows_51 ?_
    refine c_RL_9d dL_flows_52 rfl (tr_2 hP ht hi) bk (Nat.le_of_ble_eq_true rfl) (Nat.le_of_ble_eq_true rfl) ⟨Nat.le_refl _, Nat.le_refl _⟩ ?_
    refine x_i2l dL_flows_55 ⟨by omega, by omega⟩ ?_
    refine x_ladd dL_flows_56 ?_
    refine x_lstore dL_flows_57 (by decide) ?_
    show JX _ _ _ _ _ _ _ _ _ _ _ [_, _, _, _, _, _, _, _, _, _, _, _, _, _, _, _, _, _] _ _
    refine x_lload dL_flows_59 rfl ?_
    refine x_ldc2 (e := 100) dL_flows_61 ctl_RL_31 (by decide) ?_
    refine x_lmul dL_flows_64 ?_
    refine x_lload dL_flows_65 rfl ?_
    refine x_aload_n dL_flows_67 rfl ?_
    refine x_iload_n dL_flows_68 rfl ?_
    refine x_iconst dL_flows_69 ?_
    refine c_RL_15d dL_flows_70 rfl (tc_5 hP ht hc) bk (Nat.le_of_ble_eq_true rfl) (Nat.le_of_ble_eq_true rfl) ⟨Nat.le_refl _, Nat.le_refl _⟩ ?_
    refine x_i2l dL_flows_73 ⟨by omega, by omega⟩ ?_
    refine x_lmul dL_flows_74 ?_
    refine x_ladd dL_flows_75 ?_
    refine x_lload dL_flows_76 rfl ?_
    refine x_aload_n dL_flows_78 rfl ?_
    refine x_iload_n dL_flows_79 rfl ?_
    refine x_iconst dL_flows_80 ?_
    refine c_RL_9d dL_flows_81 rfl (tr_5 hP ht hi) bk (Nat.le_of_ble_eq_true rfl) (Nat.le_of_ble_eq_true rfl) ⟨Nat.le_refl _, Nat.le_refl _⟩ ?_
    refine x_i2l dL_flows_84 ⟨by omega, by omega⟩ ?_
    refine x_lmul dL_flows_85 ?_
    refine x_ladd dL_flows_86 ?_
    refine x_lload dL_flows_87 rfl ?_
    refine x_lload dL_flows_89 rfl ?_
    refine x_ladd dL_flows_91 ?_
    refine x_ldiv dL_flows_92 rgN ⟨by omega, by omega⟩ (by omega) ?_
    rw [eH]
    refine x_lstore dL_flows_93 (by decide) ?_
    show JX _ _ _ _ _ _ _ _ _ _ _ [_, _, _, _, _, _, _, _, _, _, _, _, _, _, _, _, _, _] _ _
    refine x_lload dL_flows_95 rfl ?_
    refine x_lload dL_flows_97 rfl ?_
    refine x_aload_n dL_flows_99 rfl ?_
    refine x_iload_n dL_flows_100 rfl ?_
    refine x_iconst dL_flows_101 ?_
    refine c_RL_15d dL_flows_102 rfl (tc_5 hP ht hc) bk (Nat.le_of_ble_eq_true rfl) (Nat.le_of_ble_eq_true rfl) ⟨Nat.le_refl _, Nat.le_refl _⟩ ?_
    refine x_i2l dL_flows_105 ⟨by omega, by omega⟩ ?_
    refine x_lsub dL_flows_106 ?_
    refine x_lmul dL_flows_107 ?_
    rw [hPt]
    refine x_lstore dL_flows_108 (by decide) ?_
    show JX _ _ _ _ _ _ _ _ _ _ _ [_, _, _, _, _, _, _, _, _, _, _, _, _, _, _, _, _, _] _ _
    refine x_lload dL_flows_110 rfl ?_
    refine x_lload dL_flows_112 rfl ?_
    refine x_ldc2 (e := 100) dL_flows_114 ctl_RL_31 (by decide) ?_
    refine x_lrem dL_flows_117 ⟨by omega, by omega⟩ ⟨by omega, by omega⟩ (by decide) ?_
    refine x_ldc2 (e := 100) dL_flows_118 ctl_RL_31 (by decide) ?_
    refine x_ladd dL_flows_121 ?_
    refine x_ldc2 (e := 100) dL_flows_122 ctl_RL_31 (by decide) ?_
    refine x_lrem dL_flows_125 ⟨by omega, by omega⟩ ⟨by omega, by omega⟩ (by decide) ?_
    refine x_lsub dL_flows_126 ?_
    refine x_ldc2 (e := 100) dL_flows_127 ctl_RL_31 (by decide) ?_
    refine x_ldiv dL_flows_130 ⟨by omega, by omega⟩ ⟨by omega, by omega⟩ (by decide) ?_
    rw [dn]
    refine x_aload_n dL_flows_131 rfl ?_
    refine x_iload_n dL_flows_132 rfl ?_
    refine x_iconst dL_flows_133 ?_
    refine c_RL_15d dL_flows_134 rfl (tc_2 hP ht hc) bk (Nat.le_of_ble_eq_true rfl) (Nat.le_of_ble_eq_true rfl) ⟨Nat.le_refl _, Nat.le_refl _⟩ ?_
    refine x_i2l dL_flows_137 ⟨by omega, by omega⟩ ?_
    refine x_lsub dL_flows_138 ?_
    refine x_lstore dL_flows_139 (by decide) ?_
    show JX _ _ _ _ _ _ _ _ _ _ _ [_, _, _, _, _, _, _, _, _, _, _, _, _, _, _, _, _, _] _ _
    refine x_lload dL_flows_141 rfl ?_
    refine x_lconst (e := 0) dL_flows_143 (by decide) ?_
    refine x_lc_ge (tgt := 152) dL_flows_144 dL_flows_145 (by decide) ⟨by omega, by omega⟩ ⟨by omega, by omega⟩ (fun h => absurd h (by omega)) (fun hb145 => ?_)
    refine x_lconst (e := 0) dL_flows_148 (by decide) ?_
    refine x_goto (tgt := 167) dL_flows_149 (by decide) ?_
    refine x_lstore dL_flows_167 (by decide) ?_
    show JX _ _ _ _ _ _ _ _ _ _ _ [_, _, _, _, _, _, _, _, _, _, _, _, _, _, _, _, _, _] _ _
    refine x_aload_n dL_flows_169 rfl ?_
    refine x_iload_n dL_flows_170 rfl ?_
    refine x_iload_n dL_flows_171 rfl ?_
    refine c_RL_49d dL_flows_172 rfl (tf_y hP ht hc hg) bk (Nat.le_of_ble_eq_true rfl) (Nat.le_of_ble_eq_true rfl) ⟨Nat.le_refl _, Nat.le_refl _⟩ ?_
    refine x_i2l dL_flows_175 sr ?_
    refine x_lload dL_flows_176 rfl ?_
    refine x_aload_n dL_flows_178 rfl ?_
    refine x_iload_n dL_flows_179 rfl ?_
    refine x_iconst dL_flows_180 ?_
    refine c_RL_15d dL_flows_181 rfl (tc_1 hP ht hc) bk (Nat.le_of_ble_eq_true rfl) (Nat.le_of_ble_eq_true rfl) ⟨Nat.le_refl _, Nat.le_refl _⟩ ?_
    refine x_i2l dL_flows_184 ⟨by omega, by omega⟩ ?_
    refine x_lsub dL_flows_185 ?_
    refine x_lc_ne (tgt := 205) dL_flows_186 dL_flows_187 (by decide) ⟨by omega, by omega⟩ ⟨by omega, by omega⟩ (fun h => absurd h (by omega)) (fun hb187 => ?_)
    refine x_aload_n dL_flows_190 rfl ?_
    refine x_iload_n dL_flows_191 rfl ?_
    refine x_iconst dL_flows_192 ?_
    refine c_RL_49d dL_flows_193 rfl (tf_u hP ht hc) bk (Nat.le_of_ble_eq_true rfl) (Nat.le_of_ble_eq_true rfl) ⟨Nat.le_refl _, Nat.le_refl _⟩ ?_
    refine x_ldc (e := -100000001) dL_flows_196 ct_RL_48 (by decide) ?_
    refine x_ic_ne (tgt := 205) dL_flows_198 (by decide) ⟨by omega, by omega⟩ ⟨by omega, by omega⟩ (fun h => absurd h (by omega)) (fun hb198 => ?_)
    refine x_iconst dL_flows_201 ?_
    refine x_goto (tgt := 206) dL_flows_202 (by decide) ?_
    exact x_ireturn dL_flows_206 rfl (jbool (by first | exact Or.inl rfl | exact Or.inr rfl)).1 ⟨Nat.le_refl _, Nat.le_refl _⟩ ⟨rfl, rfl, rfl⟩
  · by_cases hy : r (23 + 11 * c) + r (8 + 3 * (c + g)) < PT / 100 - sFl r (100 + c)
    · have x4 := x2 hx hy
      refine x_iload_n dL_flows_0 rfl ?_
      refine x_iload_n dL_flows_1 rfl ?_
      refine x_iadd dL_flows_2 ?_
      refine x_istore_n dL_flows_3 (by decide) ?_
      show JX _ _ _ _ _ _ _ _ _ _ _ [_, _, _, _, _, _, _, _, _, _, _, _, _, _, _, _, _, _] _ _
      refine x_aload_n dL_flows_4 rfl ?_
      refine x_iload_n dL_flows_5 rfl ?_
      refine x_iconst dL_flows_6 ?_
      refine c_RL_15d dL_flows_7 rfl (tc_4 hP ht hc) bk (Nat.le_of_ble_eq_true rfl) (Nat.le_of_ble_eq_true rfl) ⟨Nat.le_refl _, Nat.le_refl _⟩ ?_
      refine x_i2l dL_flows_10 ⟨by omega, by omega⟩ ?_
      refine x_lstore dL_flows_11 (by decide) ?_
      show JX _ _ _ _ _ _ _ _ _ _ _ [_, _, _, _, _, _, _, _, _, _, _, _, _, _, _, _, _, _] _ _
      refine x_aload_n dL_flows_13 rfl ?_
      refine x_iload_n dL_flows_14 rfl ?_
      refine x_iconst dL_flows_15 ?_
      refine c_RL_9d dL_flows_16 rfl (tr_4 hP ht hi) bk (Nat.le_of_ble_eq_true rfl) (Nat.le_of_ble_eq_true rfl) ⟨Nat.le_refl _, Nat.le_refl _⟩ ?_
      refine x_i2l dL_flows_19 ⟨by omega, by omega⟩ ?_
      refine x_lstore dL_flows_20 (by decide) ?_
      show JX _ _ _ _ _ _ _ _ _ _ _ [_, _, _, _, _, _, _, _, _, _, _, _, _, _, _, _, _, _] _ _
      refine x_aload_n dL_flows_22 rfl ?_
      refine x_iload_n dL_flows_23 rfl ?_
      refine x_iconst dL_flows_24 ?_
      refine c_RL_15d dL_flows_25 rfl (tc_1 hP ht hc) bk (Nat.le_of_ble_eq_true rfl) (Nat.le_of_ble_eq_true rfl) ⟨Nat.le_refl _, Nat.le_refl _⟩ ?_
      refine x_i2l dL_flows_28 ⟨by omega, by omega⟩ ?_
      refine x_aload_n dL_flows_29 rfl ?_
      refine x_iload_n dL_flows_30 rfl ?_
      refine x_iconst dL_flows_31 ?_
      refine c_RL_9d dL_flows_32 rfl (tr_1 hP ht hi) bk (Nat.le_of_ble_eq_true rfl) (Nat.le_of_ble_eq_true rfl) ⟨Nat.le_refl _, Nat.le_refl _⟩ ?_
      refine x_i2l dL_flows_35 ⟨by omega, by omega⟩ ?_
      refine x_ladd dL_flows_36 ?_
      refine x_lstore dL_flows_37 (by decide) ?_
      show JX _ _ _ _ _ _ _ _ _ _ _ [_, _, _, _, _, _, _, _, _, _, _, _, _, _, _, _, _, _] _ _
      refine x_lload dL_flows_39 rfl ?_
      refine x_aload_n dL_flows_41 rfl ?_
      refine x_iload_n dL_flows_42 rfl ?_
      refine x_iconst dL_flows_43 ?_
      refine c_RL_15d dL_flows_44 rfl (tc_2 hP ht hc) bk (Nat.le_of_ble_eq_true rfl) (Nat.le_of_ble_eq_true rfl) ⟨Nat.le_refl _, Nat.le_refl _⟩ ?_
      refine x_i2l dL_flows_47 ⟨by omega, by omega⟩ ?_
      refine x_ladd dL_flows_48 ?_
      refine x_aload_n dL_flows_49 rfl ?_
      refine x_iload_n dL_flows_50 rfl ?_
      refine x_iconst dL_flows_51 ?_
      refine c_RL_9d dL_flows_52 rfl (tr_2 hP ht hi) bk (Nat.le_of_ble_eq_true rfl) (Nat.le_of_ble_eq_true rfl) ⟨Nat.le_refl _, Nat.le_refl _⟩ ?_
      refine x_i2l dL_flows_55 ⟨by omega, by omega⟩ ?_
      refine x_ladd dL_flows_56 ?_
      refine x_lstore dL_flows_57 (by decide) ?_
      show JX _ _ _ _ _ _ _ _ _ _ _ [_, _, _, _, _, _, _, _, _, _, _, _, _, _, _, _, _, _] _ _
      refine x_lload dL_flows_59 rfl ?_
      refine x_ldc2 (e := 100) dL_flows_61 ctl_RL_31 (by decide) ?_
      refine x_lmul dL_flows_64 ?_
      refine x_lload dL_flows_65 rfl ?_
      refine x_aload_n dL_flows_67 rfl ?_
      refine x_iload_n dL_flows_68 rfl ?_
      refine x_iconst dL_flows_69 ?_
      refine c_RL_15d dL_flows_70 rfl (tc_5 hP ht hc) bk (Nat.le_of_ble_eq_true rfl) (Nat.le_of_ble_eq_true rfl) ⟨Nat.le_refl _, Nat.le_refl _⟩ ?_
      refine x_i2l dL_flows_73 ⟨by omega, by omega⟩ ?_
      refine x_lmul dL_flows_74 ?_
      refine x_ladd dL_flows_75 ?_
      refine x_lload dL_flows_76 rfl ?_
      refine x_aload_n dL_flows_78 rfl ?_
      refine x_iload_n dL_flows_79 rfl ?_
      refine x_iconst dL_flows_80 ?_
      refine c_RL_9d dL_flows_81 rfl (tr_5 hP ht hi) bk (Nat.le_of_ble_eq_true rfl) (Nat.le_of_ble_eq_true rfl) ⟨Nat.le_refl _, Nat.le_refl _⟩ ?_
      refine x_i2l dL_flows_84 ⟨by omega, by omega⟩ ?_
      refine x_lmul dL_flows_85 ?_
      refine x_ladd dL_flows_86 ?_
      refine x_lload dL_flows_87 rfl ?_
      refine x_lload dL_flows_89 rfl ?_
      refine x_ladd dL_flows_91 ?_
      refine x_ldiv dL_flows_92 rgN ⟨by omega, by omega⟩ (by omega) ?_
      rw [eH]
      refine x_lstore dL_flows_93 (by decide) ?_
      show JX _ _ _ _ _ _ _ _ _ _ _ [_, _, _, _, _, _, _, _, _, _, _, _, _, _, _, _, _, _] _ _
      refine x_lload dL_flows_95 rfl ?_
      refine x_lload dL_flows_97 rfl ?_
      refine x_aload_n dL_flows_99 rfl ?_
      refine x_iload_n dL_flows_100 rfl ?_
      refine x_iconst dL_flows_101 ?_
      refine c_RL_15d dL_flows_102 rfl (tc_5 hP ht hc) bk (Nat.le_of_ble_eq_true rfl) (Nat.le_of_ble_eq_true rfl) ⟨Nat.le_refl _, Nat.le_refl _⟩ ?_
      refine x_i2l dL_flows_105 ⟨by omega, by omega⟩ ?_
      refine x_lsub dL_flows_106 ?_
      refine x_lmul dL_flows_107 ?_
      rw [hPt]
      refine x_lstore dL_flows_108 (by decide) ?_
      show JX _ _ _ _ _ _ _ _ _ _ _ [_, _, _, _, _, _, _, _, _, _, _, _, _, _, _, _, _, _] _ _
      refine x_lload dL_flows_110 rfl ?_
      refine x_lload dL_flows_112 rfl ?_
      refine x_ldc2 (e := 100) dL_flows_114 ctl_RL_31 (by decide) ?_
      refine x_lrem dL_flows_117 ⟨by omega, by omega⟩ ⟨by omega, by omega⟩ (by decide) ?_
      refine x_ldc2 (e := 100) dL_flows_118 ctl_RL_31 (by decide) ?_
      refine x_ladd dL_flows_121 ?_
      refine x_ldc2 (e := 100) dL_flows_122 ctl_RL_31 (by decide) ?_
      refine x_lrem dL_flows_125 ⟨by omega, by omega⟩ ⟨by omega, by omega⟩ (by decide) ?_
      refine x_lsub dL_flows_126 ?_
      refine x_ldc2 (e := 100) dL_flows_127 ctl_RL_31 (by decide) ?_
      refine x_ldiv dL_flows_130 ⟨by omega, by omega⟩ ⟨by omega, by omega⟩ (by decide) ?_
      rw [dn]
      refine x_aload_n dL_flows_131 rfl ?_
      refine x_iload_n dL_flows_132 rfl ?_
      refine x_iconst dL_flows_133 ?_
      refine c_RL_15d dL_flows_134 rfl (tc_2 hP ht hc) bk (Nat.le_of_ble_eq_true rfl) (Nat.le_of_ble_eq_true rfl) ⟨Nat.le_refl _, Nat.le_refl _⟩ ?_
      refine x_i2l dL_flows_137 ⟨by omega, by omega⟩ ?_
      refine x_lsub dL_flows_138 ?_
      refine x_lstore dL_flows_139 (by decide) ?_
      show JX _ _ _ _ _ _ _ _ _ _ _ [_, _, _, _, _, _, _, _, _, _, _, _, _, _, _, _, _, _] _ _
      refine x_lload dL_flows_141 rfl ?_
      refine x_lconst (e := 0) dL_flows_143 (by decide) ?_
      refine x_lc_ge (tgt := 152) dL_flows_144 dL_flows_145 (by decide) ⟨by omega, by omega⟩ ⟨by omega, by omega⟩ (fun hb145 => ?_) (fun h => (h (by omega)).elim)
      refine x_lload dL_flows_152 rfl ?_
      refine x_lload dL_flows_154 rfl ?_
      refine x_lc_le (tgt := 165) dL_flows_156 dL_flows_157 (by decide) ⟨by omega, by omega⟩ ⟨by omega, by omega⟩ (fun h => absurd h (by omega)) (fun hb157 => ?_)
      refine x_lload dL_flows_160 rfl ?_
      refine x_goto (tgt := 167) dL_flows_162 (by decide) ?_
      refine x_lstore dL_flows_167 (by decide) ?_
      show JX _ _ _ _ _ _ _ _ _ _ _ [_, _, _, _, _, _, _, _, _, _, _, _, _, _, _, _, _, _] _ _
      refine x_aload_n dL_flows_169 rfl ?_
      refine x_iload_n dL_flows_170 rfl ?_
      refine x_iload_n dL_flows_171 rfl ?_
      refine c_RL_49d dL_flows_172 rfl (tf_y hP ht hc hg) bk (Nat.le_of_ble_eq_true rfl) (Nat.le_of_ble_eq_true rfl) ⟨Nat.le_refl _, Nat.le_refl _⟩ ?_
      refine x_i2l dL_flows_175 sr ?_
      refine x_lload dL_flows_176 rfl ?_
      refine x_aload_n dL_flows_178 rfl ?_
      refine x_iload_n dL_flows_179 rfl ?_
      refine x_iconst dL_flows_180 ?_
      refine c_RL_15d dL_flows_181 rfl (tc_1 hP ht hc) bk (Nat.le_of_ble_eq_true rfl) (Nat.le_of_ble_eq_true rfl) ⟨Nat.le_refl _, Nat.le_refl _⟩ ?_
      refine x_i2l dL_flows_184 ⟨by omega, by omega⟩ ?_
      refine x_lsub dL_flows_185 ?_
      refine x_lc_ne (tgt := 205) dL_flows_186 dL_flows_187 (by decide) ⟨by omega, by omega⟩ ⟨by omega, by omega⟩ (fun h => absurd h (by omega)) (fun hb187 => ?_)
      refine x_aload_n dL_flows_190 rfl ?_
      refine x_iload_n dL_flows_191 rfl ?_
      refine x_iconst dL_flows_192 ?_
      refine c_RL_49d dL_flows_193 rfl (tf_u hP ht hc) bk (Nat.le_of_ble_eq_true rfl) (Nat.le_of_ble_eq_true rfl) ⟨Nat.le_refl _, Nat.le_refl _⟩ ?_
      refine x_ldc (e := -100000001) dL_flows_196 ct_RL_48 (by decide) ?_
      refine x_ic_ne (tgt := 205) dL_flows_198 (by decide) ⟨by omega, by omega⟩ ⟨by omega, by omega⟩ (fun h => absurd h (by omega)) (fun hb198 => ?_)
      refine x_iconst dL_flows_201 ?_
      refine x_goto (tgt := 206) dL_flows_202 (by decide) ?_
      exact x_ireturn dL_flows_206 rfl (jbool (by first | exact Or.inl rfl | exact Or.inr rfl)).1 ⟨Nat.le_refl _, Nat.le_refl _⟩ ⟨rfl, rfl, rfl⟩
    · have x4 := x3 hx hy
      refine x_iload_n dL_flows_0 rfl ?_
      refine x_iload_n dL_flows_1 rfl ?_
      refine x_iadd dL_flows_2 ?_
      refine x_istore_n dL_flows_3 (by decide) ?_
      show JX _ _ _ _ _ _ _ _ _ _ _ [_, _, _, _, _, _, _, _, _, _, _, _, _, _, _, _, _, _] _ _
      refine x_aload_n dL_flows_4 rfl ?_
      refine x_iload_n dL_flows_5 rfl ?_
      refine x_iconst dL_flows_6 ?_
      refine c_RL_15d dL_flows_7 rfl (tc_4 hP ht hc) bk (Nat.le_of_ble_eq_true rfl) (Nat.le_of_ble_eq_true rfl) ⟨Nat.le_refl _, Nat.le_refl _⟩ ?_
      refine x_i2l dL_flows_10 ⟨by omega, by omega⟩ ?_
      refine x_lstore dL_flows_11 (by decide) ?_
      show JX _ _ _ _ _ _ _ _ _ _ _ [_, _, _, _, _, _, _, _, _, _, _, _, _, _, _, _, _, _] _ _
      refine x_aload_n dL_flows_13 rfl ?_
      refine x_iload_n dL_flows_14 rfl ?_
      refine x_iconst dL_flows_15 ?_
      refine c_RL_9d dL_flows_16 rfl (tr_4 hP ht hi) bk (Nat.le_of_ble_eq_true rfl) (Nat.le_of_ble_eq_true rfl) ⟨Nat.le_refl _, Nat.le_refl _⟩ ?_
      refine x_i2l dL_flows_19 ⟨by omega, by omega⟩ ?_
      refine x_lstore dL_flows_20 (by decide) ?_
      show JX _ _ _ _ _ _ _ _ _ _ _ [_, _, _, _, _, _, _, _, _, _, _, _, _, _, _, _, _, _] _ _
      refine x_aload_n dL_flows_22 rfl ?_
      refine x_iload_n dL_flows_23 rfl ?_
      refine x_iconst dL_flows_24 ?_
      refine c_RL_15d dL_flows_25 rfl (tc_1 hP ht hc) bk (Nat.le_of_ble_eq_true rfl) (Nat.le_of_ble_eq_true rfl) ⟨Nat.le_refl _, Nat.le_refl _⟩ ?_
      refine x_i2l dL_flows_28 ⟨by omega, by omega⟩ ?_
      refine x_aload_n dL_flows_29 rfl ?_
      refine x_iload_n dL_flows_30 rfl ?_
      refine x_iconst dL_flows_31 ?_
      refine c_RL_9d dL_flows_32 rfl (tr_1 hP ht hi) bk (Nat.le_of_ble_eq_true rfl) (Nat.le_of_ble_eq_true rfl) ⟨Nat.le_refl _, Nat.le_refl _⟩ ?_
      refine x_i2l dL_flows_35 ⟨by omega, by omega⟩ ?_
      refine x_ladd dL_flows_36 ?_
      refine x_lstore dL_flows_37 (by decide) ?_
      show JX _ _ _ _ _ _ _ _ _ _ _ [_, _, _, _, _, _, _, _, _, _, _, _, _, _, _, _, _, _] _ _
      refine x_lload dL_flows_39 rfl ?_
      refine x_aload_n dL_flows_41 rfl ?_
      refine x_iload_n dL_flows_42 rfl ?_
      refine x_iconst dL_flows_43 ?_
      refine c_RL_15d dL_flows_44 rfl (tc_2 hP ht hc) bk (Nat.le_of_ble_eq_true rfl) (Nat.le_of_ble_eq_true rfl) ⟨Nat.le_refl _, Nat.le_refl _⟩ ?_
      refine x_i2l dL_flows_47 ⟨by omega, by omega⟩ ?_
      refine x_ladd dL_flows_48 ?_
      refine x_aload_n dL_flows_49 rfl ?_
      refine x_iload_n dL_flows_50 rfl ?_
      refine x_iconst dL_flows_51 ?_
      refine c_RL_9d dL_flows_52 rfl (tr_2 hP ht hi) bk (Nat.le_of_ble_eq_true rfl) (Nat.le_of_ble_eq_true rfl) ⟨Nat.le_refl _, Nat.le_refl _⟩ ?_
      refine x_i2l dL_flows_55 ⟨by omega, by omega⟩ ?_
      refine x_ladd dL_flows_56 ?_
      refine x_lstore dL_flows_57 (by decide) ?_
      show JX _ _ _ _ _ _ _ _ _ _ _ [_, _, _, _, _, _, _, _, _, _, _, _, _, _, _, _, _, _] _ _
      refine x_lload dL_flows_59 rfl ?_
      refine x_ldc2 (e := 100) dL_flows_61 ctl_RL_31 (by decide) ?_
      refine x_lmul dL_flows_64 ?_
      refine x_lload dL_flows_65 rfl ?_
      refine x_aload_n dL_flows_67 rfl ?_
      refine x_iload_n dL_flows_68 rfl ?_
      refine x_iconst dL_flows_69 ?_
      refine c_RL_15d dL_flows_70 rfl (tc_5 hP ht hc) bk (Nat.le_of_ble_eq_true rfl) (Nat.le_of_ble_eq_true rfl) ⟨Nat.le_refl _, Nat.le_refl _⟩ ?_
      refine x_i2l dL_flows_73 ⟨by omega, by omega⟩ ?_
      refine x_lmul dL_flows_74 ?_
      refine x_ladd dL_flows_75 ?_
      refine x_lload dL_flows_76 rfl ?_
      refine x_aload_n dL_flows_78 rfl ?_
      refine x_iload_n dL_flows_79 rfl ?_
      refine x_iconst dL_flows_80 ?_
      refine c_RL_9d dL_flows_81 rfl (tr_5 hP ht hi) bk (Nat.le_of_ble_eq_true rfl) (Nat.le_of_ble_eq_true rfl) ⟨Nat.le_refl _, Nat.le_refl _⟩ ?_
      refine x_i2l dL_flows_84 ⟨by omega, by omega⟩ ?_
      refine x_lmul dL_flows_85 ?_
      refine x_ladd dL_flows_86 ?_
      refine x_lload dL_flows_87 rfl ?_
      refine x_lload dL_flows_89 rfl ?_
      refine x_ladd dL_flows_91 ?_
      refine x_ldiv dL_flows_92 rgN ⟨by omega, by omega⟩ (by omega) ?_
      rw [eH]
      refine x_lstore dL_flows_93 (by decide) ?_
      show JX _ _ _ _ _ _ _ _ _ _ _ [_, _, _, _, _, _, _, _, _, _, _, _, _, _, _, _, _, _] _ _
      refine x_lload dL_flows_95 rfl ?_
      refine x_lload dL_flows_97 rfl ?_
      refine x_aload_n dL_flows_99 rfl ?_
      refine x_iload_n dL_flows_100 rfl ?_
      refine x_iconst dL_flows_101 ?_
      refine c_RL_15d dL_flows_102 rfl (tc_5 hP ht hc) bk (Nat.le_of_ble_eq_true rfl) (Nat.le_of_ble_eq_true rfl) ⟨Nat.le_refl _, Nat.le_refl _⟩ ?_
      refine x_i2l dL_flows_105 ⟨by omega, by omega⟩ ?_
      refine x_lsub dL_flows_106 ?_
      refine x_lmul dL_flows_107 ?_
      rw [hPt]
      refine x_lstore dL_flows_108 (by decide) ?_
      show JX _ _ _ _ _ _ _ _ _ _ _ [_, _, _, _, _, _, _, _, _, _, _, _, _, _, _, _, _, _] _ _
      refine x_lload dL_flows_110 rfl ?_
      refine x_lload dL_flows_112 rfl ?_
      refine x_ldc2 (e := 100) dL_flows_114 ctl_RL_31 (by decide) ?_
      refine x_lrem dL_flows_117 ⟨by omega, by omega⟩ ⟨by omega, by omega⟩ (by decide) ?_
      refine x_ldc2 (e := 100) dL_flows_118 ctl_RL_31 (by decide) ?_
      refine x_ladd dL_flows_121 ?_
      refine x_ldc2 (e := 100) dL_flows_122 ctl_RL_31 (by decide) ?_
      refine x_lrem dL_flows_125 ⟨by omega, by omega⟩ ⟨by omega, by omega⟩ (by decide) ?_
      refine x_lsub dL_flows_126 ?_
      refine x_ldc2 (e := 100) dL_flows_127 ctl_RL_31 (by decide) ?_
      refine x_ldiv dL_flows_130 ⟨by omega, by omega⟩ ⟨by omega, by omega⟩ (by decide) ?_
      rw [dn]
      refine x_aload_n dL_flows_131 rfl ?_
      refine x_iload_n dL_flows_132 rfl ?_
      refine x_iconst dL_flows_133 ?_
      refine c_RL_15d dL_flows_134 rfl (tc_2 hP ht hc) bk (Nat.le_of_ble_eq_true rfl) (Nat.le_of_ble_eq_true rfl) ⟨Nat.le_refl _, Nat.le_refl _⟩ ?_
      refine x_i2l dL_flows_137 ⟨by omega, by omega⟩ ?_
      refine x_lsub dL_flows_138 ?_
      refine x_lstore dL_flows_139 (by decide) ?_
      show JX _ _ _ _ _ _ _ _ _ _ _ [_, _, _, _, _, _, _, _, _, _, _, _, _, _, _, _, _, _] _ _
      refine x_lload dL_flows_141 rfl ?_
      refine x_lconst (e := 0) dL_flows_143 (by decide) ?_
      refine x_lc_ge (tgt := 152) dL_flows_144 dL_flows_145 (by decide) ⟨by omega, by omega⟩ ⟨by omega, by omega⟩ (fun hb145 => ?_) (fun h => (h (by omega)).elim)
      refine x_lload dL_flows_152 rfl ?_
      refine x_lload dL_flows_154 rfl ?_
      refine x_lc_le (tgt := 165) dL_flows_156 dL_flows_157 (by decide) ⟨by omega, by omega⟩ ⟨by omega, by omega⟩ (fun hb157 => ?_) (fun h => (h (by omega)).elim)
      refine x_lload dL_flows_165 rfl ?_
      refine x_lstore dL_flows_167 (by decide) ?_
      show JX _ _ _ _ _ _ _ _ _ _ _ [_, _, _, _, _, _, _, _, _, _, _, _, _, _, _, _, _, _] _ _
      refine x_aload_n dL_flows_169 rfl ?_
      refine x_iload_n dL_flows_170 rfl ?_
      refine x_iload_n dL_flows_171 rfl ?_
      refine c_RL_49d dL_flows_172 rfl (tf_y hP ht hc hg) bk (Nat.le_of_ble_eq_true rfl) (Nat.le_of_ble_eq_true rfl) ⟨Nat.le_refl _, Nat.le_refl _⟩ ?_
      refine x_i2l dL_flows_175 sr ?_
      refine x_lload dL_flows_176 rfl ?_
      refine x_aload_n dL_flows_178 rfl ?_
      refine x_iload_n dL_flows_179 rfl ?_
      refine x_iconst dL_flows_180 ?_
      refine c_RL_15d dL_flows_181 rfl (tc_1 hP ht hc) bk (Nat.le_of_ble_eq_true rfl) (Nat.le_of_ble_eq_true rfl) ⟨Nat.le_refl _, Nat.le_refl _⟩ ?_
      refine x_i2l dL_flows_184 ⟨by omega, by omega⟩ ?_
      refine x_lsub dL_flows_185 ?_
      refine x_lc_ne (tgt := 205) dL_flows_186 dL_flows_187 (by decide) ⟨by omega, by omega⟩ ⟨by omega, by omega⟩ (fun h => absurd h (by omega)) (fun hb187 => ?_)
      refine x_aload_n dL_flows_190 rfl ?_
      refine x_iload_n dL_flows_191 rfl ?_
      refine x_iconst dL_flows_192 ?_
      refine c_RL_49d dL_flows_193 rfl (tf_u hP ht hc) bk (Nat.le_of_ble_eq_true rfl) (Nat.le_of_ble_eq_true rfl) ⟨Nat.le_refl _, Nat.le_refl _⟩ ?_
      refine x_ldc (e := -100000001) dL_flows_196 ct_RL_48 (by decide) ?_
      refine x_ic_ne (tgt := 205) dL_flows_198 (by decide) ⟨by omega, by omega⟩ ⟨by omega, by omega⟩ (fun h => absurd h (by omega)) (fun hb198 => ?_)
      refine x_iconst dL_flows_201 ?_
      refine x_goto (tgt := 206) dL_flows_202 (by decide) ?_
      exact x_ireturn dL_flows_206 rfl (jbool (by first | exact Or.inl rfl | exact Or.inr rfl)).1 ⟨Nat.le_refl _, Nat.le_refl _⟩ ⟨rfl, rfl, rfl⟩
theorem sDr_le {r : Int → Int} {k : Int} (h : 1 ≤ sW r k) (hi : 1 ≤ r (67 + 8 * k)) : sDr r k ≤ sW r k := by
  unfold sDr
  refine Int.lt_add_one_iff.mp ((Int.ediv_lt_iff_lt_mul (by omega)).mpr ?_)
  have e : (sW r k + 1) * r (67 + 8 * k) = sW r k * r (67 + 8 * k) + r (67 + 8 * k) := by rw [Int.add_mul, Int.one_mul]
  have p : sW r k * 1 ≤ sW r k * r (67 + 8 * k) := Int.mul_le_mul_of_nonneg_left (by omega) (by omega)
  omega
theorem margins_n {G : JG} {S : JS} {D : JD} {d : Nat} {X t n q : Int} {hs : Int → Int → Int} {r : Int → Int} {k c g : Int} (hP : pSt S D X t n hs r q) (ht : t ≤ 60000) (hk : 0 ≤ k ∧ k < r 2) (hc : 0 ≤ c ∧ c < r 1) (hg : g = 0 ∨ g = 1) (hm : tMost r k c g < sW r k) : JM G yL_margins cL_margins 9 (some .boolean) (d + 7) (0, 0) S D [.inr (.inr (some X)), .inl k, .inl c, .inl g] (jr (.inl 1) S D) := by
  have hB := hP.1
  have bk := hB.1
  have hI := hP.2.1.2.2.2.1
  have b1 := hI.1
  obtain ⟨c4, ln0, ln1, lf0, lf1, gt, s0, s1, s2, s3, sg, v0, v1, w0, w1, f0, f1, k0, k1, kk, a0, a1, g0, g1⟩ := hI.cB ht hc
  obtain ⟨bk0, q0, q1, q2, q3, q4, q5, q6, q7, q8, q9, q10, q11, hp, q13, q14, q15, q16, q17, q18⟩ := hI.bB ht hk
  have sgg := sg g hg
  have dd := tMost_deep (c := c) (g := g) hI hk.1 hk.2
  have dv : 1 ≤ (sW r k).tdiv (sDr r k) := by
    rw [tdiv_pos (by omega)]
    have h := sDr_le (r := r) (k := k) (by omega) (by omega)
    exact Int.le_ediv_of_mul_le (by omega) (by omega)
  have dv2 : (sW r k).tdiv (sDr r k) ≤ 1500 := by
    rw [tdiv_pos (by omega)]
    have := Int.ediv_le_self (sDr r k) (show 0 ≤ sW r k by omega)
    omega
  have gd : sLv r (100 + c) - sHg r c g - r 3 < sDr r k := dd.mp hm
  show JX _ _ _ _ _ _ _ _ _ _ _ [_, _, _, _, _, _, _, _, _] _ _
  refine x_aload_n dL_margins_0 rfl ?_
  refine x_iload_n dL_margins_1 rfl ?_
  refine x_iconst dL_margins_2 ?_
  refine c_RL_15d dL_margins_3 rfl (tc_0 hP ht hc) bk (Nat.le_of_ble_eq_true rfl) (Nat.le_of_ble_eq_true rfl) ⟨Nat.le_refl _, Nat.le_refl _⟩ ?_
  refine x_aload_n dL_margins_6 rfl ?_
  refine x_iload_n dL_margins_7 rfl ?_
  refine x_bipush dL_margins_8 (by decide) ?_
  refine x_iload_n dL_margins_10 rfl ?_
  refine x_iadd dL_margins_11 ?_
  refine c_RL_15d dL_margins_12 rfl (tc_s hP ht hc hg) bk (Nat.le_of_ble_eq_true rfl) (Nat.le_of_ble_eq_true rfl) ⟨Nat.le_refl _, Nat.le_refl _⟩ ?_
  refine x_isub dL_margins_15 ?_
  refine x_aload_n dL_margins_16 rfl ?_
  refine x_bipush dL_margins_17 (by decide) ?_
  refine c_RL_18d dL_margins_19 rfl (tn_6 hP ht) bk (Nat.le_of_ble_eq_true rfl) (Nat.le_of_ble_eq_true rfl) ⟨Nat.le_refl _, Nat.le_refl _⟩ ?_
  refine x_isub dL_margins_22 ?_
  refine x_istore dL_margins_23 (by decide) ?_
  show JX _ _ _ _ _ _ _ _ _ _ _ [_, _, _, _, _, _, _, _, _] _ _
  refine x_aload_n dL_margins_25 rfl ?_
  refine x_iload_n dL_margins_26 rfl ?_
  refine x_iload_n dL_margins_27 rfl ?_
  refine x_iload_n dL_margins_28 rfl ?_
  refine c_RL_52d dL_margins_29 rfl (tm_n hP ht hk hc hg hm) bk (Nat.le_of_ble_eq_true rfl) (Nat.le_of_ble_eq_true rfl) ⟨Nat.le_refl _, Nat.le_refl _⟩ ?_
  refine x_istore dL_margins_32 (by decide) ?_
  show JX _ _ _ _ _ _ _ _ _ _ _ [_, _, _, _, _, _, _, _, _] _ _
  refine x_iload dL_margins_34 rfl ?_
  refine x_aload_n dL_margins_36 rfl ?_
  refine x_iload_n dL_margins_37 rfl ?_
  refine x_iconst dL_margins_38 ?_
  refine c_RL_22d dL_margins_39 rfl (tb_2 hP ht hk) bk (Nat.le_of_ble_eq_true rfl) (Nat.le_of_ble_eq_true rfl) ⟨Nat.le_refl _, Nat.le_refl _⟩ ?_
  refine x_ic_ge (tgt := 58) dL_margins_42 (by decide) ⟨by omega, by omega⟩ ⟨by omega, by omega⟩ (fun h => absurd h (by omega)) (fun hb42 => ?_)
  refine x_iload dL_margins_45 rfl ?_
  refine x_ldc (e := -100000005) dL_margins_47 ct_RL_41 (by decide) ?_
  refine x_ic_ne (tgt := 56) dL_margins_49 (by decide) ⟨by omega, by omega⟩ ⟨by omega, by omega⟩ (fun h => absurd h (by omega)) (fun hb49 => ?_)
  refine x_iconst dL_margins_52 ?_
  refine x_goto (tgt := 57) dL_margins_53 (by decide) ?_
  exact x_ireturn dL_margins_57 rfl (jbool (by first | exact Or.inl rfl | exact Or.inr rfl)).1 ⟨Nat.le_refl _, Nat.le_refl _⟩ ⟨rfl, rfl, rfl⟩
theorem margins_y {G : JG} {S : JS} {D : JD} {d : Nat} {X t n q : Int} {hs : Int → Int → Int} {r : Int → Int} {k c g : Int} (hP : pSt S D X t n hs r q) (ht : t ≤ 60000) (hk : 0 ≤ k ∧ k < r 2) (hc : 0 ≤ c ∧ c < r 1) (hg : g = 0 ∨ g = 1) (hm : ¬ tMost r k c g < sW r k) (he : min (tMost r k c g - sW r k) (r (68 + 8 * k) - r (69 + 8 * k) - r (70 + 8 * k)) = r (68 + 8 * k) - r (69 + 8 * k) - r (70 + 8 * k)) : JM G yL_margins cL_margins 9 (some .boolean) (d + 7) (0, 0) S D [.inr (.inr (some X)), .inl k, .inl c, .inl g] (jr (.inl 1) S D) := by
  have hB := hP.1
  have bk := hB.1
  have hI := hP.2.1.2.2.2.1
  have b1 := hI.1
  obtain ⟨c4, ln0, ln1, lf0, lf1, gt, s0, s1, s2, s3, sg, v0, v1, w0, w1, f0, f1, k0, k1, kk, a0, a1, g0, g1⟩ := hI.cB ht hc
  obtain ⟨bk0, q0, q1, q2, q3, q4, q5, q6, q7, q8, q9, q10, q11, hp, q13, q14, q15, q16, q17, q18⟩ := hI.bB ht hk
  have sgg := sg g hg
  have dd := tMost_deep (c := c) (g := g) hI hk.1 hk.2
  have dv : 1 ≤ (sW r k).tdiv (sDr r k) := by
    rw [tdiv_pos (by omega)]
    have h := sDr_le (r := r) (k := k) (by omega) (by omega)
    exact Int.le_ediv_of_mul_le (by omega) (by omega)
  have dv2 : (sW r k).tdiv (sDr r k) ≤ 1500 := by
    rw [tdiv_pos (by omega)]
    have := Int.ediv_le_self (sDr r k) (show 0 ≤ sW r k by omega)
    omega
  have gd : ¬ sLv r (100 + c) - sHg r c g - r 3 < sDr r k := fun z => hm (dd.mpr z)
  have mm0 : 0 ≤ min (tMost r k c g - sW r k) (r (68 + 8 * k) - r (69 + 8 * k) - r (70 + 8 * k)) ∧ min (tMost r k c g - sW r k) (r (68 + 8 * k) - r (69 + 8 * k) - r (70 + 8 * k)) ≤ r (68 + 8 * k) - r (69 + 8 * k) - r (70 + 8 * k) := by omega
  generalize hMM : min (tMost r k c g - sW r k) (r (68 + 8 * k) - r (69 + 8 * k) - r (70 + 8 * k)) = MM at *
  show JX _ _ _ _ _ _ _ _ _ _ _ [_, _, _, _, _, _, _, _, _] _ _
  refine x_aload_n dL_margins_0 rfl ?_
  refine x_iload_n dL_margins_1 rfl ?_
  refine x_iconst dL_margins_2 ?_
  refine c_RL_15d dL_margins_3 rfl (tc_0 hP ht hc) bk (Nat.le_of_ble_eq_true rfl) (Nat.le_of_ble_eq_true rfl) ⟨Nat.le_refl _, Nat.le_refl _⟩ ?_
  refine x_aload_n dL_margins_6 rfl ?_
  refine x_iload_n dL_margins_7 rfl ?_
  refine x_bipush dL_margins_8 (by decide) ?_
  refine x_iload_n dL_margins_10 rfl ?_
  refine x_iadd dL_margins_11 ?_
  refine c_RL_15d dL_margins_12 rfl (tc_s hP ht hc hg) bk (Nat.le_of_ble_eq_true rfl) (Nat.le_of_ble_eq_true rfl) ⟨Nat.le_refl _, Nat.le_refl _⟩ ?_
  refine x_isub dL_margins_15 ?_
  refine x_aload_n dL_margins_16 rfl ?_
  refine x_bipush dL_margins_17 (by decide) ?_
  refine c_RL_18d dL_margins_19 rfl (tn_6 hP ht) bk (Nat.le_of_ble_eq_true rfl) (Nat.le_of_ble_eq_true rfl) ⟨Nat.le_refl _, Nat.le_refl _⟩ ?_
  refine x_isub dL_margins_22 ?_
  refine x_istore dL_margins_23 (by decide) ?_
  show JX _ _ _ _ _ _ _ _ _ _ _ [_, _, _, _, _, _, _, _, _] _ _
  refine x_aload_n dL_margins_25 rfl ?_
  refine x_iload_n dL_margins_26 rfl ?_
  refine x_iload_n dL_margins_27 rfl ?_
  refine x_iload_n dL_margins_28 rfl ?_
  refine c_RL_52d dL_margins_29 rfl (tm_y hP ht hk hc hg hm) bk (Nat.le_of_ble_eq_true rfl) (Nat.le_of_ble_eq_true rfl) ⟨Nat.le_refl _, Nat.le_refl _⟩ ?_
  rw [hMM]
  refine x_istore dL_margins_32 (by decide) ?_
  show JX _ _ _ _ _ _ _ _ _ _ _ [_, _, _, _, _, _, _, _, _] _ _
  refine x_iload dL_margins_34 rfl ?_
  refine x_aload_n dL_margins_36 rfl ?_
  refine x_iload_n dL_margins_37 rfl ?_
  refine x_iconst dL_margins_38 ?_
  refine c_RL_22d dL_margins_39 rfl (tb_2 hP ht hk) bk (Nat.le_of_ble_eq_true rfl) (Nat.le_of_ble_eq_true rfl) ⟨Nat.le_refl _, Nat.le_refl _⟩ ?_
  refine x_ic_ge (tgt := 58) dL_margins_42 (by decide) ⟨by omega, by omega⟩ ⟨by omega, by omega⟩ (fun hb42 => ?_) (fun h => (h (by omega)).elim)
  refine x_aload_n dL_margins_58 rfl ?_
  refine x_iload_n dL_margins_59 rfl ?_
  refine x_iconst dL_margins_60 ?_
  refine c_RL_22d dL_margins_61 rfl (tb_1 hP ht hk) bk (Nat.le_of_ble_eq_true rfl) (Nat.le_of_ble_eq_true rfl) ⟨Nat.le_refl _, Nat.le_refl _⟩ ?_
  refine x_istore dL_margins_64 (by decide) ?_
  show JX _ _ _ _ _ _ _ _ _ _ _ [_, _, _, _, _, _, _, _, _] _ _
  refine x_iload dL_margins_66 rfl ?_
  refine x_aload_n dL_margins_68 rfl ?_
  refine x_iload_n dL_margins_69 rfl ?_
  refine x_iconst dL_margins_70 ?_
  refine c_RL_22d dL_margins_71 rfl (tb_5 hP ht hk) bk (Nat.le_of_ble_eq_true rfl) (Nat.le_of_ble_eq_true rfl) ⟨Nat.le_refl _, Nat.le_refl _⟩ ?_
  refine x_ic_ne (tgt := 81) dL_margins_74 (by decide) ⟨by omega, by omega⟩ ⟨by omega, by omega⟩ (fun h => absurd h (by omega)) (fun hb74 => ?_)
  refine x_iconst dL_margins_77 ?_
  refine x_goto (tgt := 82) dL_margins_78 (by decide) ?_
  refine x_istore dL_margins_82 (by decide) ?_
  show JX _ _ _ _ _ _ _ _ _ _ _ [_, _, _, _, _, _, _, _, _] _ _
  refine x_iload dL_margins_84 rfl ?_
  refine x_aload_n dL_margins_86 rfl ?_
  refine x_iload_n dL_margins_87 rfl ?_
  refine x_iconst dL_margins_88 ?_
  refine c_RL_22d dL_margins_89 rfl (tb_2 hP ht hk) bk (Nat.le_of_ble_eq_true rfl) (Nat.le_of_ble_eq_true rfl) ⟨Nat.le_refl _, Nat.le_refl _⟩ ?_
  refine x_idiv dL_margins_92 ⟨by omega, by omega⟩ ⟨by omega, by omega⟩ (by omega) ?_
  refine x_istore dL_margins_93 (by decide) ?_
  show JX _ _ _ _ _ _ _ _ _ _ _ [_, _, _, _, _, _, _, _, _] _ _
  refine x_iload dL_margins_95 rfl ?_
  refine x_if_lt (tgt := 125) dL_margins_97 (by decide) ⟨by omega, by omega⟩ (fun h => absurd h (by omega)) (fun hb97 => ?_)
  refine x_iload dL_margins_100 rfl ?_
  refine x_aload_n dL_margins_102 rfl ?_
  refine x_iload_n dL_margins_103 rfl ?_
  refine x_iconst dL_margins_104 ?_
  refine c_RL_22d dL_margins_105 rfl (tb_5 hP ht hk) bk (Nat.le_of_ble_eq_true rfl) (Nat.le_of_ble_eq_true rfl) ⟨Nat.le_refl _, Nat.le_refl _⟩ ?_
  refine x_ic_gt (tgt := 125) dL_margins_108 (by decide) ⟨by omega, by omega⟩ ⟨by omega, by omega⟩ (fun h => absurd h (by omega)) (fun hb108 => ?_)
  refine x_iload dL_margins_111 rfl ?_
  refine x_if_ne (tgt := 121) dL_margins_113 (by decide) ⟨by omega, by omega⟩ (fun hb113 => ?_) (fun h => (h (by omega)).elim)
  refine x_iconst dL_margins_121 ?_
  refine x_goto (tgt := 126) dL_margins_122 (by decide) ?_
  exact x_ireturn dL_margins_126 rfl (jbool (by first | exact Or.inl rfl | exact Or.inr rfl)).1 ⟨Nat.le_refl _, Nat.le_refl _⟩ ⟨rfl, rfl, rfl⟩
theorem margins_z {G : JG} {S : JS} {D : JD} {d : Nat} {X t n q : Int} {hs : Int → Int → Int} {r : Int → Int} {k c g : Int} (hP : pSt S D X t n hs r q) (ht : t ≤ 60000) (hk : 0 ≤ k ∧ k < r 2) (hc : 0 ≤ c ∧ c < r 1) (hg : g = 0 ∨ g = 1) (hm : ¬ tMost r k c g < sW r k) (he : ¬ min (tMost r k c g - sW r k) (r (68 + 8 * k) - r (69 + 8 * k) - r (70 + 8 * k)) = r (68 + 8 * k) - r (69 + 8 * k) - r (70 + 8 * k)) : JM G yL_margins cL_margins 9 (some .boolean) (d + 7) (0, 0) S D [.inr (.inr (some X)), .inl k, .inl c, .inl g] (jr (.inl 1) S D) := by
  have hB := hP.1
  have bk := hB.1
  have hI := hP.2.1.2.2.2.1
  have b1 := hI.1
  obtain ⟨c4, ln0, ln1, lf0, lf1, gt, s0, s1, s2, s3, sg, v0, v1, w0, w1, f0, f1, k0, k1, kk, a0, a1, g0, g1⟩ := hI.cB ht hc
  obtain ⟨bk0, q0, q1, q2, q3, q4, q5, q6, q7, q8, q9, q10, q11, hp, q13, q14, q15, q16, q17, q18⟩ := hI.bB ht hk
  have sgg := sg g hg
  have dd := tMost_deep (c := c) (g := g) hI hk.1 hk.2
  have dv : 1 ≤ (sW r k).tdiv (sDr r k) := by
    rw [tdiv_pos (by omega)]
    have h := sDr_le (r := r) (k := k) (by omega) (by omega)
    exact Int.le_ediv_of_mul_le (by omega) (by omega)
  have dv2 : (sW r k).tdiv (sDr r k) ≤ 1500 := by
    rw [tdiv_pos (by omega)]
    have := Int.ediv_le_self (sDr r k) (show 0 ≤ sW r k by omega)
    omega
  have gd : ¬ sLv r (100 + c) - sHg r c g - r 3 < sDr r k := fun z => hm (dd.mpr z)
  have mm0 : 0 ≤ min (tMost r k c g - sW r k) (r (68 + 8 * k) - r (69 + 8 * k) - r (70 + 8 * k)) ∧ min (tMost r k c g - sW r k) (r (68 + 8 * k) - r (69 + 8 * k) - r (70 + 8 * k)) ≤ r (68 + 8 * k) - r (69 + 8 * k) - r (70 + 8 * k) := by omega
  generalize hMM : min (tMost r k c g - sW r k) (r (68 + 8 * k) - r (69 + 8 * k) - r (70 + 8 * k)) = MM at *
  show JX _ _ _ _ _ _ _ _ _ _ _ [_, _, _, _, _, _, _, _, _] _ _
  refine x_aload_n dL_margins_0 rfl ?_
  refine x_iload_n dL_margins_1 rfl ?_
  refine x_iconst dL_margins_2 ?_
  refine c_RL_15d dL_margins_3 rfl (tc_0 hP ht hc) bk (Nat.le_of_ble_eq_true rfl) (Nat.le_of_ble_eq_true rfl) ⟨Nat.le_refl _, Nat.le_refl _⟩ ?_
  refine x_aload_n dL_margins_6 rfl ?_
  refine x_iload_n dL_margins_7 rfl ?_
  refine x_bipush dL_margins_8 (by decide) ?_
  refine x_iload_n dL_margins_10 rfl ?_
  refine x_iadd dL_margins_11 ?_
  refine c_RL_15d dL_margins_12 rfl (tc_s hP ht hc hg) bk (Nat.le_of_ble_eq_true rfl) (Nat.le_of_ble_eq_true rfl) ⟨Nat.le_refl _, Nat.le_refl _⟩ ?_
  refine x_isub dL_margins_15 ?_
  refine x_aload_n dL_margins_16 rfl ?_
  refine x_bipush dL_margins_17 (by decide) ?_
  refine c_RL_18d dL_margins_19 rfl (tn_6 hP ht) bk (Nat.le_of_ble_eq_true rfl) (Nat.le_of_ble_eq_true rfl) ⟨Nat.le_refl _, Nat.le_refl _⟩ ?_
  refine x_isub dL_margins_22 ?_
  refine x_istore dL_margins_23 (by decide) ?_
  show JX _ _ _ _ _ _ _ _ _ _ _ [_, _, _, _, _, _, _, _, _] _ _
  refine x_aload_n dL_margins_25 rfl ?_
  refine x_iload_n dL_margins_26 rfl ?_
  refine x_iload_n dL_margins_27 rfl ?_
  refine x_iload_n dL_margins_28 rfl ?_
  refine c_RL_52d dL_margins_29 rfl (tm_y hP ht hk hc hg hm) bk (Nat.le_of_ble_eq_true rfl) (Nat.le_of_ble_eq_true rfl) ⟨Nat.le_refl _, Nat.le_refl _⟩ ?_
  rw [hMM]
  refine x_istore dL_margins_32 (by decide) ?_
  show JX _ _ _ _ _ _ _ _ _ _ _ [_, _, _, _, _, _, _, _, _] _ _
  refine x_iload dL_margins_34 rfl ?_
  refine x_aload_n dL_margins_36 rfl ?_
  refine x_iload_n dL_margins_37 rfl ?_
  refine x_iconst dL_margins_38 ?_
  refine c_RL_22d dL_margins_39 rfl (tb_2 hP ht hk) bk (Nat.le_of_ble_eq_true rfl) (Nat.le_of_ble_eq_true rfl) ⟨Nat.le_refl _, Nat.le_refl _⟩ ?_
  refine x_ic_ge (tgt := 58) dL_margins_42 (by decide) ⟨by omega, by omega⟩ ⟨by omega, by omega⟩ (fun hb42 => ?_) (fun h => (h (by omega)).elim)
  refine x_aload_n dL_margins_58 rfl ?_
  refine x_iload_n dL_margins_59 rfl ?_
  refine x_iconst dL_margins_60 ?_
  refine c_RL_22d dL_margins_61 rfl (tb_1 hP ht hk) bk (Nat.le_of_ble_eq_true rfl) (Nat.le_of_ble_eq_true rfl) ⟨Nat.le_refl _, Nat.le_refl _⟩ ?_
  refine x_istore dL_margins_64 (by decide) ?_
  show JX _ _ _ _ _ _ _ _ _ _ _ [_, _, _, _, _, _, _, _, _] _ _
  refine x_iload dL_margins_66 rfl ?_
  refine x_aload_n dL_margins_68 rfl ?_
  refine x_iload_n dL_margins_69 rfl ?_
  refine x_iconst dL_margins_70 ?_
  refine c_RL_22d dL_margins_71 rfl (tb_5 hP ht hk) bk (Nat.le_of_ble_eq_true rfl) (Nat.le_of_ble_eq_true rfl) ⟨Nat.le_refl _, Nat.le_refl _⟩ ?_
  refine x_ic_ne (tgt := 81) dL_margins_74 (by decide) ⟨by omega, by omega⟩ ⟨by omega, by omega⟩ (fun hb74 => ?_) (fun h => (h (by omega)).elim)
  refine x_iconst dL_margins_81 ?_
  refine x_istore dL_margins_82 (by decide) ?_
  show JX _ _ _ _ _ _ _ _ _ _ _ [_, _, _, _, _, _, _, _, _] _ _
  refine x_iload dL_margins_84 rfl ?_
  refine x_aload_n dL_margins_86 rfl ?_
  refine x_iload_n dL_margins_87 rfl ?_
  refine x_iconst dL_margins_88 ?_
  refine c_RL_22d dL_margins_89 rfl (tb_2 hP ht hk) bk (Nat.le_of_ble_eq_true rfl) (Nat.le_of_ble_eq_true rfl) ⟨Nat.le_refl _, Nat.le_refl _⟩ ?_
  refine x_idiv dL_margins_92 ⟨by omega, by omega⟩ ⟨by omega, by omega⟩ (by omega) ?_
  refine x_istore dL_margins_93 (by decide) ?_
  show JX _ _ _ _ _ _ _ _ _ _ _ [_, _, _, _, _, _, _, _, _] _ _
  refine x_iload dL_margins_95 rfl ?_
  refine x_if_lt (tgt := 125) dL_margins_97 (by decide) ⟨by omega, by omega⟩ (fun h => absurd h (by omega)) (fun hb97 => ?_)
  refine x_iload dL_margins_100 rfl ?_
  refine x_aload_n dL_margins_102 rfl ?_
  refine x_iload_n dL_margins_103 rfl ?_
  refine x_iconst dL_margins_104 ?_
  refine c_RL_22d dL_margins_105 rfl (tb_5 hP ht hk) bk (Nat.le_of_ble_eq_true rfl) (Nat.le_of_ble_eq_true rfl) ⟨Nat.le_refl _, Nat.le_refl _⟩ ?_
  refine x_ic_gt (tgt := 125) dL_margins_108 (by decide) ⟨by omega, by omega⟩ ⟨by omega, by omega⟩ (fun h => absurd h (by omega)) (fun hb108 => ?_)
  refine x_iload dL_margins_111 rfl ?_
  refine x_if_ne (tgt := 121) dL_margins_113 (by decide) ⟨by omega, by omega⟩ (fun h => absurd h (by omega)) (fun hb113 => ?_)
  refine x_iload dL_margins_116 rfl ?_
  refine x_if_le (tgt := 125) dL_margins_118 (by decide) ⟨by omega, by omega⟩ (fun h => absurd h (by omega)) (fun hb118 => ?_)
  refine x_iconst dL_margins_121 ?_
  refine x_goto (tgt := 126) dL_margins_122 (by decide) ?_
  exact x_ireturn dL_margins_126 rfl (jbool (by first | exact Or.inl rfl | exact Or.inr rfl)).1 ⟨Nat.le_refl _, Nat.le_refl _⟩ ⟨rfl, rfl, rfl⟩
theorem kL_margins {G : JG} {S : JS} {D : JD} {d : Nat} {X t n q : Int} {hs : Int → Int → Int} {r : Int → Int} {k c g : Int} (hP : pSt S D X t n hs r q) (ht : t ≤ 60000) (hk : 0 ≤ k ∧ k < r 2) (hc : 0 ≤ c ∧ c < r 1) (hg : g = 0 ∨ g = 1) : JM G yL_margins cL_margins 9 (some .boolean) (d + 7) (0, 0) S D [.inr (.inr (some X)), .inl k, .inl c, .inl g] (jr (.inl 1) S D) := by
  by_cases hm : tMost r k c g < sW r k
  · exact margins_n hP ht hk hc hg hm
  · by_cases he : min (tMost r k c g - sW r k) (r (68 + 8 * k) - r (69 + 8 * k) - r (70 + 8 * k)) = r (68 + 8 * k) - r (69 + 8 * k) - r (70 + 8 * k)
    · exact margins_y hP ht hk hc hg hm he
    · exact margins_z hP ht hk hc hg hm he
