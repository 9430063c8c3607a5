/-! THE REFERENCE: sharing -/
theorem kX8_shared {G : JG} {S : JS} {D : JD} {d : Nat} {M t : Int} {r : Int → Int} {c g : Int} (hM : jMo S M) (hr : D (M + 1) = r) (hI : rIn t r) (ht : t ≤ 60000) (c0 : 0 ≤ c) (c1 : c < r 1) (hg : g = 0 ∨ g = 1) : JM G yX8_shared cX8_shared 17 (some .int) (d + 3) (0, 0) S D [.inr (.inr (some M)), .inl c, .inl g] (jr (.inl (sShd r c g)) S D) := by
  have hM0 := hM
  obtain ⟨mk, m0, m1, m2, m4, m5, m8, m12, y1, l1, y2, l2, y3, l3, y4, l4, y5, l5, y6, l6, y7, l7⟩ := id hM
  have hr0 := hr
  have b1 := hI.1
  have hrr := hI.reach c0 c1 hg
  have m := hI.maxw ht
  have m1 := m.2.1 _ hrr.1 hrr.2
  have m2 := m.2.2 _ c0 c1
  have a1 := hI.ar hrr.1 hrr.2
  have a2 := hI.ac c0 c1
  have f1 := hI.floats (100 + c)
  have f2 := hI.floats (c + g)
  obtain ⟨s1, s2, s3, s4, s5, s6⟩ := shRange (a := r (21 + 11 * c)) (b := r (6 + 3 * (c + g))) (f := r (22 + 11 * c)) (g := r (7 + 3 * (c + g))) (m := r (23 + 11 * c)) (n := r (8 + 3 * (c + g))) (p := sFl r (100 + c)) (q := sFl r (c + g)) ⟨by omega, by omega⟩ ⟨by omega, by omega⟩ ⟨by omega, by omega⟩ ⟨by omega, by omega⟩ ⟨by omega, by omega⟩ ⟨by omega, by omega⟩ ⟨by omega, by omega⟩ ⟨by omega, by omega⟩
  show JX _ _ _ _ _ _ _ _ _ _ _ [_, _, _, _, _, _, _, _, _, _, _, _, _, _, _, _, _] _ _
  refine x_bipush dX8_shared_0 (by decide) ?_
  refine x_iload_n dX8_shared_2 rfl ?_
  refine x_iadd dX8_shared_3 ?_
  refine c_RX8_68d dX8_shared_4 rfl (kX8_waterAt ⟨by omega, by omega⟩) (Nat.le_of_ble_eq_true rfl) (Nat.le_of_ble_eq_true rfl) ⟨Nat.le_refl _, Nat.le_refl _⟩ ?_
  rw [wA_c c0]
  refine x_istore_n dX8_shared_7 (by decide) ?_
  show JX _ _ _ _ _ _ _ _ _ _ _ [_, _, _, _, _, _, _, _, _, _, _, _, _, _, _, _, _] _ _
  refine x_iload_n dX8_shared_8 rfl ?_
  refine x_iload_n dX8_shared_9 rfl ?_
  refine x_iadd dX8_shared_10 ?_
  refine c_RX8_68d dX8_shared_11 rfl (kX8_waterAt ⟨by omega, by omega⟩) (Nat.le_of_ble_eq_true rfl) (Nat.le_of_ble_eq_true rfl) ⟨Nat.le_refl _, Nat.le_refl _⟩ ?_
  rw [wA_r (by omega)]
  refine x_istore dX8_shared_14 (by decide) ?_
  show JX _ _ _ _ _ _ _ _ _ _ _ [_, _, _, _, _, _, _, _, _, _, _, _, _, _, _, _, _] _ _
  refine x_aload_n dX8_shared_16 rfl ?_
  refine gf_RX8_7 dX8_shared_17 rfl (by assumption) ?_
  rw [m0]
  refine x_iload_n dX8_shared_20 rfl ?_
  refine x_iconst dX8_shared_21 ?_
  refine x_iadd dX8_shared_22 ?_
  refine x_iald dX8_shared_23 (by assumption) ⟨by omega, by omega⟩ ?_
  rw [hr, show 21 + 11 * c + 0 = 21 + 11 * c by omega]
  refine x_i2l dX8_shared_24 ⟨by omega, by omega⟩ ?_
  refine x_lstore dX8_shared_25 (by decide) ?_
  show JX _ _ _ _ _ _ _ _ _ _ _ [_, _, _, _, _, _, _, _, _, _, _, _, _, _, _, _, _] _ _
  refine x_aload_n dX8_shared_27 rfl ?_
  refine gf_RX8_7 dX8_shared_28 rfl (by assumption) ?_
  rw [m0]
  refine x_iload dX8_shared_31 rfl ?_
  refine x_iconst dX8_shared_33 ?_
  refine x_iadd dX8_shared_34 ?_
  refine x_iald dX8_shared_35 (by assumption) ⟨by omega, by omega⟩ ?_
  rw [hr, show 6 + 3 * (c + g) + 0 = 6 + 3 * (c + g) by omega]
  refine x_i2l dX8_shared_36 ⟨by omega, by omega⟩ ?_
  refine x_lstore dX8_shared_37 (by decide) ?_
  show JX _ _ _ _ _ _ _ _ _ _ _ [_, _, _, _, _, _, _, _, _, _, _, _, _, _, _, _, _] _ _
  refine x_aload_n dX8_shared_39 rfl ?_
  refine gf_RX8_7 dX8_shared_40 rfl (by assumption) ?_
  rw [m0]
  refine x_iload_n dX8_shared_43 rfl ?_
  refine x_iconst dX8_shared_44 ?_
  refine x_iadd dX8_shared_45 ?_
  refine x_iald dX8_shared_46 (by assumption) ⟨by omega, by omega⟩ ?_
  rw [hr, show 21 + 11 * c + 2 = 23 + 11 * c by omega]
  refine x_i2l dX8_shared_47 ⟨by omega, by omega⟩ ?_
  refine x_aload_n dX8_shared_48 rfl ?_
  refine gf_RX8_7 dX8_shared_49 rfl (by assumption) ?_
  rw [m0]
  refine x_iload dX8_shared_52 rfl ?_
  refine x_iconst dX8_shared_54 ?_
  refine x_iadd dX8_shared_55 ?_
  refine x_iald dX8_shared_56 (by assumption) ⟨by omega, by omega⟩ ?_
  rw [hr, show 6 + 3 * (c + g) + 2 = 8 + 3 * (c + g) by omega]
  refine x_i2l dX8_shared_57 ⟨by omega, by omega⟩ ?_
  refine x_ladd dX8_shared_58 ?_
  refine x_lstore dX8_shared_59 (by decide) ?_
  show JX _ _ _ _ _ _ _ _ _ _ _ [_, _, _, _, _, _, _, _, _, _, _, _, _, _, _, _, _] _ _
  refine x_lload dX8_shared_61 rfl ?_
  refine x_aload_n dX8_shared_63 rfl ?_
  refine x_bipush dX8_shared_64 (by decide) ?_
  refine x_iload_n dX8_shared_66 rfl ?_
  refine x_iadd dX8_shared_67 ?_
  refine c_RX8_71d dX8_shared_68 rfl (kX8_floats hM0 hr0 hI ⟨by omega, by omega⟩) (by assumption) (Nat.le_of_ble_eq_true rfl) (Nat.le_of_ble_eq_true rfl) ⟨Nat.le_refl _, Nat.le_refl _⟩ ?_
  refine x_i2l dX8_shared_71 ⟨by omega, by omega⟩ ?_
  refine x_ladd dX8_shared_72 ?_
  refine x_aload_n dX8_shared_73 rfl ?_
  refine x_iload_n dX8_shared_74 rfl ?_
  refine x_iload_n dX8_shared_75 rfl ?_
  refine x_iadd dX8_shared_76 ?_
  refine c_RX8_71d dX8_shared_77 rfl (kX8_floats hM0 hr0 hI ⟨by omega, by omega⟩) (by assumption) (Nat.le_of_ble_eq_true rfl) (Nat.le_of_ble_eq_true rfl) ⟨Nat.le_refl _, Nat.le_refl _⟩ ?_
  refine x_i2l dX8_shared_80 ⟨by omega, by omega⟩ ?_
  refine x_ladd dX8_shared_81 ?_
  refine x_lstore dX8_shared_82 (by decide) ?_
  show JX _ _ _ _ _ _ _ _ _ _ _ [_, _, _, _, _, _, _, _, _, _, _, _, _, _, _, _, _] _ _
  refine x_lload dX8_shared_84 rfl ?_
  refine x_ldc2 (e := 100) dX8_shared_86 ctl_RX8_74 (by decide) ?_
  refine x_lmul dX8_shared_89 ?_
  refine x_lload dX8_shared_90 rfl ?_
  refine x_aload_n dX8_shared_92 rfl ?_
  refine gf_RX8_7 dX8_shared_93 rfl (by assumption) ?_
  rw [m0]
  refine x_iload_n dX8_shared_96 rfl ?_
  refine x_iconst dX8_shared_97 ?_
  refine x_iadd dX8_shared_98 ?_
  refine x_iald dX8_shared_99 (by assumption) ⟨by omega, by omega⟩ ?_
  rw [hr, show 21 + 11 * c + 1 = 22 + 11 * c by omega]
  refine x_i2l dX8_shared_100 ⟨by omega, by omega⟩ ?_
  refine x_lmul dX8_shared_101 ?_
  refine x_ladd dX8_shared_102 ?_
  refine x_lload dX8_shared_103 rfl ?_
  refine x_aload_n dX8_shared_105 rfl ?_
  refine gf_RX8_7 dX8_shared_106 rfl (by assumption) ?_
  rw [m0]
  refine x_iload dX8_shared_109 rfl ?_
  refine x_iconst dX8_shared_111 ?_
  refine x_iadd dX8_shared_112 ?_
  refine x_iald dX8_shared_113 (by assumption) ⟨by omega, by omega⟩ ?_
  rw [hr, show 6 + 3 * (c + g) + 1 = 7 + 3 * (c + g) by omega]
  refine x_i2l dX8_shared_114 ⟨by omega, by omega⟩ ?_
  refine x_lmul dX8_shared_115 ?_
  refine x_ladd dX8_shared_116 ?_
  rw [Int.add_assoc (_ * 100)]
  refine x_lload dX8_shared_117 rfl ?_
  refine x_lload dX8_shared_119 rfl ?_
  refine x_ladd dX8_shared_121 ?_
  refine c_RX8_82d dX8_shared_122 rfl (kX8_down s1 s2 s3) (Nat.le_of_ble_eq_true rfl) (Nat.le_of_ble_eq_true rfl) ⟨Nat.le_refl _, Nat.le_refl _⟩ ?_
  refine x_lstore dX8_shared_125 (by decide) ?_
  show JX _ _ _ _ _ _ _ _ _ _ _ [_, _, _, _, _, _, _, _, _, _, _, _, _, _, _, _, _] _ _
  refine x_lload dX8_shared_127 rfl ?_
  refine x_lload dX8_shared_129 rfl ?_
  refine x_aload_n dX8_shared_131 rfl ?_
  refine gf_RX8_7 dX8_shared_132 rfl (by assumption) ?_
  rw [m0]
  refine x_iload_n dX8_shared_135 rfl ?_
  refine x_iconst dX8_shared_136 ?_
  refine x_iadd dX8_shared_137 ?_
  refine x_iald dX8_shared_138 (by assumption) ⟨by omega, by omega⟩ ?_
  rw [hr, show 21 + 11 * c + 1 = 22 + 11 * c by omega]
  refine x_i2l dX8_shared_139 ⟨by omega, by omega⟩ ?_
  refine x_lsub dX8_shared_140 ?_
  refine x_lmul dX8_shared_141 ?_
  refine x_ldc2 (e := 100) dX8_shared_142 ctl_RX8_74 (by decide) ?_
  refine c_RX8_82d dX8_shared_145 rfl (kX8_down s4 ⟨by omega, by omega⟩ (by omega)) (Nat.le_of_ble_eq_true rfl) (Nat.le_of_ble_eq_true rfl) ⟨Nat.le_refl _, Nat.le_refl _⟩ ?_
  refine x_aload_n dX8_shared_148 rfl ?_
  refine x_bipush dX8_shared_149 (by decide) ?_
  refine x_iload_n dX8_shared_151 rfl ?_
  refine x_iadd dX8_shared_152 ?_
  refine c_RX8_71d dX8_shared_153 rfl (kX8_floats hM0 hr0 hI ⟨by omega, by omega⟩) (by assumption) (Nat.le_of_ble_eq_true rfl) (Nat.le_of_ble_eq_true rfl) ⟨Nat.le_refl _, Nat.le_refl _⟩ ?_
  refine x_i2l dX8_shared_156 ⟨by omega, by omega⟩ ?_
  refine x_lsub dX8_shared_157 ?_
  refine x_lstore dX8_shared_158 (by decide) ?_
  show JX _ _ _ _ _ _ _ _ _ _ _ [_, _, _, _, _, _, _, _, _, _, _, _, _, _, _, _, _] _ _
  refine x_lload dX8_shared_160 rfl ?_
  refine x_lconst (e := 0) dX8_shared_162 (by decide) ?_
  refine x_lc_ge (tgt := 171) dX8_shared_163 dX8_shared_164 (by decide) s5 ⟨by omega, by omega⟩ (fun hb164 => ?_) (fun hb164 => ?_)
  · refine x_lload dX8_shared_171 rfl ?_
    refine x_lload dX8_shared_173 rfl ?_
    refine x_lc_le (tgt := 184) dX8_shared_175 dX8_shared_176 (by decide) s5 s6 (fun hb176 => ?_) (fun hb176 => ?_)
    · refine x_lload dX8_shared_184 rfl ?_
      refine x_l2i dX8_shared_186 ?_
      exact x_ireturn dX8_shared_187 rfl rfl ⟨Nat.le_refl _, Nat.le_refl _⟩ ⟨by unfold sShd sHt; congr; omega, rfl, rfl⟩
    · refine x_lload dX8_shared_179 rfl ?_
      refine x_goto (tgt := 186) dX8_shared_181 (by decide) ?_
      refine x_l2i dX8_shared_186 ?_
      exact x_ireturn dX8_shared_187 rfl rfl ⟨Nat.le_refl _, Nat.le_refl _⟩ ⟨by unfold sShd sHt; congr; omega, rfl, rfl⟩
  · refine x_lconst (e := 0) dX8_shared_167 (by decide) ?_
    refine x_goto (tgt := 186) dX8_shared_168 (by decide) ?_
    refine x_l2i dX8_shared_186 ?_
    exact x_ireturn dX8_shared_187 rfl rfl ⟨Nat.le_refl _, Nat.le_refl _⟩ ⟨by unfold sShd sHt; congr; omega, rfl, rfl⟩
