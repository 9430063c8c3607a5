/-! THE LAW: orders -/
theorem pDig.cong {f g : Int → Int} {p v k : Int} (h : pDig f p v k) (e : ∀ z : Int, p ≤ z → z < p + k → g z = f z) : pDig g p v k := by
  rcases h with ⟨rfl, h0, h1, a⟩ | ⟨rfl, h0, h1, a, b⟩ | ⟨rfl, h0, h1, a, b, c⟩
  · left
    exact ⟨rfl, h0, h1, by rw [e p (by omega) (by omega)]; exact a⟩
  · right; left
    exact ⟨rfl, h0, h1, by rw [e p (by omega) (by omega)]; exact a, by rw [e (p + 1) (by omega) (by omega)]; exact b⟩
  · right; right
    exact ⟨rfl, h0, h1, by rw [e p (by omega) (by omega)]; exact a, by rw [e (p + 1) (by omega) (by omega)]; exact b, by rw [e (p + 2) (by omega) (by omega)]; exact c⟩
theorem run_load_y {k v : Int} {r : Int → Int} {w : Int} (h : zLoad k v r = (w, some (rLoad k v r), 0)) : (oRun [(5, k, v)] r).1 = 1 ∧ (oRun [(5, k, v)] r).2.1 = sAll (rLoad k v r) := by
  have z : zOrd (5, k, v) r = zLoad k v r := rfl
  have e := oRun_some (o := (5, k, v)) (l := []) (r := r) (r2 := rLoad k v r) (by rw [z, h])
  rw [e]
  exact ⟨rfl, rfl⟩
theorem run_load_n {k v : Int} {r : Int → Int} {w e : Int} (h : zLoad k v r = (w, none, e)) : (oRun [(5, k, v)] r).1 = 0 ∧ (oRun [(5, k, v)] r).2.1 = r := by
  have z : zOrd (5, k, v) r = zLoad k v r := rfl
  have e := oRun_none (o := (5, k, v)) (l := []) (r := r) (by rw [z, h])
  rw [e]
  exact ⟨rfl, rfl⟩
theorem orders_y {G : JG} {S : JS} {D : JD} {d : Nat} {X t n q : Int} {hs : Int → Int → Int} {r : Int → Int} {e : Int} {k v : Int} (hP : pSt S D X t n hs r q) (hE : pIn e r) (t0 : 0 ≤ t) (ht2 : t + 900 ≤ 60000) (hk : 0 ≤ k ∧ k < r 2) (v0 : 1 ≤ v) (v1 : v ≤ 300) (hp : r (71 + 8 * k) < 100) (hw : v ≤ r (68 + 8 * k) - r (69 + 8 * k) - r (70 + 8 * k)) : JM G yL_orders cL_orders 10 (some .boolean) (d + 11) (0, 0) S D [.inr (.inr (some X)), .inl k, .inl v] (jOK S X (t + 700) e (r 1) (r 2)) := by
  have ht : t ≤ 60000 := by omega
  have hB := hP.1
  have bk := hB.1
  have hI := hP.2.1.2.2.2.1
  have b1 := hI.1
  obtain ⟨bk0, q0, q1, q2, q3, q4, q5, q6, q7, q8, q9, q10, q11, bp, q13, q14, q15, q16, q17, q18⟩ := hI.bB ht hk
  have hn0 : 0 ≤ n := hP.2.1.2.2.2.2.2.2.2.1
  have hn5 : n ≤ 5 := hP.2.1.2.2.2.2.2.2.2.2.1
  have hz : zLoad k v r = (sDr (rLoad k v r) k, some (rLoad k v r), 0) := by unfold zLoad; rw [if_pos hk, if_pos (by omega), if_neg (by omega), if_pos (by omega)]
  obtain ⟨e11, e12⟩ := run_load_y hz
  obtain ⟨hI3, k1a, k2a, mW, m69a, m70, m68, mD⟩ := load_nums (v := v) hI hk ⟨by omega, by omega⟩
  have hI4 := hI3.all
  have m69 : sAll (sAll (rLoad k v r)) (69 + 8 * k) = r (69 + 8 * k) + v := by rw [hI4.keep (by omega)]; exact m69a
  have k22 : sAll (sAll (rLoad k v r)) 2 = r 2 := by rw [hI4.keep (by omega)]; exact k2a
  have hk2 : 0 ≤ k ∧ k < sAll (sAll (rLoad k v r)) 2 := ⟨hk.1, by omega⟩
  show JX _ _ _ _ _ _ _ _ _ _ _ [_, _, _, _, _, _, _, _, _, _] _ _
  refine x_aload_n dL_orders_0 rfl ?_
  refine c_RL_82p dL_orders_1 rfl (kC hP) bk (Nat.le_of_ble_eq_true rfl) (Nat.le_of_ble_eq_true rfl) ⟨Nat.le_refl _, Nat.le_refl _⟩ (fun w0 D0 y0 => ?_)
  obtain ⟨rfl, hm0, hP0⟩ := y0
  refine x_pop dL_orders_4 ?_
  refine x_aload_n dL_orders_5 rfl ?_
  refine c_RL_86p dL_orders_6 rfl (kRf hP0 (by omega) rfl hm0 txt_0) bk (Nat.le_of_ble_eq_true rfl) (Nat.le_of_ble_eq_true rfl) ⟨Nat.le_refl _, Nat.le_refl _⟩ (fun w1 D1 y1 => ?_)
  obtain ⟨rfl, hP1, hm1, -⟩ := y1
  refine x_bipush dL_orders_9 (by decide) ?_
  refine x_ic_ne (tgt := 18) dL_orders_11 (by decide) ⟨by omega, by omega⟩ ⟨by omega, by omega⟩ (fun h => absurd h (by omega)) (fun hb11 => ?_)
  refine x_iconst dL_orders_14 ?_
  refine x_goto (tgt := 19) dL_orders_15 (by decide) ?_
  refine x_istore_n dL_orders_19 (by decide) ?_
  show JX _ _ _ _ _ _ _ _ _ _ _ [_, _, _, _, _, _, _, _, _, _] _ _
  refine x_aload_n dL_orders_20 rfl ?_
  refine x_bipush dL_orders_21 (by decide) ?_
  refine c_RL_78p dL_orders_23 rfl (kT (m := 0) (m2 := 1) hP1 hm1 (by omega) (by omega) ⟨by omega, by omega⟩ (by omega)) bk (Nat.le_of_ble_eq_true rfl) (Nat.le_of_ble_eq_true rfl) ⟨Nat.le_refl _, Nat.le_refl _⟩ (fun w2 D2 y2 => ?_)
  obtain ⟨rfl, y2⟩ := y2
  have hP2 := hP1.typed y2 (by omega) (by omega)
  have hm2 : D2 (X + 250) 1 = 1 := y2.1
  refine x_pop dL_orders_26 ?_
  refine x_aload_n dL_orders_27 rfl ?_
  refine x_bipush dL_orders_28 (by decide) ?_
  refine c_RL_78p dL_orders_30 rfl (kT (m := 1) (m2 := 2) hP2 hm2 (by omega) (by omega) ⟨by omega, by omega⟩ (by omega)) bk (Nat.le_of_ble_eq_true rfl) (Nat.le_of_ble_eq_true rfl) ⟨Nat.le_refl _, Nat.le_refl _⟩ (fun w3 D3 y3 => ?_)
  obtain ⟨rfl, y3⟩ := y3
  have hP3 := hP2.typed y3 (by omega) (by omega)
  have hm3 : D3 (X + 250) 1 = 2 := y3.1
  refine x_pop dL_orders_33 ?_
  refine x_aload_n dL_orders_34 rfl ?_
  refine x_bipush dL_orders_35 (by decide) ?_
  refine c_RL_78p dL_orders_37 rfl (kT (m := 2) (m2 := 3) hP3 hm3 (by omega) (by omega) ⟨by omega, by omega⟩ (by omega)) bk (Nat.le_of_ble_eq_true rfl) (Nat.le_of_ble_eq_true rfl) ⟨Nat.le_refl _, Nat.le_refl _⟩ (fun w4 D4 y4 => ?_)
  obtain ⟨rfl, y4⟩ := y4
  have hP4 := hP3.typed y4 (by omega) (by omega)
  have hm4 : D4 (X + 250) 1 = 3 := y4.1
  have a0 : D4 (X + 250 + 1) 0 = 108 := (y4.2.2.1 0 (by omega)).trans ((y3.2.2.1 0 (by omega)).trans y2.2.1)
  have a1 : D4 (X + 250 + 1) 1 = 111 := (y4.2.2.1 1 (by omega)).trans y3.2.1
  have a2 : D4 (X + 250 + 1) 2 = 97 := y4.2.1
  refine x_pop dL_orders_40 ?_
  refine x_aload_n dL_orders_41 rfl ?_
  refine c_RL_86p dL_orders_42 rfl (kRf hP4 (by omega) rfl hm4 (txt_3 a0 a1 a2)) bk (Nat.le_of_ble_eq_true rfl) (Nat.le_of_ble_eq_true rfl) ⟨Nat.le_refl _, Nat.le_refl _⟩ (fun w5 D5 y5 => ?_)
  obtain ⟨rfl, hP5, hm5, ht5⟩ := y5
  refine x_bipush dL_orders_45 (by decide) ?_
  refine x_ic_ne (tgt := 54) dL_orders_47 (by decide) ⟨by omega, by omega⟩ ⟨by omega, by omega⟩ (fun h => absurd h (by omega)) (fun hb47 => ?_)
  refine x_iconst dL_orders_50 ?_
  refine x_goto (tgt := 55) dL_orders_51 (by decide) ?_
  refine x_istore dL_orders_55 (by decide) ?_
  show JX _ _ _ _ _ _ _ _ _ _ _ [_, _, _, _, _, _, _, _, _, _] _ _
  refine x_aload_n dL_orders_57 rfl ?_
  refine x_bipush dL_orders_58 (by decide) ?_
  refine c_RL_78p dL_orders_60 rfl (kT (m := 3) (m2 := 4) hP5 hm5 (by omega) (by omega) ⟨by omega, by omega⟩ (by omega)) bk (Nat.le_of_ble_eq_true rfl) (Nat.le_of_ble_eq_true rfl) ⟨Nat.le_refl _, Nat.le_refl _⟩ (fun w6 D6 y6 => ?_)
  obtain ⟨rfl, y6⟩ := y6
  have hP6 := hP5.typed y6 (by omega) (by omega)
  have hm6 : D6 (X + 250) 1 = 4 := y6.1
  have b4 : pLoad (D6 (X + 250 + 1)) := ⟨(y6.2.2.1 0 (by omega)).trans ((ht5 0).trans a0), (y6.2.2.1 1 (by omega)).trans ((ht5 1).trans a1), (y6.2.2.1 2 (by omega)).trans ((ht5 2).trans a2), y6.2.1⟩
  refine x_istore dL_orders_63 (by decide) ?_
  show JX _ _ _ _ _ _ _ _ _ _ _ [_, _, _, _, _, _, _, _, _, _] _ _
  refine x_aload_n dL_orders_65 rfl ?_
  refine c_RL_86p dL_orders_66 rfl (kRf hP6 (by omega) rfl hm6 (txt_4 b4)) bk (Nat.le_of_ble_eq_true rfl) (Nat.le_of_ble_eq_true rfl) ⟨Nat.le_refl _, Nat.le_refl _⟩ (fun w7 D7 y7 => ?_)
  obtain ⟨rfl, hP7, hm7, ht7⟩ := y7
  refine x_bipush dL_orders_69 (by decide) ?_
  refine x_iload dL_orders_71 rfl ?_
  refine x_isub dL_orders_73 ?_
  refine x_ic_ne (tgt := 81) dL_orders_74 (by decide) ⟨by omega, by omega⟩ ⟨by omega, by omega⟩ (fun h => absurd h (by omega)) (fun hb74 => ?_)
  refine x_iconst dL_orders_77 ?_
  refine x_goto (tgt := 82) dL_orders_78 (by decide) ?_
  refine x_istore dL_orders_82 (by decide) ?_
  show JX _ _ _ _ _ _ _ _ _ _ _ [_, _, _, _, _, _, _, _, _, _] _ _
  refine x_aload_n dL_orders_84 rfl ?_
  refine x_iload_n dL_orders_85 rfl ?_
  refine c_RL_89p dL_orders_86 rfl (kL_digits hP7 hm7 (by omega) (by omega) (by omega) (by omega)) (Nat.le_of_ble_eq_true rfl) (Nat.le_of_ble_eq_true rfl) ⟨Nat.le_refl _, Nat.le_refl _⟩ (fun w8 D8 y8 => ?_)
  obtain ⟨k1, rfl, hm8, f84, dg8, lo8, hP8⟩ := y8
  replace hm8 : D8 (X + 250) 1 = 5 + k1 := by omega
  replace dg8 : pDig (D8 (X + 250 + 1)) 5 k k1 := dg8
  have r8 := dg8.range.1
  have c4 : pLoad (D8 (X + 250 + 1)) := ⟨(lo8 0 (by omega)).trans ((ht7 0).trans b4.1), (lo8 1 (by omega)).trans ((ht7 1).trans b4.2.1), (lo8 2 (by omega)).trans ((ht7 2).trans b4.2.2.1), (lo8 3 (by omega)).trans ((ht7 3).trans b4.2.2.2)⟩
  refine x_istore dL_orders_89 (by decide) ?_
  show JX _ _ _ _ _ _ _ _ _ _ _ [_, _, _, _, _, _, _, _, _, _] _ _
  refine x_aload_n dL_orders_91 rfl ?_
  refine c_RL_86p dL_orders_92 rfl (kRf hP8 (by omega) rfl hm8 (txt_b c4 f84 dg8 (by omega))) bk (Nat.le_of_ble_eq_true rfl) (Nat.le_of_ble_eq_true rfl) ⟨Nat.le_refl _, Nat.le_refl _⟩ (fun w9 D9 y9 => ?_)
  obtain ⟨rfl, hP9, hm9, ht9⟩ := y9
  refine x_bipush dL_orders_95 (by decide) ?_
  refine x_iload dL_orders_97 rfl ?_
  refine x_isub dL_orders_99 ?_
  refine x_ic_ne (tgt := 107) dL_orders_100 (by decide) ⟨by omega, by omega⟩ ⟨by omega, by omega⟩ (fun h => absurd h (by omega)) (fun hb100 => ?_)
  refine x_iconst dL_orders_103 ?_
  refine x_goto (tgt := 108) dL_orders_104 (by decide) ?_
  refine x_istore dL_orders_108 (by decide) ?_
  show JX _ _ _ _ _ _ _ _ _ _ _ [_, _, _, _, _, _, _, _, _, _] _ _
  refine x_aload_n dL_orders_110 rfl ?_
  refine x_iload_n dL_orders_111 rfl ?_
  refine c_RL_89p dL_orders_112 rfl (kL_digits hP9 hm9 (by omega) (by omega) (by omega) (by omega)) (Nat.le_of_ble_eq_true rfl) (Nat.le_of_ble_eq_true rfl) ⟨Nat.le_refl _, Nat.le_refl _⟩ (fun w10 D10 y10 => ?_)
  obtain ⟨k2, rfl, hm10, f5, dg10, lo10, hP10⟩ := y10
  replace hm10 : D10 (X + 250) 1 = 6 + k1 + k2 := by omega
  rw [show 5 + k1 + 1 = 6 + k1 by omega] at dg10
  have r10 := dg10.range.1
  have ft : ∀ z : Int, z < 5 + k1 → D10 (X + 250 + 1) z = D8 (X + 250 + 1) z := fun z hz => (lo10 z hz).trans (ht9 z)
  have d4 : pLoad (D10 (X + 250 + 1)) := ⟨(ft 0 (by omega)).trans c4.1, (ft 1 (by omega)).trans c4.2.1, (ft 2 (by omega)).trans c4.2.2.1, (ft 3 (by omega)).trans c4.2.2.2⟩
  have d44 : D10 (X + 250 + 1) 4 = 32 := (ft 4 (by omega)).trans f84
  have dd8 : pDig (D10 (X + 250 + 1)) 5 k k1 := dg8.cong (fun z _ hz => ft z hz)
  have d5 : D10 (X + 250 + 1) (5 + k1) = 32 := f5
  refine x_istore dL_orders_115 (by decide) ?_
  show JX _ _ _ _ _ _ _ _ _ _ _ [_, _, _, _, _, _, _, _, _, _] _ _
  refine x_aload_n dL_orders_117 rfl ?_
  refine x_iload_n dL_orders_118 rfl ?_
  refine x_iconst dL_orders_119 ?_
  refine c_RL_22d dL_orders_120 rfl (tb_3 hP10 (by omega) hk) bk (Nat.le_of_ble_eq_true rfl) (Nat.le_of_ble_eq_true rfl) ⟨Nat.le_refl _, Nat.le_refl _⟩ ?_
  refine x_istore dL_orders_123 (by decide) ?_
  show JX _ _ _ _ _ _ _ _ _ _ _ [_, _, _, _, _, _, _, _, _, _] _ _
  refine x_aload_n dL_orders_125 rfl ?_
  refine x_iload_n dL_orders_126 rfl ?_
  refine x_bipush dL_orders_127 (by decide) ?_
  refine c_RL_22d dL_orders_129 rfl (tb_7 hP10 (by omega) hk) bk (Nat.le_of_ble_eq_true rfl) (Nat.le_of_ble_eq_true rfl) ⟨Nat.le_refl _, Nat.le_refl _⟩ ?_
  refine x_bipush dL_orders_132 (by decide) ?_
  refine x_ic_ge (tgt := 151) dL_orders_134 (by decide) ⟨by omega, by omega⟩ ⟨by omega, by omega⟩ (fun h => absurd h (by omega)) (fun hb134 => ?_)
  refine x_iload_n dL_orders_137 rfl ?_
  refine x_aload_n dL_orders_138 rfl ?_
  refine x_iload_n dL_orders_139 rfl ?_
  refine x_iconst dL_orders_140 ?_
  refine c_RL_22d dL_orders_141 rfl (tb_5 hP10 (by omega) hk) bk (Nat.le_of_ble_eq_true rfl) (Nat.le_of_ble_eq_true rfl) ⟨Nat.le_refl _, Nat.le_refl _⟩ ?_
  refine x_ic_gt (tgt := 151) dL_orders_144 (by decide) ⟨by omega, by omega⟩ ⟨by omega, by omega⟩ (fun h => absurd h (by omega)) (fun hb144 => ?_)
  refine x_iconst dL_orders_147 ?_
  refine x_goto (tgt := 152) dL_orders_148 (by decide) ?_
  refine x_istore dL_orders_152 (by decide) ?_
  show JX _ _ _ _ _ _ _ _ _ _ _ [_, _, _, _, _, _, _, _, _, _] _ _
  refine x_iload_n dL_orders_154 rfl ?_
  refine x_if_eq (tgt := 212) dL_orders_155 (by decide) ⟨by omega, by omega⟩ (fun h => absurd h (by omega)) (fun hb155 => ?_)
  refine x_iload dL_orders_158 rfl ?_
  refine x_if_eq (tgt := 212) dL_orders_160 (by decide) ⟨by omega, by omega⟩ (fun h => absurd h (by omega)) (fun hb160 => ?_)
  refine x_iload dL_orders_163 rfl ?_
  refine x_if_eq (tgt := 212) dL_orders_165 (by decide) ⟨by omega, by omega⟩ (fun h => absurd h (by omega)) (fun hb165 => ?_)
  refine x_iload dL_orders_168 rfl ?_
  refine x_if_eq (tgt := 212) dL_orders_170 (by decide) ⟨by omega, by omega⟩ (fun h => absurd h (by omega)) (fun hb170 => ?_)
  refine x_aload_n dL_orders_173 rfl ?_
  refine c_RL_86p dL_orders_174 rfl (kRy hP10 (by omega) rfl hm10 (txt_t d4 d44 dd8 (by omega) d5 dg10 v0)) bk (Nat.le_of_ble_eq_true rfl) (Nat.le_of_ble_eq_true rfl) ⟨Nat.le_refl _, Nat.le_refl _⟩ (fun w11 D11 y11 => ?_)
  obtain ⟨rfl, ⟨q2, hP11⟩, hm11, ht11⟩ := y11
  rw [e12] at hP11
  rw [e11]
  refine x_iload dL_orders_177 rfl ?_
  refine x_if_eq (tgt := 186) dL_orders_179 (by decide) ⟨by omega, by omega⟩ (fun h => absurd h (by omega)) (fun hb179 => ?_)
  refine x_iconst dL_orders_182 ?_
  refine x_goto (tgt := 187) dL_orders_183 (by decide) ?_
  refine x_ic_ne (tgt := 212) dL_orders_187 (by decide) ⟨by omega, by omega⟩ ⟨by omega, by omega⟩ (fun h => absurd h (by omega)) (fun hb187 => ?_)
  refine x_aload_n dL_orders_190 rfl ?_
  refine x_iload_n dL_orders_191 rfl ?_
  refine x_iconst dL_orders_192 ?_
  refine c_RL_22d dL_orders_193 rfl (tb_3 hP11 (by omega) hk2) bk (Nat.le_of_ble_eq_true rfl) (Nat.le_of_ble_eq_true rfl) ⟨Nat.le_refl _, Nat.le_refl _⟩ ?_
  rw [m69]
  refine x_iload dL_orders_196 rfl ?_
  refine x_iload dL_orders_198 rfl ?_
  refine x_if_eq (tgt := 207) dL_orders_200 (by decide) ⟨by omega, by omega⟩ (fun h => absurd h (by omega)) (fun hb200 => ?_)
  refine x_iload_n dL_orders_203 rfl ?_
  refine x_goto (tgt := 208) dL_orders_204 (by decide) ?_
  refine x_iadd dL_orders_208 ?_
  refine x_ic_eq (tgt := 214) dL_orders_209 (by decide) ⟨by omega, by omega⟩ ⟨by omega, by omega⟩ (fun hb209 => ?_) (fun h => (h (by omega)).elim)
  refine x_aload_n dL_orders_214 rfl ?_
  refine x_bipush dL_orders_215 (by decide) ?_
  refine c_RL_78p dL_orders_217 rfl (kT (m := 6 + k1 + k2) (m2 := 6 + k1 + k2 + 1) hP11 hm11 (by omega) (by omega) ⟨by omega, by omega⟩ rfl) bk (Nat.le_of_ble_eq_true rfl) (Nat.le_of_ble_eq_true rfl) ⟨Nat.le_refl _, Nat.le_refl _⟩ (fun w12 D12 y12 => ?_)
  obtain ⟨rfl, y12⟩ := y12
  have hP12 := hP11.typed y12 (by omega) (by omega)
  have hm12 := y12.1
  have gt : ∀ z : Int, z < 6 + k1 + k2 → D12 (X + 250 + 1) z = D10 (X + 250 + 1) z := fun z hz => (y12.2.2.1 z (by omega)).trans (ht11 z)
  have e4 : pLoad (D12 (X + 250 + 1)) := ⟨(gt 0 (by omega)).trans d4.1, (gt 1 (by omega)).trans d4.2.1, (gt 2 (by omega)).trans d4.2.2.1, (gt 3 (by omega)).trans d4.2.2.2⟩
  have e44 : D12 (X + 250 + 1) 4 = 32 := (gt 4 (by omega)).trans d44
  have e8 : pDig (D12 (X + 250 + 1)) 5 k k1 := dd8.cong (fun z _ hz => gt z (by omega))
  have e5 : D12 (X + 250 + 1) (5 + k1) = 32 := (gt _ (by omega)).trans d5
  have e10 : pDig (D12 (X + 250 + 1)) (6 + k1) v k2 := dg10.cong (fun z _ hz => gt z (by omega))
  refine x_istore dL_orders_220 (by decide) ?_
  show JX _ _ _ _ _ _ _ _ _ _ _ [_, _, _, _, _, _, _, _, _, _] _ _
  refine x_aload_n dL_orders_222 rfl ?_
  refine c_RL_86p dL_orders_223 rfl (kRf hP12 (by omega) rfl hm12 (txt_s e4 e44 e8 (by omega) e5 e10 v0 y12.2.1)) bk (Nat.le_of_ble_eq_true rfl) (Nat.le_of_ble_eq_true rfl) ⟨Nat.le_refl _, Nat.le_refl _⟩ (fun w13 D13 y13 => ?_)
  obtain ⟨rfl, hP13, -, -⟩ := y13
  refine x_bipush dL_orders_226 (by decide) ?_
  refine x_iload dL_orders_228 rfl ?_
  refine x_isub dL_orders_230 ?_
  refine x_ic_ne (tgt := 256) dL_orders_231 (by decide) ⟨by omega, by omega⟩ ⟨by omega, by omega⟩ (fun h => absurd h (by omega)) (fun hb231 => ?_)
  refine x_aload_n dL_orders_234 rfl ?_
  refine c_RL_93p dL_orders_235 rfl (kU hP13 hn0 (by omega) rfl) bk (Nat.le_of_ble_eq_true rfl) (Nat.le_of_ble_eq_true rfl) ⟨Nat.le_refl _, Nat.le_refl _⟩ (fun w14 D14 y14 => ?_)
  obtain ⟨rfl, hP14⟩ := y14
  have rl := recH_last (n := n) (hs := hs) (r := r) hn0
  have hP15 := hP14.mono (show _ ≤ t + 700 by omega)
  refine x_if_lt (tgt := 256) dL_orders_238 (by decide) ⟨by omega, by omega⟩ (fun h => absurd h (by omega)) (fun hb238 => ?_)
  refine x_aload_n dL_orders_241 rfl ?_
  refine x_iload_n dL_orders_242 rfl ?_
  refine x_iconst dL_orders_243 ?_
  refine c_RL_22d dL_orders_244 rfl (tb_3 hP14 (by omega) hk) bk (Nat.le_of_ble_eq_true rfl) (Nat.le_of_ble_eq_true rfl) ⟨Nat.le_refl _, Nat.le_refl _⟩ ?_
  refine x_iload dL_orders_247 rfl ?_
  refine x_ic_ne (tgt := 256) dL_orders_249 (by decide) ⟨by omega, by omega⟩ ⟨by omega, by omega⟩ (fun h => absurd h (by omega)) (fun hb249 => ?_)
  refine x_iconst dL_orders_252 ?_
  refine x_goto (tgt := 257) dL_orders_253 (by decide) ?_
  exact x_ireturn dL_orders_257 rfl (jbool (by first | exact Or.inl rfl | exact Or.inr rfl)).1 ⟨Nat.le_refl _, Nat.le_refl _⟩ ⟨rfl, _, rfl, rfl, _, _, _, _, hP15, hE, rfl, rfl⟩
theorem orders_n {G : JG} {S : JS} {D : JD} {d : Nat} {X t n q : Int} {hs : Int → Int → Int} {r : Int → Int} {e : Int} {k v : Int} (hP : pSt S D X t n hs r q) (hE : pIn e r) (t0 : 0 ≤ t) (ht2 : t + 900 ≤ 60000) (hk : 0 ≤ k ∧ k < r 2) (v0 : 1 ≤ v) (v1 : v ≤ 300) (hp : ¬ r (71 + 8 * k) < 100) : JM G yL_orders cL_orders 10 (some .boolean) (d + 11) (0, 0) S D [.inr (.inr (some X)), .inl k, .inl v] (jOK S X (t + 700) e (r 1) (r 2)) := by
  have ht : t ≤ 60000 := by omega
  have hB := hP.1
  have bk := hB.1
  have hI := hP.2.1.2.2.2.1
  have b1 := hI.1
  obtain ⟨bk0, q0, q1, q2, q3, q4, q5, q6, q7, q8, q9, q10, q11, bp, q13, q14, q15, q16, q17, q18⟩ := hI.bB ht hk
  have hn0 : 0 ≤ n := hP.2.1.2.2.2.2.2.2.2.1
  have hn5 : n ≤ 5 := hP.2.1.2.2.2.2.2.2.2.2.1
  have hz : zLoad k v r = (-100000003, none, 4) := by unfold zLoad; rw [if_pos hk, if_pos (by omega), if_pos (by omega)]
  obtain ⟨e11, e12⟩ := run_load_n hz
  have m69 : sAll r (69 + 8 * k) = r (69 + 8 * k) := hI.keep (by omega)
  have k22 : sAll r 2 = r 2 := hI.keep (by omega)
  have hk2 : 0 ≤ k ∧ k < sAll r 2 := ⟨hk.1, by omega⟩
  show JX _ _ _ _ _ _ _ _ _ _ _ [_, _, _, _, _, _, _, _, _, _] _ _
  refine x_aload_n dL_orders_0 rfl ?_
  refine c_RL_82p dL_orders_1 rfl (kC hP) bk (Nat.le_of_ble_eq_true rfl) (Nat.le_of_ble_eq_true rfl) ⟨Nat.le_refl _, Nat.le_refl _⟩ (fun w0 D0 y0 => ?_)
  obtain ⟨rfl, hm0, hP0⟩ := y0
  refine x_pop dL_orders_4 ?_
  refine x_aload_n dL_orders_5 rfl ?_
  refine c_RL_86p dL_orders_6 rfl (kRf hP0 (by omega) rfl hm0 txt_0) bk (Nat.le_of_ble_eq_true rfl) (Nat.le_of_ble_eq_true rfl) ⟨Nat.le_refl _, Nat.le_refl _⟩ (fun w1 D1 y1 => ?_)
  obtain ⟨rfl, hP1, hm1, -⟩ := y1
  refine x_bipush dL_orders_9 (by decide) ?_
  refine x_ic_ne (tgt := 18) dL_orders_11 (by decide) ⟨by omega, by omega⟩ ⟨by omega, by omega⟩ (fun h => absurd h (by omega)) (fun hb11 => ?_)
  refine x_iconst dL_orders_14 ?_
  refine x_goto (tgt := 19) dL_orders_15 (by decide) ?_
  refine x_istore_n dL_orders_19 (by decide) ?_
  show JX _ _ _ _ _ _ _ _ _ _ _ [_, _, _, _, _, _, _, _, _, _] _ _
  refine x_aload_n dL_orders_20 rfl ?_
  refine x_bipush dL_orders_21 (by decide) ?_
  refine c_RL_78p dL_orders_23 rfl (kT (m := 0) (m2 := 1) hP1 hm1 (by omega) (by omega) ⟨by omega, by omega⟩ (by omega)) bk (Nat.le_of_ble_eq_true rfl) (Nat.le_of_ble_eq_true rfl) ⟨Nat.le_refl _, Nat.le_refl _⟩ (fun w2 D2 y2 => ?_)
  obtain ⟨rfl, y2⟩ := y2
  have hP2 := hP1.typed y2 (by omega) (by omega)
  have hm2 : D2 (X + 250) 1 = 1 := y2.1
  refine x_pop dL_orders_26 ?_
  refine x_aload_n dL_orders_27 rfl ?_
  refine x_bipush dL_orders_28 (by decide) ?_
  refine c_RL_78p dL_orders_30 rfl (kT (m := 1) (m2 := 2) hP2 hm2 (by omega) (by omega) ⟨by omega, by omega⟩ (by omega)) bk (Nat.le_of_ble_eq_true rfl) (Nat.le_of_ble_eq_true rfl) ⟨Nat.le_refl _, Nat.le_refl _⟩ (fun w3 D3 y3 => ?_)
  obtain ⟨rfl, y3⟩ := y3
  have hP3 := hP2.typed y3 (by omega) (by omega)
  have hm3 : D3 (X + 250) 1 = 2 := y3.1
  refine x_pop dL_orders_33 ?_
  refine x_aload_n dL_orders_34 rfl ?_
  refine x_bipush dL_orders_35 (by decide) ?_
  refine c_RL_78p dL_orders_37 rfl (kT (m := 2) (m2 := 3) hP3 hm3 (by omega) (by omega) ⟨by omega, by omega⟩ (by omega)) bk (Nat.le_of_ble_eq_true rfl) (Nat.le_of_ble_eq_true rfl) ⟨Nat.le_refl _, Nat.le_refl _⟩ (fun w4 D4 y4 => ?_)
  obtain ⟨rfl, y4⟩ := y4
  have hP4 := hP3.typed y4 (by omega) (by omega)
  have hm4 : D4 (X + 250) 1 = 3 := y4.1
  have a0 : D4 (X + 250 + 1) 0 = 108 := (y4.2.2.1 0 (by omega)).trans ((y3.2.2.1 0 (by omega)).trans y2.2.1)
  have a1 : D4 (X + 250 + 1) 1 = 111 := (y4.2.2.1 1 (by omega)).trans y3.2.1
  have a2 : D4 (X + 250 + 1) 2 = 97 := y4.2.1
  refine x_pop dL_orders_40 ?_
  refine x_aload_n dL_orders_41 rfl ?_
  refine c_RL_86p dL_orders_42 rfl (kRf hP4 (by omega) rfl hm4 (txt_3 a0 a1 a2)) bk (Nat.le_of_ble_eq_true rfl) (Nat.le_of_ble_eq_true rfl) ⟨Nat.le_refl _, Nat.le_refl _⟩ (fun w5 D5 y5 => ?_)
  obtain ⟨rfl, hP5, hm5, ht5⟩ := y5
  refine x_bipush dL_orders_45 (by decide) ?_
  refine x_ic_ne (tgt := 54) dL_orders_47 (by decide) ⟨by omega, by omega⟩ ⟨by omega, by omega⟩ (fun h => absurd h (by omega)) (fun hb47 => ?_)
  refine x_iconst dL_orders_50 ?_
  refine x_goto (tgt := 55) dL_orders_51 (by decide) ?_
  refine x_istore dL_orders_55 (by decide) ?_
  show JX _ _ _ _ _ _ _ _ _ _ _ [_, _, _, _, _, _, _, _, _, _] _ _
  refine x_aload_n dL_orders_57 rfl ?_
  refine x_bipush dL_orders_58 (by decide) ?_
  refine c_RL_78p dL_orders_60 rfl (kT (m := 3) (m2 := 4) hP5 hm5 (by omega) (by omega) ⟨by omega, by omega⟩ (by omega)) bk (Nat.le_of_ble_eq_true rfl) (Nat.le_of_ble_eq_true rfl) ⟨Nat.le_refl _, Nat.le_refl _⟩ (fun w6 D6 y6 => ?_)
  obtain ⟨rfl, y6⟩ := y6
  have hP6 := hP5.typed y6 (by omega) (by omega)
  have hm6 : D6 (X + 250) 1 = 4 := y6.1
  have b4 : pLoad (D6 (X + 250 + 1)) := ⟨(y6.2.2.1 0 (by omega)).trans ((ht5 0).trans a0), (y6.2.2.1 1 (by omega)).trans ((ht5 1).trans a1), (y6.2.2.1 2 (by omega)).trans ((ht5 2).trans a2), y6.2.1⟩
  refine x_istore dL_orders_63 (by decide) ?_
  show JX _ _ _ _ _ _ _ _ _ _ _ [_, _, _, _, _, _, _, _, _, _] _ _
  refine x_aload_n dL_orders_65 rfl ?_
  refine c_RL_86p dL_orders_66 rfl (kRf hP6 (by omega) rfl hm6 (txt_4 b4)) bk (Nat.le_of_ble_eq_true rfl) (Nat.le_of_ble_eq_true rfl) ⟨Nat.le_refl _, Nat.le_refl _⟩ (fun w7 D7 y7 => ?_)
  obtain ⟨rfl, hP7, hm7, ht7⟩ := y7
  refine x_bipush dL_orders_69 (by decide) ?_
  refine x_iload dL_orders_71 rfl ?_
  refine x_isub dL_orders_73 ?_
  refine x_ic_ne (tgt := 81) dL_orders_74 (by decide) ⟨by omega, by omega⟩ ⟨by omega, by omega⟩ (fun h => absurd h (by omega)) (fun hb74 => ?_)
  refine x_iconst dL_orders_77 ?_
  refine x_goto (tgt := 82) dL_orders_78 (by decide) ?_
  refine x_istore dL_orders_82 (by decide) ?_
  show JX _ _ _ _ _ _ _ _ _ _ _ [_, _, _, _, _, _, _, _, _, _] _ _
  refine x_aload_n dL_orders_84 rfl ?_
  refine x_iload_n dL_orders_85 rfl ?_
  refine c_RL_89p dL_orders_86 rfl (kL_digits hP7 hm7 (by omega) (by omega) (by omega) (by omega)) (Nat.le_of_ble_eq_true rfl) (Nat.le_of_ble_eq_true rfl) ⟨Nat.le_refl _, Nat.le_refl _⟩ (fun w8 D8 y8 => ?_)
  obtain ⟨k1, rfl, hm8, f84, dg8, lo8, hP8⟩ := y8
  replace hm8 : D8 (X + 250) 1 = 5 + k1 := by omega
  replace dg8 : pDig (D8 (X + 250 + 1)) 5 k k1 := dg8
  have r8 := dg8.range.1
  have c4 : pLoad (D8 (X + 250 + 1)) := ⟨(lo8 0 (by omega)).trans ((ht7 0).trans b4.1), (lo8 1 (by omega)).trans ((ht7 1).trans b4.2.1), (lo8 2 (by omega)).trans ((ht7 2).trans b4.2.2.1), (lo8 3 (by omega)).trans ((ht7 3).trans b4.2.2.2)⟩
  refine x_istore dL_orders_89 (by decide) ?_
  show JX _ _ _ _ _ _ _ _ _ _ _ [_, _, _, _, _, _, _, _, _, _] _ _
  refine x_aload_n dL_orders_91 rfl ?_
  refine c_RL_86p dL_orders_92 rfl (kRf hP8 (by omega) rfl hm8 (txt_b c4 f84 dg8 (by omega))) bk (Nat.le_of_ble_eq_true rfl) (Nat.le_of_ble_eq_true rfl) ⟨Nat.le_refl _, Nat.le_refl _⟩ (fun w9 D9 y9 => ?_)
  obtain ⟨rfl, hP9, hm9, ht9⟩ := y9
  refine x_bipush dL_orders_95 (by decide) ?_
  refine x_iload dL_orders_97 rfl ?_
  refine x_isub dL_orders_99 ?_
  refine x_ic_ne (tgt := 107) dL_orders_100 (by decide) ⟨by omega, by omega⟩ ⟨by omega, by omega⟩ (fun h => absurd h (by omega)) (fun hb100 => ?_)
  refine x_iconst dL_orders_103 ?_
  refine x_goto (tgt := 108) dL_orders_104 (by decide) ?_
  refine x_istore dL_orders_108 (by decide) ?_
  show JX _ _ _ _ _ _ _ _ _ _ _ [_, _, _, _, _, _, _, _, _, _] _ _
  refine x_aload_n dL_orders_110 rfl ?_
  refine x_iload_n dL_orders_111 rfl ?_
  refine c_RL_89p dL_orders_112 rfl (kL_digits hP9 hm9 (by omega) (by omega) (by omega) (by omega)) (Nat.le_of_ble_eq_true rfl) (Nat.le_of_ble_eq_true rfl) ⟨Nat.le_refl _, Nat.le_refl _⟩ (fun w10 D10 y10 => ?_)
  obtain ⟨k2, rfl, hm10, f5, dg10, lo10, hP10⟩ := y10
  replace hm10 : D10 (X + 250) 1 = 6 + k1 + k2 := by omega
  rw [show 5 + k1 + 1 = 6 + k1 by omega] at dg10
  have r10 := dg10.range.1
  have ft : ∀ z : Int, z < 5 + k1 → D10 (X + 250 + 1) z = D8 (X + 250 + 1) z := fun z hz => (lo10 z hz).trans (ht9 z)
  have d4 : pLoad (D10 (X + 250 + 1)) := ⟨(ft 0 (by omega)).trans c4.1, (ft 1 (by omega)).trans c4.2.1, (ft 2 (by omega)).trans c4.2.2.1, (ft 3 (by omega)).trans c4.2.2.2⟩
  have d44 : D10 (X + 250 + 1) 4 = 32 := (ft 4 (by omega)).trans f84
  have dd8 : pDig (D10 (X + 250 + 1)) 5 k k1 := dg8.cong (fun z _ hz => ft z hz)
  have d5 : D10 (X + 250 + 1) (5 + k1) = 32 := f5
  refine x_istore dL_orders_115 (by decide) ?_
  show JX _ _ _ _ _ _ _ _ _ _ _ [_, _, _, _, _, _, _, _, _, _] _ _
  refine x_aload_n dL_orders_117 rfl ?_
  refine x_iload_n dL_orders_118 rfl ?_
  refine x_iconst dL_orders_119 ?_
  refine c_RL_22d dL_orders_120 rfl (tb_3 hP10 (by omega) hk) bk (Nat.le_of_ble_eq_true rfl) (Nat.le_of_ble_eq_true rfl) ⟨Nat.le_refl _, Nat.le_refl _⟩ ?_
  refine x_istore dL_orders_123 (by decide) ?_
  show JX _ _ _ _ _ _ _ _ _ _ _ [_, _, _, _, _, _, _, _, _, _] _ _
  refine x_aload_n dL_orders_125 rfl ?_
  refine x_iload_n dL_orders_126 rfl ?_
  refine x_bipush dL_orders_127 (by decide) ?_
  refine c_RL_22d dL_orders_129 rfl (tb_7 hP10 (by omega) hk) bk (Nat.le_of_ble_eq_true rfl) (Nat.le_of_ble_eq_true rfl) ⟨Nat.le_refl _, Nat.le_refl _⟩ ?_
  refine x_bipush dL_orders_132 (by decide) ?_
  refine x_ic_ge (tgt := 151) dL_orders_134 (by decide) ⟨by omega, by omega⟩ ⟨by omega, by omega⟩ (fun hb134 => ?_) (fun h => (h (by omega)).elim)
  refine x_iconst dL_orders_151 ?_
  refine x_istore dL_orders_152 (by decide) ?_
  show JX _ _ _ _ _ _ _ _ _ _ _ [_, _, _, _, _, _, _, _, _, _] _ _
  refine x_iload_n dL_orders_154 rfl ?_
  refine x_if_eq (tgt := 212) dL_orders_155 (by decide) ⟨by omega, by omega⟩ (fun h => absurd h (by omega)) (fun hb155 => ?_)
  refine x_iload dL_orders_158 rfl ?_
  refine x_if_eq (tgt := 212) dL_orders_160 (by decide) ⟨by omega, by omega⟩ (fun h => absurd h (by omega)) (fun hb160 => ?_)
  refine x_iload dL_orders_163 rfl ?_
  refine x_if_eq (tgt := 212) dL_orders_165 (by decide) ⟨by omega, by omega⟩ (fun h => absurd h (by omega)) (fun hb165 => ?_)
  refine x_iload dL_orders_168 rfl ?_
  refine x_if_eq (tgt := 212) dL_orders_170 (by decide) ⟨by omega, by omega⟩ (fun h => absurd h (by omega)) (fun hb170 => ?_)
  refine x_aload_n dL_orders_173 rfl ?_
  refine c_RL_86p dL_orders_174 rfl (kRy hP10 (by omega) rfl hm10 (txt_t d4 d44 dd8 (by omega) d5 dg10 v0)) bk (Nat.le_of_ble_eq_true rfl) (Nat.le_of_ble_eq_true rfl) ⟨Nat.le_refl _, Nat.le_refl _⟩ (fun w11 D11 y11 => ?_)
  obtain ⟨rfl, ⟨q2, hP11⟩, hm11, ht11⟩ := y11
  rw [e12] at hP11
  rw [e11]
  refine x_iload dL_orders_177 rfl ?_
  refine x_if_eq (tgt := 186) dL_orders_179 (by decide) ⟨by omega, by omega⟩ (fun hb179 => ?_) (fun h => (h (by omega)).elim)
  refine x_iconst dL_orders_186 ?_
  refine x_ic_ne (tgt := 212) dL_orders_187 (by decide) ⟨by omega, by omega⟩ ⟨by omega, by omega⟩ (fun h => absurd h (by omega)) (fun hb187 => ?_)
  refine x_aload_n dL_orders_190 rfl ?_
  refine x_iload_n dL_orders_191 rfl ?_
  refine x_iconst dL_orders_192 ?_
  refine c_RL_22d dL_orders_193 rfl (tb_3 hP11 (by omega) hk2) bk (Nat.le_of_ble_eq_true rfl) (Nat.le_of_ble_eq_true rfl) ⟨Nat.le_refl _, Nat.le_refl _⟩ ?_
  rw [m69]
  refine x_iload dL_orders_196 rfl ?_
  refine x_iload dL_orders_198 rfl ?_
  refine x_if_eq (tgt := 207) dL_orders_200 (by decide) ⟨by omega, by omega⟩ (fun hb200 => ?_) (fun h => (h (by omega)).elim)
  refine x_iconst dL_orders_207 ?_
  refine x_iadd dL_orders_208 ?_
  refine x_ic_eq (tgt := 214) dL_orders_209 (by decide) ⟨by omega, by omega⟩ ⟨by omega, by omega⟩ (fun hb209 => ?_) (fun h => (h (by omega)).elim)
  refine x_aload_n dL_orders_214 rfl ?_
  refine x_bipush dL_orders_215 (by decide) ?_
  refine c_RL_78p dL_orders_217 rfl (kT (m := 6 + k1 + k2) (m2 := 6 + k1 + k2 + 1) hP11 hm11 (by omega) (by omega) ⟨by omega, by omega⟩ rfl) bk (Nat.le_of_ble_eq_true rfl) (Nat.le_of_ble_eq_true rfl) ⟨Nat.le_refl _, Nat.le_refl _⟩ (fun w12 D12 y12 => ?_)
  obtain ⟨rfl, y12⟩ := y12
  have hP12 := hP11.typed y12 (by omega) (by omega)
  have hm12 := y12.1
  have gt : ∀ z : Int, z < 6 + k1 + k2 → D12 (X + 250 + 1) z = D10 (X + 250 + 1) z := fun z hz => (y12.2.2.1 z (by omega)).trans (ht11 z)
  have e4 : pLoad (D12 (X + 250 + 1)) := ⟨(gt 0 (by omega)).trans d4.1, (gt 1 (by omega)).trans d4.2.1, (gt 2 (by omega)).trans d4.2.2.1, (gt 3 (by omega)).trans d4.2.2.2⟩
  have e44 : D12 (X + 250 + 1) 4 = 32 := (gt 4 (by omega)).trans d44
  have e8 : pDig (D12 (X + 250 + 1)) 5 k k1 := dd8.cong (fun z _ hz => gt z (by omega))
  have e5 : D12 (X + 250 + 1) (5 + k1) = 32 := (gt _ (by omega)).trans d5
  have e10 : pDig (D12 (X + 250 + 1)) (6 + k1) v k2 := dg10.cong (fun z _ hz => gt z (by omega))
  refine x_istore dL_orders_220 (by decide) ?_
  show JX _ _ _ _ _ _ _ _ _ _ _ [_, _, _, _, _, _, _, _, _, _] _ _
  refine x_aload_n dL_orders_222 rfl ?_
  refine c_RL_86p dL_orders_223 rfl (kRf hP12 (by omega) rfl hm12 (txt_s e4 e44 e8 (by omega) e5 e10 v0 y12.2.1)) bk (Nat.le_of_ble_eq_true rfl) (Nat.le_of_ble_eq_true rfl) ⟨Nat.le_refl _, Nat.le_refl _⟩ (fun w13 D13 y13 => ?_)
  obtain ⟨rfl, hP13, -, -⟩ := y13
  refine x_bipush dL_orders_226 (by decide) ?_
  refine x_iload dL_orders_228 rfl ?_
  refine x_isub dL_orders_230 ?_
  refine x_ic_ne (tgt := 256) dL_orders_231 (by decide) ⟨by omega, by omega⟩ ⟨by omega, by omega⟩ (fun h => absurd h (by omega)) (fun hb231 => ?_)
  refine x_aload_n dL_orders_234 rfl ?_
  refine c_RL_93p dL_orders_235 rfl (kU hP13 hn0 (by omega) rfl) bk (Nat.le_of_ble_eq_true rfl) (Nat.le_of_ble_eq_true rfl) ⟨Nat.le_refl _, Nat.le_refl _⟩ (fun w14 D14 y14 => ?_)
  obtain ⟨rfl, hP14⟩ := y14
  have rl := recH_last (n := n) (hs := hs) (r := r) hn0
  have hP15 := hP14.mono (show _ ≤ t + 700 by omega)
  refine x_if_lt (tgt := 256) dL_orders_238 (by decide) ⟨by omega, by omega⟩ (fun h => absurd h (by omega)) (fun hb238 => ?_)
  refine x_aload_n dL_orders_241 rfl ?_
  refine x_iload_n dL_orders_242 rfl ?_
  refine x_iconst dL_orders_243 ?_
  refine c_RL_22d dL_orders_244 rfl (tb_3 hP14 (by omega) hk) bk (Nat.le_of_ble_eq_true rfl) (Nat.le_of_ble_eq_true rfl) ⟨Nat.le_refl _, Nat.le_refl _⟩ ?_
  refine x_iload dL_orders_247 rfl ?_
  refine x_ic_ne (tgt := 256) dL_orders_249 (by decide) ⟨by omega, by omega⟩ ⟨by omega, by omega⟩ (fun h => absurd h (by omega)) (fun hb249 => ?_)
  refine x_iconst dL_orders_252 ?_
  refine x_goto (tgt := 257) dL_orders_253 (by decide) ?_
  exact x_ireturn dL_orders_257 rfl (jbool (by first | exact Or.inl rfl | exact Or.inr rfl)).1 ⟨Nat.le_refl _, Nat.le_refl _⟩ ⟨rfl, _, rfl, rfl, _, _, _, _, hP15, hE, rfl, rfl⟩
theorem orders_w {G : JG} {S : JS} {D : JD} {d : Nat} {X t n q : Int} {hs : Int → Int → Int} {r : Int → Int} {e : Int} {k v : Int} (hP : pSt S D X t n hs r q) (hE : pIn e r) (t0 : 0 ≤ t) (ht2 : t + 900 ≤ 60000) (hk : 0 ≤ k ∧ k < r 2) (v0 : 1 ≤ v) (v1 : v ≤ 300) (hp : r (71 + 8 * k) < 100) (hw : ¬ v ≤ r (68 + 8 * k) - r (69 + 8 * k) - r (70 + 8 * k)) : JM G yL_orders cL_orders 10 (some .boolean) (d + 11) (0, 0) S D [.inr (.inr (some X)), .inl k, .inl v] (jOK S X (t + 700) e (r 1) (r 2)) := by
  have ht : t ≤ 60000 := by omega
  have hB := hP.1
  have bk := hB.1
  have hI := hP.2.1.2.2.2.1
  have b1 := hI.1
  obtain ⟨bk0, q0, q1, q2, q3, q4, q5, q6, q7, q8, q9, q10, q11, bp, q13, q14, q15, q16, q17, q18⟩ := hI.bB ht hk
  have hn0 : 0 ≤ n := hP.2.1.2.2.2.2.2.2.2.1
  have hn5 : n ≤ 5 := hP.2.1.2.2.2.2.2.2.2.2.1
  have hz : zLoad k v r = (-100000003, none, 8) := by unfold zLoad; rw [if_pos hk, if_pos (by omega), if_neg (by omega), if_neg (by omega)]
  obtain ⟨e11, e12⟩ := run_load_n hz
  have m69 : sAll r (69 + 8 * k) = r (69 + 8 * k) := hI.keep (by omega)
  have k22 : sAll r 2 = r 2 := hI.keep (by omega)
  have hk2 : 0 ≤ k ∧ k < sAll r 2 := ⟨hk.1, by omega⟩
  show JX _ _ _ _ _ _ _ _ _ _ _ [_, _, _, _, _, _, _, _, _, _] _ _
  refine x_aload_n dL_orders_0 rfl ?_
  refine c_RL_82p dL_orders_1 rfl (kC hP) bk (Nat.le_of_ble_eq_true rfl) (Nat.le_of_ble_eq_true rfl) ⟨Nat.le_refl _, Nat.le_refl _⟩ (fun w0 D0 y0 => ?_)
  obtain ⟨rfl, hm0, hP0⟩ := y0
  refine x_pop dL_orders_4 ?_
  refine x_aload_n dL_orders_5 rfl ?_
  refine c_RL_86p dL_orders_6 rfl (kRf hP0 (by omega) rfl hm0 txt_0) bk (Nat.le_of_ble_eq_true rfl) (Nat.le_of_ble_eq_true rfl) ⟨Nat.le_refl _, Nat.le_refl _⟩ (fun w1 D1 y1 => ?_)
  obtain ⟨rfl, hP1, hm1, -⟩ := y1
  refine x_bipush dL_orders_9 (by decide) ?_
  refine x_ic_ne (tgt := 18) dL_orders_11 (by decide) ⟨by omega, by omega⟩ ⟨by omega, by omega⟩ (fun h => absurd h (by omega)) (fun hb11 => ?_)
  refine x_iconst dL_orders_14 ?_
  refine x_goto (tgt := 19) dL_orders_15 (by decide) ?_
  refine x_istore_n dL_orders_19 (by decide) ?_
  show JX _ _ _ _ _ _ _ _ _ _ _ [_, _, _, _, _, _, _, _, _, _] _ _
  refine x_aload_n dL_orders_20 rfl ?_
  refine x_bipush dL_orders_21 (by decide) ?_
  refine c_RL_78p dL_orders_23 rfl (kT (m := 0) (m2 := 1) hP1 hm1 (by omega) (by omega) ⟨by omega, by omega⟩ (by omega)) bk (Nat.le_of_ble_eq_true rfl) (Nat.le_of_ble_eq_true rfl) ⟨Nat.le_refl _, Nat.le_refl _⟩ (fun w2 D2 y2 => ?_)
  obtain ⟨rfl, y2⟩ := y2
  have hP2 := hP1.typed y2 (by omega) (by omega)
  have hm2 : D2 (X + 250) 1 = 1 := y2.1
  refine x_pop dL_orders_26 ?_
  refine x_aload_n dL_orders_27 rfl ?_
  refine x_bipush dL_orders_28 (by decide) ?_
  refine c_RL_78p dL_orders_30 rfl (kT (m := 1) (m2 := 2) hP2 hm2 (by omega) (by omega) ⟨by omega, by omega⟩ (by omega)) bk (Nat.le_of_ble_eq_true rfl) (Nat.le_of_ble_eq_true rfl) ⟨Nat.le_refl _, Nat.le_refl _⟩ (fun w3 D3 y3 => ?_)
  obtain ⟨rfl, y3⟩ := y3
  have hP3 := hP2.typed y3 (by omega) (by omega)
  have hm3 : D3 (X + 250) 1 = 2 := y3.1
  refine x_pop dL_orders_33 ?_
  refine x_aload_n dL_orders_34 rfl ?_
  refine x_bipush dL_orders_35 (by decide) ?_
  refine c_RL_78p dL_orders_37 rfl (kT (m := 2) (m2 := 3) hP3 hm3 (by omega) (by omega) ⟨by omega, by omega⟩ (by omega)) bk (Nat.le_of_ble_eq_true rfl) (Nat.le_of_ble_eq_true rfl) ⟨Nat.le_refl _, Nat.le_refl _⟩ (fun w4 D4 y4 => ?_)
  obtain ⟨rfl, y4⟩ := y4
  have hP4 := hP3.typed y4 (by omega) (by omega)
  have hm4 : D4 (X + 250) 1 = 3 := y4.1
  have a0 : D4 (X + 250 + 1) 0 = 108 := (y4.2.2.1 0 (by omega)).trans ((y3.2.2.1 0 (by omega)).trans y2.2.1)
  have a1 : D4 (X + 250 + 1) 1 = 111 := (y4.2.2.1 1 (by omega)).trans y3.2.1
  have a2 : D4 (X + 250 + 1) 2 = 97 := y4.2.1
  refine x_pop dL_orders_40 ?_
  refine x_aload_n dL_orders_41 rfl ?_
  refine c_RL_86p dL_orders_42 rfl (kRf hP4 (by omega) rfl hm4 (txt_3 a0 a1 a2)) bk (Nat.le_of_ble_eq_true rfl) (Nat.le_of_ble_eq_true rfl) ⟨Nat.le_refl _, Nat.le_refl _⟩ (fun w5 D5 y5 => ?_)
  obtain ⟨rfl, hP5, hm5, ht5⟩ := y5
  refine x_bipush dL_orders_45 (by decide) ?_
  refine x_ic_ne (tgt := 54) dL_orders_47 (by decide) ⟨by omega, by omega⟩ ⟨by omega, by omega⟩ (fun h => absurd h (by omega)) (fun hb47 => ?_)
  refine x_iconst dL_orders_50 ?_
  refine x_goto (tgt := 55) dL_orders_51 (by decide) ?_
  refine x_istore dL_orders_55 (by decide) ?_
  show JX _ _ _ _ _ _ _ _ _ _ _ [_, _, _, _, _, _, _, _, _, _] _ _
  refine x_aload_n dL_orders_57 rfl ?_
  refine x_bipush dL_orders_58 (by decide) ?_
  refine c_RL_78p dL_orders_60 rfl (kT (m := 3) (m2 := 4) hP5 hm5 (by omega) (by omega) ⟨by omega, by omega⟩ (by omega)) bk (Nat.le_of_ble_eq_true rfl) (Nat.le_of_ble_eq_true rfl) ⟨Nat.le_refl _, Nat.le_refl _⟩ (fun w6 D6 y6 => ?_)
  obtain ⟨rfl, y6⟩ := y6
  have hP6 := hP5.typed y6 (by omega) (by omega)
  have hm6 : D6 (X + 250) 1 = 4 := y6.1
  have b4 : pLoad (D6 (X + 250 + 1)) := ⟨(y6.2.2.1 0 (by omega)).trans ((ht5 0).trans a0), (y6.2.2.1 1 (by omega)).trans ((ht5 1).trans a1), (y6.2.2.1 2 (by omega)).trans ((ht5 2).trans a2), y6.2.1⟩
  refine x_istore dL_orders_63 (by decide) ?_
  show JX _ _ _ _ _ _ _ _ _ _ _ [_, _, _, _, _, _, _, _, _, _] _ _
  refine x_aload_n dL_orders_65 rfl ?_
  refine c_RL_86p dL_orders_66 rfl (kRf hP6 (by omega) rfl hm6 (txt_4 b4)) bk (Nat.le_of_ble_eq_true rfl) (Nat.le_of_ble_eq_true rfl) ⟨Nat.le_refl _, Nat.le_refl _⟩ (fun w7 D7 y7 => ?_)
  obtain ⟨rfl, hP7, hm7, ht7⟩ := y7
  refine x_bipush dL_orders_69 (by decide) ?_
  refine x_iload dL_orders_71 rfl ?_
  refine x_isub dL_orders_73 ?_
  refine x_ic_ne (tgt := 81) dL_orders_74 (by decide) ⟨by omega, by omega⟩ ⟨by omega, by omega⟩ (fun h => absurd h (by omega)) (fun hb74 => ?_)
  refine x_iconst dL_orders_77 ?_
  refine x_goto (tgt := 82) dL_orders_78 (by decide) ?_
  refine x_istore dL_orders_82 (by decide) ?_
  show JX _ _ _ _ _ _ _ _ _ _ _ [_, _, _, _, _, _, _, _, _, _] _ _
  refine x_aload_n dL_orders_84 rfl ?_
  refine x_iload_n dL_orders_85 rfl ?_
  refine c_RL_89p dL_orders_86 rfl (kL_digits hP7 hm7 (by omega) (by omega) (by omega) (by omega)) (Nat.le_of_ble_eq_true rfl) (Nat.le_of_ble_eq_true rfl) ⟨Nat.le_refl _, Nat.le_refl _⟩ (fun w8 D8 y8 => ?_)
  obtain ⟨k1, rfl, hm8, f84, dg8, lo8, hP8⟩ := y8
  replace hm8 : D8 (X + 250) 1 = 5 + k1 := by omega
  replace dg8 : pDig (D8 (X + 250 + 1)) 5 k k1 := dg8
  have r8 := dg8.range.1
  have c4 : pLoad (D8 (X + 250 + 1)) := ⟨(lo8 0 (by omega)).trans ((ht7 0).trans b4.1), (lo8 1 (by omega)).trans ((ht7 1).trans b4.2.1), (lo8 2 (by omega)).trans ((ht7 2).trans b4.2.2.1), (lo8 3 (by omega)).trans ((ht7 3).trans b4.2.2.2)⟩
  refine x_istore dL_orders_89 (by decide) ?_
  show JX _ _ _ _ _ _ _ _ _ _ _ [_, _, _, _, _, _, _, _, _, _] _ _
  refine x_aload_n dL_orders_91 rfl ?_
  refine c_RL_86p dL_orders_92 rfl (kRf hP8 (by omega) rfl hm8 (txt_b c4 f84 dg8 (by omega))) bk (Nat.le_of_ble_eq_true rfl) (Nat.le_of_ble_eq_true rfl) ⟨Nat.le_refl _, Nat.le_refl _⟩ (fun w9 D9 y9 => ?_)
  obtain ⟨rfl, hP9, hm9, ht9⟩ := y9
  refine x_bipush dL_orders_95 (by decide) ?_
  refine x_iload dL_orders_97 rfl ?_
  refine x_isub dL_orders_99 ?_
  refine x_ic_ne (tgt := 107) dL_orders_100 (by decide) ⟨by omega, by omega⟩ ⟨by omega, by omega⟩ (fun h => absurd h (by omega)) (fun hb100 => ?_)
  refine x_iconst dL_orders_103 ?_
  refine x_goto (tgt := 108) dL_orders_104 (by decide) ?_
  refine x_istore dL_orders_108 (by decide) ?_
  show JX _ _ _ _ _ _ _ _ _ _ _ [_, _, _, _, _, _, _, _, _, _] _ _
  refine x_aload_n dL_orders_110 rfl ?_
  refine x_iload_n dL_orders_111 rfl ?_
  refine c_RL_89p dL_orders_112 rfl (kL_digits hP9 hm9 (by omega) (by omega) (by omega) (by omega)) (Nat.le_of_ble_eq_true rfl) (Nat.le_of_ble_eq_true rfl) ⟨Nat.le_refl _, Nat.le_refl _⟩ (fun w10 D10 y10 => ?_)
  obtain ⟨k2, rfl, hm10, f5, dg10, lo10, hP10⟩ := y10
  replace hm10 : D10 (X + 250) 1 = 6 + k1 + k2 := by omega
  rw [show 5 + k1 + 1 = 6 + k1 by omega] at dg10
  have r10 := dg10.range.1
  have ft : ∀ z : Int, z < 5 + k1 → D10 (X + 250 + 1) z = D8 (X + 250 + 1) z := fun z hz => (lo10 z hz).trans (ht9 z)
  have d4 : pLoad (D10 (X + 250 + 1)) := ⟨(ft 0 (by omega)).trans c4.1, (ft 1 (by omega)).trans c4.2.1, (ft 2 (by omega)).trans c4.2.2.1, (ft 3 (by omega)).trans c4.2.2.2⟩
  have d44 : D10 (X + 250 + 1) 4 = 32 := (ft 4 (by omega)).trans f84
  have dd8 : pDig (D10 (X + 250 + 1)) 5 k k1 := dg8.cong (fun z _ hz => ft z hz)
  have d5 : D10 (X + 250 + 1) (5 + k1) = 32 := f5
  refine x_istore dL_orders_115 (by decide) ?_
  show JX _ _ _ _ _ _ _ _ _ _ _ [_, _, _, _, _, _, _, _, _, _] _ _
  refine x_aload_n dL_orders_117 rfl ?_
  refine x_iload_n dL_orders_118 rfl ?_
  refine x_iconst dL_orders_119 ?_
  refine c_RL_22d dL_orders_120 rfl (tb_3 hP10 (by omega) hk) bk (Nat.le_of_ble_eq_true rfl) (Nat.le_of_ble_eq_true rfl) ⟨Nat.le_refl _, Nat.le_refl _⟩ ?_
  refine x_istore dL_orders_123 (by decide) ?_
  show JX _ _ _ _ _ _ _ _ _ _ _ [_, _, _, _, _, _, _, _, _, _] _ _
  refine x_aload_n dL_orders_125 rfl ?_
  refine x_iload_n dL_orders_126 rfl ?_
  refine x_bipush dL_orders_127 (by decide) ?_
  refine c_RL_22d dL_orders_129 rfl (tb_7 hP10 (by omega) hk) bk (Nat.le_of_ble_eq_true rfl) (Nat.le_of_ble_eq_true rfl) ⟨Nat.le_refl _, Nat.le_refl _⟩ ?_
  refine x_bipush dL_orders_132 (by decide) ?_
  refine x_ic_ge (tgt := 151) dL_orders_134 (by decide) ⟨by omega, by omega⟩ ⟨by omega, by omega⟩ (fun h => absurd h (by omega)) (fun hb134 => ?_)
  refine x_iload_n dL_orders_137 rfl ?_
  refine x_aload_n dL_orders_138 rfl ?_
  refine x_iload_n dL_orders_139 rfl ?_
  refine x_iconst dL_orders_140 ?_
  refine c_RL_22d dL_orders_141 rfl (tb_5 hP10 (by omega) hk) bk (Nat.le_of_ble_eq_true rfl) (Nat.le_of_ble_eq_true rfl) ⟨Nat.le_refl _, Nat.le_refl _⟩ ?_
  refine x_ic_gt (tgt := 151) dL_orders_144 (by decide) ⟨by omega, by omega⟩ ⟨by omega, by omega⟩ (fun hb144 => ?_) (fun h => (h (by omega)).elim)
  refine x_iconst dL_orders_151 ?_
  refine x_istore dL_orders_152 (by decide) ?_
  show JX _ _ _ _ _ _ _ _ _ _ _ [_, _, _, _, _, _, _, _, _, _] _ _
  refine x_iload_n dL_orders_154 rfl ?_
  refine x_if_eq (tgt := 212) dL_orders_155 (by decide) ⟨by omega, by omega⟩ (fun h => absurd h (by omega)) (fun hb155 => ?_)
  refine x_iload dL_orders_158 rfl ?_
  refine x_if_eq (tgt := 212) dL_orders_160 (by decide) ⟨by omega, by omega⟩ (fun h => absurd h (by omega)) (fun hb160 => ?_)
  refine x_iload dL_orders_163 rfl ?_
  refine x_if_eq (tgt := 212) dL_orders_165 (by decide) ⟨by omega, by omega⟩ (fun h => absurd h (by omega)) (fun hb165 => ?_)
  refine x_iload dL_orders_168 rfl ?_
  refine x_if_eq (tgt := 212) dL_orders_170 (by decide) ⟨by omega, by omega⟩ (fun h => absurd h (by omega)) (fun hb170 => ?_)
  refine x_aload_n dL_orders_173 rfl ?_
  refine c_RL_86p dL_orders_174 rfl (kRy hP10 (by omega) rfl hm10 (txt_t d4 d44 dd8 (by omega) d5 dg10 v0)) bk (Nat.le_of_ble_eq_true rfl) (Nat.le_of_ble_eq_true rfl) ⟨Nat.le_refl _, Nat.le_refl _⟩ (fun w11 D11 y11 => ?_)
  obtain ⟨rfl, ⟨q2, hP11⟩, hm11, ht11⟩ := y11
  rw [e12] at hP11
  rw [e11]
  refine x_iload dL_orders_177 rfl ?_
  refine x_if_eq (tgt := 186) dL_orders_179 (by decide) ⟨by omega, by omega⟩ (fun hb179 => ?_) (fun h => (h (by omega)).elim)
  refine x_iconst dL_orders_186 ?_
  refine x_ic_ne (tgt := 212) dL_orders_187 (by decide) ⟨by omega, by omega⟩ ⟨by omega, by omega⟩ (fun h => absurd h (by omega)) (fun hb187 => ?_)
  refine x_aload_n dL_orders_190 rfl ?_
  refine x_iload_n dL_orders_191 rfl ?_
  refine x_iconst dL_orders_192 ?_
  refine c_RL_22d dL_orders_193 rfl (tb_3 hP11 (by omega) hk2) bk (Nat.le_of_ble_eq_true rfl) (Nat.le_of_ble_eq_true rfl) ⟨Nat.le_refl _, Nat.le_refl _⟩ ?_
  rw [m69]
  refine x_iload dL_orders_196 rfl ?_
  refine x_iload dL_orders_198 rfl ?_
  refine x_if_eq (tgt := 207) dL_orders_200 (by decide) ⟨by omega, by omega⟩ (fun hb200 => ?_) (fun h => (h (by omega)).elim)
  refine x_iconst dL_orders_207 ?_
  refine x_iadd dL_orders_208 ?_
  refine x_ic_eq (tgt := 214) dL_orders_209 (by decide) ⟨by omega, by omega⟩ ⟨by omega, by omega⟩ (fun hb209 => ?_) (fun h => (h (by omega)).elim)
  refine x_aload_n dL_orders_214 rfl ?_
  refine x_bipush dL_orders_215 (by decide) ?_
  refine c_RL_78p dL_orders_217 rfl (kT (m := 6 + k1 + k2) (m2 := 6 + k1 + k2 + 1) hP11 hm11 (by omega) (by omega) ⟨by omega, by omega⟩ rfl) bk (Nat.le_of_ble_eq_true rfl) (Nat.le_of_ble_eq_true rfl) ⟨Nat.le_refl _, Nat.le_refl _⟩ (fun w12 D12 y12 => ?_)
  obtain ⟨rfl, y12⟩ := y12
  have hP12 := hP11.typed y12 (by omega) (by omega)
  have hm12 := y12.1
  have gt : ∀ z : Int, z < 6 + k1 + k2 → D12 (X + 250 + 1) z = D10 (X + 250 + 1) z := fun z hz => (y12.2.2.1 z (by omega)).trans (ht11 z)
  have e4 : pLoad (D12 (X + 250 + 1)) := ⟨(gt 0 (by omega)).trans d4.1, (gt 1 (by omega)).trans d4.2.1, (gt 2 (by omega)).trans d4.2.2.1, (gt 3 (by omega)).trans d4.2.2.2⟩
  have e44 : D12 (X + 250 + 1) 4 = 32 := (gt 4 (by omega)).trans d44
  have e8 : pDig (D12 (X + 250 + 1)) 5 k k1 := dd8.cong (fun z _ hz => gt z (by omega))
  have e5 : D12 (X + 250 + 1) (5 + k1) = 32 := (gt _ (by omega)).trans d5
  have e10 : pDig (D12 (X + 250 + 1)) (6 + k1) v k2 := dg10.cong (fun z _ hz => gt z (by omega))
  refine x_istore dL_orders_220 (by decide) ?_
  show JX _ _ _ _ _ _ _ _ _ _ _ [_, _, _, _, _, _, _, _, _, _] _ _
  refine x_aload_n dL_orders_222 rfl ?_
  refine c_RL_86p dL_orders_223 rfl (kRf hP12 (by omega) rfl hm12 (txt_s e4 e44 e8 (by omega) e5 e10 v0 y12.2.1)) bk (Nat.le_of_ble_eq_true rfl) (Nat.le_of_ble_eq_true rfl) ⟨Nat.le_refl _, Nat.le_refl _⟩ (fun w13 D13 y13 => ?_)
  obtain ⟨rfl, hP13, -, -⟩ := y13
  refine x_bipush dL_orders_226 (by decide) ?_
  refine x_iload dL_orders_228 rfl ?_
  refine x_isub dL_orders_230 ?_
  refine x_ic_ne (tgt := 256) dL_orders_231 (by decide) ⟨by omega, by omega⟩ ⟨by omega, by omega⟩ (fun h => absurd h (by omega)) (fun hb231 => ?_)
  refine x_aload_n dL_orders_234 rfl ?_
  refine c_RL_93p dL_orders_235 rfl (kU hP13 hn0 (by omega) rfl) bk (Nat.le_of_ble_eq_true rfl) (Nat.le_of_ble_eq_true rfl) ⟨Nat.le_refl _, Nat.le_refl _⟩ (fun w14 D14 y14 => ?_)
  obtain ⟨rfl, hP14⟩ := y14
  have rl := recH_last (n := n) (hs := hs) (r := r) hn0
  have hP15 := hP14.mono (show _ ≤ t + 700 by omega)
  refine x_if_lt (tgt := 256) dL_orders_238 (by decide) ⟨by omega, by omega⟩ (fun h => absurd h (by omega)) (fun hb238 => ?_)
  refine x_aload_n dL_orders_241 rfl ?_
  refine x_iload_n dL_orders_242 rfl ?_
  refine x_iconst dL_orders_243 ?_
  refine c_RL_22d dL_orders_244 rfl (tb_3 hP14 (by omega) hk) bk (Nat.le_of_ble_eq_true rfl) (Nat.le_of_ble_eq_true rfl) ⟨Nat.le_refl _, Nat.le_refl _⟩ ?_
  refine x_iload dL_orders_247 rfl ?_
  refine x_ic_ne (tgt := 256) dL_orders_249 (by decide) ⟨by omega, by omega⟩ ⟨by omega, by omega⟩ (fun h => absurd h (by omega)) (fun hb249 => ?_)
  refine x_iconst dL_orders_252 ?_
  refine x_goto (tgt := 257) dL_orders_253 (by decide) ?_
  exact x_ireturn dL_orders_257 rfl (jbool (by first | exact Or.inl rfl | exact Or.inr rfl)).1 ⟨Nat.le_refl _, Nat.le_refl _⟩ ⟨rfl, _, rfl, rfl, _, _, _, _, hP15, hE, rfl, rfl⟩
theorem kL_orders {G : JG} {S : JS} {D : JD} {d : Nat} {X t n q : Int} {hs : Int → Int → Int} {r : Int → Int} {e : Int} {k v : Int} (hP : pSt S D X t n hs r q) (hE : pIn e r) (t0 : 0 ≤ t) (ht2 : t + 900 ≤ 60000) (hk : 0 ≤ k ∧ k < r 2) (v0 : 1 ≤ v) (v1 : v ≤ 300) : JM G yL_orders cL_orders 10 (some .boolean) (d + 11) (0, 0) S D [.inr (.inr (some X)), .inl k, .inl v] (jOK S X (t + 700) e (r 1) (r 2)) := by
  by_cases hp : r (71 + 8 * k) < 100
  · by_cases hw : v ≤ r (68 + 8 * k) - r (69 + 8 * k) - r (70 + 8 * k)
    · exact orders_y hP hE t0 ht2 hk v0 v1 hp hw
    · exact orders_w hP hE t0 ht2 hk v0 v1 hp hw
  · exact orders_n hP hE t0 ht2 hk v0 v1 hp
