/-! THE LAW: errors, in their order -/
theorem kL_errors {G : JG} {S : JS} {D : JD} {d : Nat} {X t n q : Int} {hs : Int → Int → Int} {r : Int → Int} {e : Int} (hP : pSt S D X t n hs r q) (hE : pIn e r) (t0 : 0 ≤ t) (ht2 : t + 3000 ≤ 60000) : JM G yL_errors cL_errors 7 (some .boolean) (d + 7) (41, 275) S D [.inr (.inr (some X))] (jrP S (fun w D2 => w = .inl 1)) := by
  have ht : t ≤ 60000 := by omega
  have hB := hP.1
  have bk := hB.1
  have hI := hP.2.1.2.2.2.1
  have b1 := hI.1
  obtain ⟨-, E1, E2, E3, -, -⟩ := hE
  have E0 : r 0 = r 1 + 1 := by omega
  have hz1 : zAddReach 99 0 0 r = (-100000002, none, 0) := by unfold zAddReach; rw [if_neg (fun h => by have := h.1; omega)]
  have hz2 : zAddReach 100 0 0 r = (-100000004, none, 0) := by unfold zAddReach; rw [if_pos ⟨by omega, by omega, by omega, by omega, by omega, by omega⟩, if_pos (by omega)]
  have hz3 : zAddChamber 100 9 0 100 0 0 r = (-100000002, none, 0) := by unfold zAddChamber; rw [if_neg (fun h => by have := h.1.2.1; omega)]
  have hz4 : zAddChamber 100 10 0 100 5001 0 r = (-100000002, none, 0) := by unfold zAddChamber; rw [if_neg (fun h => by have := h.2.2.2.2.1; omega)]
  have hz5 : zSetSill (r 1) 0 0 r = (-100000001, none, 0) := by unfold zSetSill; rw [if_neg (fun h => by have := h.1.2; omega)]
  have hz6 : zSetSill 0 2 0 r = (-100000001, none, 0) := by unfold zSetSill; rw [if_neg (fun h => by have := h.2; omega)]
  have hz7 : zSetSill 0 0 5001 r = (-100000002, none, 0) := by unfold zSetSill; rw [if_pos ⟨⟨by omega, by omega⟩, Or.inl rfl⟩, if_neg (by omega)]
  have hz8 : zSetClearance 51 r = (-100000002, none, 0) := by unfold zSetClearance; rw [if_neg (by omega)]
  have hz9 : zDredge (r 1) 0 r = (-100000001, none, 0) := by unfold zDredge; rw [if_neg (fun h => by have := h.1.2; omega)]
  have hz10 : zSupply (r 0) 0 r = (-100000001, none, 0) := by unfold zSupply; rw [if_neg (by omega)]
  have hz11 : zSupply 0 1000001 r = (-100000002, none, 0) := by unfold zSupply; rw [if_pos ⟨by omega, by omega⟩, if_neg (by omega)]
  have hz12 : zAddBarge (r 0) 5 10 1 10 r = (-100000001, none, 0) := by unfold zAddBarge; rw [if_neg (by omega)]
  have hz13 : zAddBarge 0 61 10 1 10 r = (-100000002, none, 0) := by unfold zAddBarge; rw [if_pos ⟨by omega, by omega⟩, if_neg (by omega)]
  have hz14 : zAddBarge 0 5 10 21 10 r = (-100000002, none, 0) := by unfold zAddBarge; rw [if_pos ⟨by omega, by omega⟩, if_neg (by omega)]
  have hz15 : zLoad (r 2) 1 r = (-100000001, none, 0) := by unfold zLoad; rw [if_neg (by omega)]
  have hz16 : zLoad 0 1001 r = (-100000002, none, 0) := by unfold zLoad; rw [if_pos ⟨by omega, by omega⟩, if_neg (by omega)]
  have hz17 : zPump (r 2) 1 r = (-100000001, none, 0) := by unfold zPump; rw [if_neg (by omega)]
  have hz18 : zPump 0 (-1001) r = (-100000002, none, 0) := by unfold zPump; rw [if_pos ⟨by omega, by omega⟩, if_neg (by omega)]
  have hz19 : zSluice (r 1) 0 r = (-100000001, none, 0) := by unfold zSluice; rw [if_neg (fun h => by have := h.1.2; omega)]
  have hz20 : zOpen 0 2 r = (-100000001, none, 0) := by unfold zOpen; rw [if_neg (fun h => by have := h.2; omega)]
  have hz21 : zClose (r 1) r = (-100000001, none, 0) := by unfold zClose; rw [if_neg (by omega)]
  have hz22 : zEnter (r 2) 0 r = (-100000001, none, 0) := by unfold zEnter; rw [if_neg (fun h => by have := h.1.2; omega)]
  have hz23 : zEnter 0 (r 1) r = (-100000001, none, 0) := by unfold zEnter; rw [if_neg (fun h => by have := h.2.2; omega)]
  have hz24 : zLeave (r 1) 0 r = (-100000001, none, 0) := by unfold zLeave; rw [if_neg (fun h => by have := h.1.2; omega)]
  show JX _ _ _ _ _ _ _ _ _ _ _ [_, _, _, _, _, _, _] _ _
  refine x_ldc (e := -100000001) dL_errors_0 ct_RL_48 (by decide) ?_
  refine x_istore_n dL_errors_2 (by decide) ?_
  show JX _ _ _ _ _ _ _ _ _ _ _ [_, _, _, _, _, _, _] _ _
  refine x_ldc (e := -100000002) dL_errors_3 ct_RL_37 (by decide) ?_
  refine x_istore_n dL_errors_5 (by decide) ?_
  show JX _ _ _ _ _ _ _ _ _ _ _ [_, _, _, _, _, _, _] _ _
  refine x_aload_n dL_errors_6 rfl ?_
  refine x_iconst dL_errors_7 ?_
  refine c_RL_18d dL_errors_8 rfl (tn_0 hP ht) bk (Nat.le_of_ble_eq_true rfl) (Nat.le_of_ble_eq_true rfl) ⟨by decide, by decide⟩ ?_
  refine x_istore_n dL_errors_11 (by decide) ?_
  show JX _ _ _ _ _ _ _ _ _ _ _ [_, _, _, _, _, _, _] _ _
  refine x_aload_n dL_errors_12 rfl ?_
  refine x_iconst dL_errors_13 ?_
  refine c_RL_18d dL_errors_14 rfl (tn_1 hP ht) bk (Nat.le_of_ble_eq_true rfl) (Nat.le_of_ble_eq_true rfl) ⟨by decide, by decide⟩ ?_
  refine x_istore dL_errors_17 (by decide) ?_
  show JX _ _ _ _ _ _ _ _ _ _ _ [_, _, _, _, _, _, _] _ _
  refine x_aload_n dL_errors_19 rfl ?_
  refine x_iconst dL_errors_20 ?_
  refine c_RL_18d dL_errors_21 rfl (tn_2 hP ht) bk (Nat.le_of_ble_eq_true rfl) (Nat.le_of_ble_eq_true rfl) ⟨by decide, by decide⟩ ?_
  refine x_istore dL_errors_24 (by decide) ?_
  show JX _ _ _ _ _ _ _ _ _ _ _ [_, _, _, _, _, _, _] _ _
  refine x_aload_n dL_errors_26 rfl ?_
  refine x_bipush dL_errors_27 (by decide) ?_
  refine x_iconst dL_errors_29 ?_
  refine x_iconst dL_errors_30 ?_
  refine c_RL_96p dL_errors_31 rfl (kX7_addReach hP.1 (Or.inl rfl) hP.2.1 (by omega) ⟨by omega, by omega⟩ ⟨by omega, by omega⟩ ⟨by omega, by omega⟩) bk (Nat.le_of_ble_eq_true rfl) (Nat.le_of_ble_eq_true rfl) ⟨by decide, by decide⟩ (fun w1 D1 h1 => ?_)
  obtain ⟨rfl, hP1⟩ := hP.err hz1 h1
  refine x_iload_n dL_errors_34 rfl ?_
  refine x_ic_ne (tgt := 216) dL_errors_35 (by decide) ⟨by omega, by omega⟩ ⟨by omega, by omega⟩ (fun h => absurd h (by omega)) (fun hb35 => ?_)
  refine x_aload_n dL_errors_38 rfl ?_
  refine x_bipush dL_errors_39 (by decide) ?_
  refine x_iconst dL_errors_41 ?_
  refine x_iconst dL_errors_42 ?_
  refine c_RL_96p dL_errors_43 rfl (kX7_addReach hP1.1 (Or.inl rfl) hP1.2.1 (by omega) ⟨by omega, by omega⟩ ⟨by omega, by omega⟩ ⟨by omega, by omega⟩) bk (Nat.le_of_ble_eq_true rfl) (Nat.le_of_ble_eq_true rfl) ⟨by decide, by decide⟩ (fun w2 D2 h2 => ?_)
  obtain ⟨rfl, hP2⟩ := hP1.err hz2 h2
  refine x_ldc (e := -100000004) dL_errors_46 ct_RL_99 (by decide) ?_
  refine x_ic_ne (tgt := 216) dL_errors_48 (by decide) ⟨by omega, by omega⟩ ⟨by omega, by omega⟩ (fun h => absurd h (by omega)) (fun hb48 => ?_)
  refine x_aload_n dL_errors_51 rfl ?_
  refine x_bipush dL_errors_52 (by decide) ?_
  refine x_bipush dL_errors_54 (by decide) ?_
  refine x_iconst dL_errors_56 ?_
  refine x_bipush dL_errors_57 (by decide) ?_
  refine x_iconst dL_errors_59 ?_
  refine x_iconst dL_errors_60 ?_
  refine c_RL_100p dL_errors_61 rfl (kX7_addChamber hP2.1 (Or.inl rfl) hP2.2.1 (by omega) ⟨by omega, by omega⟩ ⟨by omega, by omega⟩ ⟨by omega, by omega⟩ ⟨by omega, by omega⟩ ⟨by omega, by omega⟩ ⟨by omega, by omega⟩) bk (Nat.le_of_ble_eq_true rfl) (Nat.le_of_ble_eq_true rfl) ⟨by decide, by decide⟩ (fun w3 D3 h3 => ?_)
  obtain ⟨rfl, hP3⟩ := hP2.err hz3 h3
  refine x_iload_n dL_errors_64 rfl ?_
  refine x_ic_ne (tgt := 216) dL_errors_65 (by decide) ⟨by omega, by omega⟩ ⟨by omega, by omega⟩ (fun h => absurd h (by omega)) (fun hb65 => ?_)
  refine x_aload_n dL_errors_68 rfl ?_
  refine x_bipush dL_errors_69 (by decide) ?_
  refine x_bipush dL_errors_71 (by decide) ?_
  refine x_iconst dL_errors_73 ?_
  refine x_bipush dL_errors_74 (by decide) ?_
  refine x_sipush dL_errors_76 (by decide) ?_
  refine x_iconst dL_errors_79 ?_
  refine c_RL_100p dL_errors_80 rfl (kX7_addChamber hP3.1 (Or.inl rfl) hP3.2.1 (by omega) ⟨by omega, by omega⟩ ⟨by omega, by omega⟩ ⟨by omega, by omega⟩ ⟨by omega, by omega⟩ ⟨by omega, by omega⟩ ⟨by omega, by omega⟩) bk (Nat.le_of_ble_eq_true rfl) (Nat.le_of_ble_eq_true rfl) ⟨by decide, by decide⟩ (fun w4 D4 h4 => ?_)
  obtain ⟨rfl, hP4⟩ := hP3.err hz4 h4
  refine x_iload_n dL_errors_83 rfl ?_
  refine x_ic_ne (tgt := 216) dL_errors_84 (by decide) ⟨by omega, by omega⟩ ⟨by omega, by omega⟩ (fun h => absurd h (by omega)) (fun hb84 => ?_)
  refine x_aload_n dL_errors_87 rfl ?_
  refine x_iload dL_errors_88 rfl ?_
  refine x_iconst dL_errors_90 ?_
  refine x_iconst dL_errors_91 ?_
  refine c_RL_104p dL_errors_92 rfl (kX7_setSill hP4.1 (Or.inl rfl) hP4.2.1 (by omega) ⟨by omega, by omega⟩ ⟨by omega, by omega⟩ ⟨by omega, by omega⟩) bk (Nat.le_of_ble_eq_true rfl) (Nat.le_of_ble_eq_true rfl) ⟨by decide, by decide⟩ (fun w5 D5 h5 => ?_)
  obtain ⟨rfl, hP5⟩ := hP4.err hz5 h5
  refine x_iload_n dL_errors_95 rfl ?_
  refine x_ic_ne (tgt := 216) dL_errors_96 (by decide) ⟨by omega, by omega⟩ ⟨by omega, by omega⟩ (fun h => absurd h (by omega)) (fun hb96 => ?_)
  refine x_aload_n dL_errors_99 rfl ?_
  refine x_iconst dL_errors_100 ?_
  refine x_iconst dL_errors_101 ?_
  refine x_iconst dL_errors_102 ?_
  refine c_RL_104p dL_errors_103 rfl (kX7_setSill hP5.1 (Or.inl rfl) hP5.2.1 (by omega) ⟨by omega, by omega⟩ ⟨by omega, by omega⟩ ⟨by omega, by omega⟩) bk (Nat.le_of_ble_eq_true rfl) (Nat.le_of_ble_eq_true rfl) ⟨by decide, by decide⟩ (fun w6 D6 h6 => ?_)
  obtain ⟨rfl, hP6⟩ := hP5.err hz6 h6
  refine x_iload_n dL_errors_106 rfl ?_
  refine x_ic_ne (tgt := 216) dL_errors_107 (by decide) ⟨by omega, by omega⟩ ⟨by omega, by omega⟩ (fun h => absurd h (by omega)) (fun hb107 => ?_)
  refine x_aload_n dL_errors_110 rfl ?_
  refine x_iconst dL_errors_111 ?_
  refine x_iconst dL_errors_112 ?_
  refine x_sipush dL_errors_113 (by decide) ?_
  refine c_RL_104p dL_errors_116 rfl (kX7_setSill hP6.1 (Or.inl rfl) hP6.2.1 (by omega) ⟨by omega, by omega⟩ ⟨by omega, by omega⟩ ⟨by omega, by omega⟩) bk (Nat.le_of_ble_eq_true rfl) (Nat.le_of_ble_eq_true rfl) ⟨by decide, by decide⟩ (fun w7 D7 h7 => ?_)
  obtain ⟨rfl, hP7⟩ := hP6.err hz7 h7
  refine x_iload_n dL_errors_119 rfl ?_
  refine x_ic_ne (tgt := 216) dL_errors_120 (by decide) ⟨by omega, by omega⟩ ⟨by omega, by omega⟩ (fun h => absurd h (by omega)) (fun hb120 => ?_)
  refine x_aload_n dL_errors_123 rfl ?_
  refine x_bipush dL_errors_124 (by decide) ?_
  refine c_RL_107p dL_errors_126 rfl (kX7_setClearance hP7.1 (Or.inl rfl) hP7.2.1 (by omega) ⟨by omega, by omega⟩) bk (Nat.le_of_ble_eq_true rfl) (Nat.le_of_ble_eq_true rfl) ⟨by decide, by decide⟩ (fun w8 D8 h8 => ?_)
  obtain ⟨rfl, hP8⟩ := hP7.err hz8 h8
  refine x_iload_n dL_errors_129 rfl ?_
  refine x_ic_ne (tgt := 216) dL_errors_130 (by decide) ⟨by omega, by omega⟩ ⟨by omega, by omega⟩ (fun h => absurd h (by omega)) (fun hb130 => ?_)
  refine x_aload_n dL_errors_133 rfl ?_
  refine x_iload dL_errors_134 rfl ?_
  refine x_iconst dL_errors_136 ?_
  refine c_RL_110p dL_errors_137 rfl (kX7_dredge hP8.1 (Or.inl rfl) hP8.2.1 (by omega) ⟨by omega, by omega⟩ ⟨by omega, by omega⟩) bk (Nat.le_of_ble_eq_true rfl) (Nat.le_of_ble_eq_true rfl) ⟨by decide, by decide⟩ (fun w9 D9 h9 => ?_)
  obtain ⟨rfl, hP9⟩ := hP8.err hz9 h9
  refine x_iload_n dL_errors_140 rfl ?_
  refine x_ic_ne (tgt := 216) dL_errors_141 (by decide) ⟨by omega, by omega⟩ ⟨by omega, by omega⟩ (fun h => absurd h (by omega)) (fun hb141 => ?_)
  refine x_aload_n dL_errors_144 rfl ?_
  refine x_iload_n dL_errors_145 rfl ?_
  refine x_iconst dL_errors_146 ?_
  refine c_RL_113p dL_errors_147 rfl (kX7_supply hP9.1 (Or.inl rfl) hP9.2.1 (by omega) ⟨by omega, by omega⟩ ⟨by omega, by omega⟩) bk (Nat.le_of_ble_eq_true rfl) (Nat.le_of_ble_eq_true rfl) ⟨by decide, by decide⟩ (fun w10 D10 h10 => ?_)
  obtain ⟨rfl, hP10⟩ := hP9.err hz10 h10
  refine x_iload_n dL_errors_150 rfl ?_
  refine x_ic_ne (tgt := 216) dL_errors_151 (by decide) ⟨by omega, by omega⟩ ⟨by omega, by omega⟩ (fun h => absurd h (by omega)) (fun hb151 => ?_)
  refine x_aload_n dL_errors_154 rfl ?_
  refine x_iconst dL_errors_155 ?_
  refine x_ldc (e := 1000001) dL_errors_156 ct_RL_116 (by decide) ?_
  refine c_RL_113p dL_errors_158 rfl (kX7_supply hP10.1 (Or.inl rfl) hP10.2.1 (by omega) ⟨by omega, by omega⟩ ⟨by omega, by omega⟩) bk (Nat.le_of_ble_eq_true rfl) (Nat.le_of_ble_eq_true rfl) ⟨by decide, by decide⟩ (fun w11 D11 h11 => ?_)
  obtain ⟨rfl, hP11⟩ := hP10.err hz11 h11
  refine x_iload_n dL_errors_161 rfl ?_
  refine x_ic_ne (tgt := 216) dL_errors_162 (by decide) ⟨by omega, by omega⟩ ⟨by omega, by omega⟩ (fun h => absurd h (by omega)) (fun hb162 => ?_)
  refine x_aload_n dL_errors_165 rfl ?_
  refine x_iload_n dL_errors_166 rfl ?_
  refine x_iconst dL_errors_167 ?_
  refine x_bipush dL_errors_168 (by decide) ?_
  refine x_iconst dL_errors_170 ?_
  refine x_bipush dL_errors_171 (by decide) ?_
  refine c_RL_117p dL_errors_173 rfl (kX7_addBarge hP11.1 (Or.inl rfl) hP11.2.1 (by omega) ⟨by omega, by omega⟩ ⟨by omega, by omega⟩ ⟨by omega, by omega⟩ ⟨by omega, by omega⟩ ⟨by omega, by omega⟩) bk (Nat.le_of_ble_eq_true rfl) (Nat.le_of_ble_eq_true rfl) ⟨by decide, by decide⟩ (fun w12 D12 h12 => ?_)
  obtain ⟨rfl, hP12⟩ := hP11.err hz12 h12
  refine x_iload_n dL_errors_176 rfl ?_
  refine x_ic_ne (tgt := 216) dL_errors_177 (by decide) ⟨by omega, by omega⟩ ⟨by omega, by omega⟩ (fun h => absurd h (by omega)) (fun hb177 => ?_)
  refine x_aload_n dL_errors_180 rfl ?_
  refine x_iconst dL_errors_181 ?_
  refine x_bipush dL_errors_182 (by decide) ?_
  refine x_bipush dL_errors_184 (by decide) ?_
  refine x_iconst dL_errors_186 ?_
  refine x_bipush dL_errors_187 (by decide) ?_
  refine c_RL_117p dL_errors_189 rfl (kX7_addBarge hP12.1 (Or.inl rfl) hP12.2.1 (by omega) ⟨by omega, by omega⟩ ⟨by omega, by omega⟩ ⟨by omega, by omega⟩ ⟨by omega, by omega⟩ ⟨by omega, by omega⟩) bk (Nat.le_of_ble_eq_true rfl) (Nat.le_of_ble_eq_true rfl) ⟨by decide, by decide⟩ (fun w13 D13 h13 => ?_)
  obtain ⟨rfl, hP13⟩ := hP12.err hz13 h13
  refine x_iload_n dL_errors_192 rfl ?_
  refine x_ic_ne (tgt := 216) dL_errors_193 (by decide) ⟨by omega, by omega⟩ ⟨by omega, by omega⟩ (fun h => absurd h (by omega)) (fun hb193 => ?_)
  refine x_aload_n dL_errors_196 rfl ?_
  refine x_iconst dL_errors_197 ?_
  refine x_iconst dL_errors_198 ?_
  refine x_bipush dL_errors_199 (by decide) ?_
  refine x_bipush dL_errors_201 (by decide) ?_
  refine x_bipush dL_errors_203 (by decide) ?_
  refine c_RL_117p dL_errors_205 rfl (kX7_addBarge hP13.1 (Or.inl rfl) hP13.2.1 (by omega) ⟨by omega, by omega⟩ ⟨by omega, by omega⟩ ⟨by omega, by omega⟩ ⟨by omega, by omega⟩ ⟨by omega, by omega⟩) bk (Nat.le_of_ble_eq_true rfl) (Nat.le_of_ble_eq_true rfl) ⟨by decide, by decide⟩ (fun w14 D14 h14 => ?_)
  obtain ⟨rfl, hP14⟩ := hP13.err hz14 h14
  refine x_iload_n dL_errors_208 rfl ?_
  refine x_ic_ne (tgt := 216) dL_errors_209 (by decide) ⟨by omega, by omega⟩ ⟨by omega, by omega⟩ (fun h => absurd h (by omega)) (fun hb209 => ?_)
  refine x_iconst dL_errors_212 ?_
  refine x_goto (tgt := 217) dL_errors_213 (by decide) ?_
  refine x_istore dL_errors_217 (by decide) ?_
  show JX _ _ _ _ _ _ _ _ _ _ _ [_, _, _, _, _, _, _] _ _
  refine x_iload dL_errors_219 rfl ?_
  refine x_if_eq (tgt := 400) dL_errors_221 (by decide) ⟨by omega, by omega⟩ (fun h => absurd h (by omega)) (fun hb221 => ?_)
  refine x_aload_n dL_errors_224 rfl ?_
  refine x_iload dL_errors_225 rfl ?_
  refine x_iconst dL_errors_227 ?_
  refine c_RL_72p dL_errors_228 rfl (kX7_load hP14.1 (Or.inl rfl) hP14.2.1 (by omega) ⟨by omega, by omega⟩ ⟨by omega, by omega⟩) bk (Nat.le_of_ble_eq_true rfl) (Nat.le_of_ble_eq_true rfl) ⟨by decide, by decide⟩ (fun w15 D15 h15 => ?_)
  obtain ⟨rfl, hP15⟩ := hP14.err hz15 h15
  refine x_iload_n dL_errors_231 rfl ?_
  refine x_ic_ne (tgt := 400) dL_errors_232 (by decide) ⟨by omega, by omega⟩ ⟨by omega, by omega⟩ (fun h => absurd h (by omega)) (fun hb232 => ?_)
  refine x_aload_n dL_errors_235 rfl ?_
  refine x_iconst dL_errors_236 ?_
  refine x_sipush dL_errors_237 (by decide) ?_
  refine c_RL_72p dL_errors_240 rfl (kX7_load hP15.1 (Or.inl rfl) hP15.2.1 (by omega) ⟨by omega, by omega⟩ ⟨by omega, by omega⟩) bk (Nat.le_of_ble_eq_true rfl) (Nat.le_of_ble_eq_true rfl) ⟨by decide, by decide⟩ (fun w16 D16 h16 => ?_)
  obtain ⟨rfl, hP16⟩ := hP15.err hz16 h16
  refine x_iload_n dL_errors_243 rfl ?_
  refine x_ic_ne (tgt := 400) dL_errors_244 (by decide) ⟨by omega, by omega⟩ ⟨by omega, by omega⟩ (fun h => absurd h (by omega)) (fun hb244 => ?_)
  refine x_aload_n dL_errors_247 rfl ?_
  refine x_iload dL_errors_248 rfl ?_
  refine x_iconst dL_errors_250 ?_
  refine c_RL_75p dL_errors_251 rfl (kX7_pump hP16.1 (Or.inl rfl) hP16.2.1 (by omega) ⟨by omega, by omega⟩ ⟨by omega, by omega⟩) bk (Nat.le_of_ble_eq_true rfl) (Nat.le_of_ble_eq_true rfl) ⟨by decide, by decide⟩ (fun w17 D17 h17 => ?_)
  obtain ⟨rfl, hP17⟩ := hP16.err hz17 h17
  refine x_iload_n dL_errors_254 rfl ?_
  refine x_ic_ne (tgt := 400) dL_errors_255 (by decide) ⟨by omega, by omega⟩ ⟨by omega, by omega⟩ (fun h => absurd h (by omega)) (fun hb255 => ?_)
  refine x_aload_n dL_errors_258 rfl ?_
  refine x_iconst dL_errors_259 ?_
  refine x_sipush dL_errors_260 (by decide) ?_
  refine c_RL_75p dL_errors_263 rfl (kX7_pump hP17.1 (Or.inl rfl) hP17.2.1 (by omega) ⟨by omega, by omega⟩ ⟨by omega, by omega⟩) bk (Nat.le_of_ble_eq_true rfl) (Nat.le_of_ble_eq_true rfl) ⟨by decide, by decide⟩ (fun w18 D18 h18 => ?_)
  obtain ⟨rfl, hP18⟩ := hP17.err hz18 h18
  refine x_iload_n dL_errors_266 rfl ?_
  refine x_ic_ne (tgt := 400) dL_errors_267 (by decide) ⟨by omega, by omega⟩ ⟨by omega, by omega⟩ (fun h => absurd h (by omega)) (fun hb267 => ?_)
  refine x_aload_n dL_errors_270 rfl ?_
  refine x_iload dL_errors_271 rfl ?_
  refine x_iconst dL_errors_273 ?_
  refine c_RL_56p dL_errors_274 rfl (kX7_sluice hP18.1 (Or.inl rfl) hP18.2.1 (by omega) ⟨by omega, by omega⟩ ⟨by omega, by omega⟩) bk (Nat.le_of_ble_eq_true rfl) (Nat.le_of_ble_eq_true rfl) ⟨by decide, by decide⟩ (fun w19 D19 h19 => ?_)
  obtain ⟨rfl, hP19⟩ := hP18.err hz19 h19
  refine x_iload_n dL_errors_277 rfl ?_
  refine x_ic_ne (tgt := 400) dL_errors_278 (by decide) ⟨by omega, by omega⟩ ⟨by omega, by omega⟩ (fun h => absurd h (by omega)) (fun hb278 => ?_)
  refine x_aload_n dL_errors_281 rfl ?_
  refine x_iconst dL_errors_282 ?_
  refine x_iconst dL_errors_283 ?_
  refine c_RL_63p dL_errors_284 rfl (kX7_open hP19.1 (Or.inl rfl) hP19.2.1 (by omega) ⟨by omega, by omega⟩ ⟨by omega, by omega⟩) bk (Nat.le_of_ble_eq_true rfl) (Nat.le_of_ble_eq_true rfl) ⟨by decide, by decide⟩ (fun w20 D20 h20 => ?_)
  obtain ⟨rfl, hP20⟩ := hP19.err hz20 h20
  refine x_iload_n dL_errors_287 rfl ?_
  refine x_ic_ne (tgt := 400) dL_errors_288 (by decide) ⟨by omega, by omega⟩ ⟨by omega, by omega⟩ (fun h => absurd h (by omega)) (fun hb288 => ?_)
  refine x_aload_n dL_errors_291 rfl ?_
  refine x_iload dL_errors_292 rfl ?_
  refine c_RL_121p dL_errors_294 rfl (kX7_close hP20.1 (Or.inl rfl) hP20.2.1 (by omega) ⟨by omega, by omega⟩) bk (Nat.le_of_ble_eq_true rfl) (Nat.le_of_ble_eq_true rfl) ⟨by decide, by decide⟩ (fun w21 D21 h21 => ?_)
  obtain ⟨rfl, hP21⟩ := hP20.err hz21 h21
  refine x_iload_n dL_errors_297 rfl ?_
  refine x_ic_ne (tgt := 400) dL_errors_298 (by decide) ⟨by omega, by omega⟩ ⟨by omega, by omega⟩ (fun h => absurd h (by omega)) (fun hb298 => ?_)
  refine x_aload_n dL_errors_301 rfl ?_
  refine x_iload dL_errors_302 rfl ?_
  refine x_iconst dL_errors_304 ?_
  refine c_RL_66p dL_errors_305 rfl (kX7_enter hP21.1 (Or.inl rfl) hP21.2.1 (by omega) ⟨by omega, by omega⟩ ⟨by omega, by omega⟩) bk (Nat.le_of_ble_eq_true rfl) (Nat.le_of_ble_eq_true rfl) ⟨by decide, by decide⟩ (fun w22 D22 h22 => ?_)
  obtain ⟨rfl, hP22⟩ := hP21.err hz22 h22
  refine x_iload_n dL_errors_308 rfl ?_
  refine x_ic_ne (tgt := 400) dL_errors_309 (by decide) ⟨by omega, by omega⟩ ⟨by omega, by omega⟩ (fun h => absurd h (by omega)) (fun hb309 => ?_)
  refine x_aload_n dL_errors_312 rfl ?_
  refine x_iconst dL_errors_313 ?_
  refine x_iload dL_errors_314 rfl ?_
  refine c_RL_66p dL_errors_316 rfl (kX7_enter hP22.1 (Or.inl rfl) hP22.2.1 (by omega) ⟨by omega, by omega⟩ ⟨by omega, by omega⟩) bk (Nat.le_of_ble_eq_true rfl) (Nat.le_of_ble_eq_true rfl) ⟨by decide, by decide⟩ (fun w23 D23 h23 => ?_)
  obtain ⟨rfl, hP23⟩ := hP22.err hz23 h23
  refine x_iload_n dL_errors_319 rfl ?_
  refine x_ic_ne (tgt := 400) dL_errors_320 (by decide) ⟨by omega, by omega⟩ ⟨by omega, by omega⟩ (fun h => absurd h (by omega)) (fun hb320 => ?_)
  refine x_aload_n dL_errors_323 rfl ?_
  refine x_iload dL_errors_324 rfl ?_
  refine x_iconst dL_errors_326 ?_
  refine c_RL_69p dL_errors_327 rfl (kX7_leave hP23.1 (Or.inl rfl) hP23.2.1 (by omega) ⟨by omega, by omega⟩ ⟨by omega, by omega⟩) bk (Nat.le_of_ble_eq_true rfl) (Nat.le_of_ble_eq_true rfl) ⟨by decide, by decide⟩ (fun w24 D24 h24 => ?_)
  obtain ⟨rfl, hP24⟩ := hP23.err hz24 h24
  refine x_iload_n dL_errors_330 rfl ?_
  refine x_ic_ne (tgt := 400) dL_errors_331 (by decide) ⟨by omega, by omega⟩ ⟨by omega, by omega⟩ (fun h => absurd h (by omega)) (fun hb331 => ?_)
  refine x_aload_n dL_errors_334 rfl ?_
  refine x_iload_n dL_errors_335 rfl ?_
  refine x_iconst dL_errors_336 ?_
  refine c_RL_9d dL_errors_337 rfl (tr_u hP24 (by omega) ⟨by omega, by omega⟩ (by omega)) bk (Nat.le_of_ble_eq_true rfl) (Nat.le_of_ble_eq_true rfl) ⟨by decide, by decide⟩ ?_
  refine x_iload_n dL_errors_340 rfl ?_
  refine x_ic_ne (tgt := 400) dL_errors_341 (by decide) ⟨by omega, by omega⟩ ⟨by omega, by omega⟩ (fun h => absurd h (by omega)) (fun hb341 => ?_)
  refine x_aload_n dL_errors_344 rfl ?_
  refine x_iload dL_errors_345 rfl ?_
  refine x_iconst dL_errors_347 ?_
  refine c_RL_15d dL_errors_348 rfl (tc_u hP24 (by omega) ⟨by omega, by omega⟩ (by omega)) bk (Nat.le_of_ble_eq_true rfl) (Nat.le_of_ble_eq_true rfl) ⟨by decide, by decide⟩ ?_
  refine x_iload_n dL_errors_351 rfl ?_
  refine x_ic_ne (tgt := 400) dL_errors_352 (by decide) ⟨by omega, by omega⟩ ⟨by omega, by omega⟩ (fun h => absurd h (by omega)) (fun hb352 => ?_)
  refine x_aload_n dL_errors_355 rfl ?_
  refine x_iload dL_errors_356 rfl ?_
  refine x_iconst dL_errors_358 ?_
  refine c_RL_38d dL_errors_359 rfl (tl_u hP24 (by omega) ⟨by omega, by omega⟩ (by omega)) bk (Nat.le_of_ble_eq_true rfl) (Nat.le_of_ble_eq_true rfl) ⟨by decide, by decide⟩ ?_
  refine x_iload_n dL_errors_362 rfl ?_
  refine x_ic_ne (tgt := 400) dL_errors_363 (by decide) ⟨by omega, by omega⟩ ⟨by omega, by omega⟩ (fun h => absurd h (by omega)) (fun hb363 => ?_)
  refine x_aload_n dL_errors_366 rfl ?_
  refine x_iload dL_errors_367 rfl ?_
  refine x_iconst dL_errors_369 ?_
  refine x_iconst dL_errors_370 ?_
  refine c_RL_52d dL_errors_371 rfl (tm_u hP24 (by omega) ⟨by omega, by omega⟩ (by omega)) bk (Nat.le_of_ble_eq_true rfl) (Nat.le_of_ble_eq_true rfl) ⟨by decide, by decide⟩ ?_
  refine x_iload_n dL_errors_374 rfl ?_
  refine x_ic_ne (tgt := 400) dL_errors_375 (by decide) ⟨by omega, by omega⟩ ⟨by omega, by omega⟩ (fun h => absurd h (by omega)) (fun hb375 => ?_)
  refine x_aload_n dL_errors_378 rfl ?_
  refine x_iconst dL_errors_379 ?_
  refine c_RL_124d dL_errors_380 rfl (kX7_keep_u hP24.1 hP24.2.1 (by omega) ⟨by omega, by omega⟩ (by omega)) bk (Nat.le_of_ble_eq_true rfl) (Nat.le_of_ble_eq_true rfl) ⟨by decide, by decide⟩ ?_
  refine x_iload_n dL_errors_383 rfl ?_
  refine x_ic_ne (tgt := 400) dL_errors_384 (by decide) ⟨by omega, by omega⟩ ⟨by omega, by omega⟩ (fun h => absurd h (by omega)) (fun hb384 => ?_)
  refine x_aload_n dL_errors_387 rfl ?_
  refine x_iconst dL_errors_388 ?_
  refine c_RL_127d dL_errors_389 rfl (kX7_restore_u hP24.1 (Or.inl rfl) hP24.2.1 (by omega) ⟨by omega, by omega⟩ (by omega)) bk (Nat.le_of_ble_eq_true rfl) (Nat.le_of_ble_eq_true rfl) ⟨by decide, by decide⟩ ?_
  refine x_iload_n dL_errors_392 rfl ?_
  refine x_ic_ne (tgt := 400) dL_errors_393 (by decide) ⟨by omega, by omega⟩ ⟨by omega, by omega⟩ (fun h => absurd h (by omega)) (fun hb393 => ?_)
  refine x_iconst dL_errors_396 ?_
  refine x_goto (tgt := 401) dL_errors_397 (by decide) ?_
  exact x_ireturn dL_errors_401 rfl (jbool (by first | exact Or.inl rfl | exact Or.inr rfl)).1 ⟨by decide, by decide⟩ ⟨rfl, _, rfl, rfl⟩
section EROW
variable {G : JG} {y : MethodName} {cc : ByteArray} {nL : Nat} {rt : Option FieldType} {d : Nat} {kb kc : Nat × Nat} {S : JS} {D : JD} {pc : Nat} {ls : List (Option JV)} {st : List JV} {Q : Option JV → JS → JD → Prop}
theorem c_RL_175k {x0 : JV} {b2 : Nat × Nat} {Q2 : Option JV → JS → JD → Prop} (hd : decode cc pc = .ok (.invokestatic 175, 3)) (hy : y.cls = RL) (hM : JM G yL_errors cL_errors 7 (some .boolean) d b2 S D [x0] Q2) (hn : (jarg [x0]).length ≤ 7) (hcat : (st.map jcat).sum ≤ 8) (hb : kc.1 + b2.1 ≤ kb.1 ∧ kc.2 + b2.2 ≤ kb.2) (K : ∀ (v : Option JV) (S2 : JS) (D2 : JD), Q2 v S2 D2 → JX G y cc nL rt (d + 1) kb (kc.1 + b2.1, kc.2 + b2.2) S2 D2 (pc + 3) ls (v.toList ++ st) Q) : JX G y cc nL rt (d + 1) kb kc S D pc ls (x0 :: st) Q :=
  jS (As := [x0]) hd hM ⟨(by rw [hy]; exact ml_RL_175), st_L_errors, ini_RL, cd_L_errors⟩ (by decide +kernel) ⟨by decide, by decide, (by show _ = some 1; decide +kernel)⟩ hn (by decide) hcat hb K
end EROW
