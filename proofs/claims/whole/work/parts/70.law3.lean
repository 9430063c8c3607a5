/-! THE LAW: its start, its loop -/
theorem law_zero {r : Int → Int} (h : ∀ k : Int, r k = if k = 3 then 10 else 0) : (r 0 = 0 ∧ r 1 = 0 ∧ r 2 = 0 ∧ r 3 = 10 ∧ r 4 = 0 ∧ r 5 = 0) ∧ rIn 0 r := by
  have e0 : r 0 = 0 := by rw [h]; rfl
  have e1 : r 1 = 0 := by rw [h]; rfl
  have e2 : r 2 = 0 := by rw [h]; rfl
  have e3 : r 3 = 10 := by rw [h]; rfl
  have e4 : r 4 = 0 := by rw [h]; rfl
  have e5 : r 5 = 0 := by rw [h]; rfl
  refine ⟨⟨e0, e1, e2, e3, e4, e5⟩, by omega, fun i x y => by omega, fun c x y => by omega, fun b x y => by omega, ?_, ?_⟩
  · unfold sTot
    rw [e0, e1, e2]
    exact Int.le_refl _
  · rw [e1, e2]
    rfl
theorem law_first {S S2 S3 : JS} {D2 D3 : JD} {X M : Int} (hX : S.1 = X) (hM : S2.1 = M) (q1 : S2.1 = X + 252) (q2 : jBL S2 X) (q5 : jFz D2 (X + 1)) (q6 : D2 (X + 42) 1 = 0 ∧ D2 (X + 42) 2 = 0) (q7 : D2 (X + 250) 1 = 0) (q8 : D2 X 4 = 0) (q9 : D2 X 5 = 0) (q10 : ∀ i : Int, jR S2 (X + 249) i = none) (q11 : ∀ z : Int, D2 (X + 251) z = 0)
    (w1 : S3.1 = M + 8) (w2 : jMo S3 M) (w3 : jOld (jnw S2 8 0) S3 M) (w4 : jOlD (jnd S2 D2) D3 M) (w5 : ∀ k : Int, D3 (M + 1) k = if k = 3 then 10 else 0) (w6 : ∀ i : Int, D3 (M + 5) i = 0) (w7 : ∀ k : Int, D3 M k = jnd S2 D2 M k) (w8 : ∀ z : Int, D3 (M + 6) z = 0) : jIx S3 D3 X M 0 := by
  obtain ⟨⟨e0, e1, e2, e3, e4, e5⟩, hI⟩ := law_zero (r := D3 (M + 1)) w5
  have ho : jOld S2 S3 M := (jOld.new (S := S2) (c := 8) (n := 0) (b := M) (by omega)).trans w3 (Int.le_refl _)
  have hd : ∀ x z : Int, x < M → D3 x z = D2 x z := fun x z hx => by rw [w4 x z hx, jnd_o (by omega)]
  have hz : ∀ k : Int, D3 M k = 0 := fun k => by rw [w7, jnd_z (by omega)]
  obtain ⟨z3, z4, z5, z6, z7, z8⟩ := q5
  refine ⟨0, fun _ => D3 (M + 1), D3 (M + 1), 0, q2.ext (fun x a b _ => ho x (by omega)) (ho _ (by omega)).1 (ho _ (by omega)).2.1, w2, by omega, by omega, ⟨by rw [hd _ _ (by omega)]; exact q9, by rw [hd _ _ (by omega)]; exact q8, ⟨⟨?_, ?_, ?_, ?_, ?_, ?_⟩, fun i x y => by omega, fun c x y => by omega, fun k z x y => by omega⟩, hI, ?_⟩, rfl, hz 6, ⟨hz 3, by omega, by omega, fun k j x y => by omega⟩, ⟨?_, ?_, ?_, ?_, fun z => ?_⟩, fun i _ => Or.inl ⟨?_, w6 i⟩, fun i f g _ hf _ => ?_⟩
  · rw [hd _ _ (by omega), e0]; exact z3
  · rw [hd _ _ (by omega), e1]; exact z4
  · rw [hd _ _ (by omega), e2]; exact z5
  · rw [hd _ _ (by omega), e3]; exact z6
  · rw [hd _ _ (by omega), e4]; exact z7
  · rw [hd _ _ (by omega), e5]; exact z8
  · have a1 : D3 (X + 42) 1 = 0 := by rw [hd _ _ (by omega)]; exact q6.1
    have a2 : D3 (X + 42) 2 = 0 := by rw [hd _ _ (by omega)]; exact q6.2
    exact ⟨by omega, by omega, a2, by omega, by omega, fun k x y => by omega⟩
  · rw [hz, hd _ _ (by omega)]; exact q7
  · rw [hz]; exact Int.le_refl _
  · rw [hz]; decide
  · exact funext fun z => by rw [w8, hd _ _ (by omega), show X + 250 + 1 = X + 251 by omega]; exact q11 z
  · rw [w8]; decide
  · rw [(ho _ (by omega)).2.2]; exact q10 i
  · rw [(ho _ (by omega)).2.2, q10] at hf; cases hf
theorem law_loop {G : JG} {d : Nat} {X M : Int} (hb : gb G < (gB G).size) (hL : gL G ≤ 3584) : ∀ (k j : Nat) (S : JS) (D : JD), (gL G : Int) < 7 * ((j : Int) + k) + 7 → j ≤ 512 → jIx S D X M (100 * (j : Int)) → JLw G d (260 + 41 * j) (3814 + 275 * j) S D X M (7 * (j : Int)) 18 [] := by
  intro k
  induction k with
  | zero =>
    intro j S D hn hj hx
    show JX _ _ _ _ _ _ _ _ _ _ _ [_, _, _, _] _ _
    refine x_iload_n dL_law_18 rfl ?_
    refine x_aload_n dL_law_19 rfl ?_
    refine x_slen dL_law_20 hb ?_
    refine x_bipush dL_law_21 (by decide) ?_
    refine x_isub dL_law_23 ?_
    refine x_ic_gt (tgt := 1065) dL_law_24 (by decide) ⟨by omega, by omega⟩ ⟨by omega, by omega⟩ (fun hb24 => ?_) (fun h => (h (by omega)).elim)
    refine x_iconst dL_law_1065 ?_
    exact x_ireturn dL_law_1066 rfl (jbool (Or.inr rfl)).1 ⟨by show 260 + 41 * j ≤ 600000; omega, by show 3814 + 275 * j ≤ 7302250; omega⟩ rfl
  | succ k ih =>
    intro j S D hn hj hx
    obtain ⟨n, hs, r, q, hI⟩ := hx
    have K : 7 * (j : Int) + 7 ≤ gL G → jNext G d (260 + 41 * j) (3814 + 275 * j) X M (100 * (j : Int)) (7 * (j : Int)) := fun hle S2 D2 h => by
      refine x_iinc dL_law_1059 rfl (by decide) ?_
      refine x_goto (tgt := 18) dL_law_1062 (by decide) ?_
      have h2 := ih (j + 1) S2 D2 (by omega) (by omega) (by rw [show 100 * ((j + 1 : Nat) : Int) = 100 * (j : Int) + 100 by omega]; exact h)
      rw [show 7 * ((j + 1 : Nat) : Int) = 7 * (j : Int) + 7 by omega, show 260 + 41 * (j + 1) = 260 + 41 * j + 41 by omega, show 3814 + 275 * (j + 1) = 3814 + 275 * j + 275 by omega] at h2
      exact h2
    show JX _ _ _ _ _ _ _ _ _ _ _ [_, _, _, _] _ _
    refine x_iload_n dL_law_18 rfl ?_
    refine x_aload_n dL_law_19 rfl ?_
    refine x_slen dL_law_20 hb ?_
    refine x_bipush dL_law_21 (by decide) ?_
    refine x_isub dL_law_23 ?_
    refine x_ic_gt (tgt := 1065) dL_law_24 (by decide) ⟨by omega, by omega⟩ ⟨by omega, by omega⟩ (fun hb24 => ?_) (fun hb24 => ?_)
    · refine x_iconst dL_law_1065 ?_
      exact x_ireturn dL_law_1066 rfl (jbool (Or.inr rfl)).1 ⟨by show 260 + 41 * j ≤ 600000; omega, by show 3814 + 275 * j ≤ 7302250; omega⟩ rfl
    · refine x_aload_n dL_law_27 rfl ?_
      refine x_iload_n dL_law_28 rfl ?_
      refine x_sld dL_law_29 hb (by omega) ⟨by omega, by omega⟩ ?_
      refine x_bipush dL_law_30 (by decide) ?_
      refine x_iand31 dL_law_32 ?_
      replace K := K (by omega)
      have v0 : 0 ≤ (gX G (7 * (j : Int)).toNat).toInt % 32 ∧ (gX G (7 * (j : Int)).toNat).toInt % 32 < 32 := by omega
      generalize (gX G (7 * (j : Int)).toNat).toInt % 32 = v at v0
      by_cases h0 : v = 0
      · rw [h0]
        refine x_switch (tgt := 160) dL_law_33 ⟨by decide, by decide⟩ (by decide) (by decide) ?_
        exact law_0 hI (by omega) (by omega) ⟨by omega, by omega⟩ hb (by omega) ⟨by omega, by omega⟩ K
      by_cases h1 : v = 1
      · rw [h1]
        refine x_switch (tgt := 203) dL_law_33 ⟨by decide, by decide⟩ (by decide) (by decide) ?_
        exact law_1 hI (by omega) (by omega) ⟨by omega, by omega⟩ hb (by omega) ⟨by omega, by omega⟩ K
      by_cases h2 : v = 2
      · rw [h2]
        refine x_switch (tgt := 278) dL_law_33 ⟨by decide, by decide⟩ (by decide) (by decide) ?_
        exact law_2 hI (by omega) (by omega) ⟨by omega, by omega⟩ hb (by omega) ⟨by omega, by omega⟩ K
      by_cases h3 : v = 3
      · rw [h3]
        refine x_switch (tgt := 321) dL_law_33 ⟨by decide, by decide⟩ (by decide) (by decide) ?_
        exact law_3 hI (by omega) (by omega) ⟨by omega, by omega⟩ hb (by omega) ⟨by omega, by omega⟩ K
      by_cases h4 : v = 4
      · rw [h4]
        refine x_switch (tgt := 344) dL_law_33 ⟨by decide, by decide⟩ (by decide) (by decide) ?_
        exact law_4 hI (by omega) (by omega) ⟨by omega, by omega⟩ hb (by omega) ⟨by omega, by omega⟩ K
      by_cases h5 : v = 5
      · rw [h5]
        refine x_switch (tgt := 377) dL_law_33 ⟨by decide, by decide⟩ (by decide) (by decide) ?_
        exact law_5 hI (by omega) (by omega) ⟨by omega, by omega⟩ hb (by omega) ⟨by omega, by omega⟩ K
      by_cases h6 : v = 6
      · rw [h6]
        refine x_switch (tgt := 410) dL_law_33 ⟨by decide, by decide⟩ (by decide) (by decide) ?_
        exact law_6 hI (by omega) (by omega) ⟨by omega, by omega⟩ hb (by omega) ⟨by omega, by omega⟩ K
      by_cases h7 : v = 7
      · rw [h7]
        refine x_switch (tgt := 473) dL_law_33 ⟨by decide, by decide⟩ (by decide) (by decide) ?_
        exact law_7 hI (by omega) (by omega) ⟨by omega, by omega⟩ hb (by omega) ⟨by omega, by omega⟩ K
      by_cases h8 : v = 8
      · rw [h8]
        refine x_switch (tgt := 506) dL_law_33 ⟨by decide, by decide⟩ (by decide) (by decide) ?_
        exact law_8 hI (by omega) (by omega) ⟨by omega, by omega⟩ hb (by omega) ⟨by omega, by omega⟩ K
      by_cases h9 : v = 9
      · rw [h9]
        refine x_switch (tgt := 539) dL_law_33 ⟨by decide, by decide⟩ (by decide) (by decide) ?_
        exact law_9 hI (by omega) (by omega) ⟨by omega, by omega⟩ hb (by omega) ⟨by omega, by omega⟩ K
      by_cases h10 : v = 10
      · rw [h10]
        refine x_switch (tgt := 572) dL_law_33 ⟨by decide, by decide⟩ (by decide) (by decide) ?_
        exact law_10 hI (by omega) (by omega) ⟨by omega, by omega⟩ hb (by omega) ⟨by omega, by omega⟩ K
      by_cases h11 : v = 11
      · rw [h11]
        refine x_switch (tgt := 605) dL_law_33 ⟨by decide, by decide⟩ (by decide) (by decide) ?_
        exact law_11 hI (by omega) (by omega) ⟨by omega, by omega⟩ hb (by omega) ⟨by omega, by omega⟩ K
      by_cases h12 : v = 12
      · rw [h12]
        refine x_switch (tgt := 628) dL_law_33 ⟨by decide, by decide⟩ (by decide) (by decide) ?_
        exact law_12 hI (by omega) (by omega) ⟨by omega, by omega⟩ hb (by omega) ⟨by omega, by omega⟩ K
      by_cases h13 : v = 13
      · rw [h13]
        refine x_switch (tgt := 661) dL_law_33 ⟨by decide, by decide⟩ (by decide) (by decide) ?_
        exact law_13 hI (by omega) (by omega) ⟨by omega, by omega⟩ hb (by omega) ⟨by omega, by omega⟩ K
      by_cases h14 : v = 14
      · rw [h14]
        refine x_switch (tgt := 694) dL_law_33 ⟨by decide, by decide⟩ (by decide) (by decide) ?_
        exact law_14 hI (by omega) (by omega) ⟨by omega, by omega⟩ hb (by omega) ⟨by omega, by omega⟩ K
      by_cases h15 : v = 15
      · rw [h15]
        refine x_switch (tgt := 719) dL_law_33 ⟨by decide, by decide⟩ (by decide) (by decide) ?_
        exact law_15 hI (by omega) (by omega) ⟨by omega, by omega⟩ hb (by omega) ⟨by omega, by omega⟩ K
      by_cases h16 : v = 16
      · rw [h16]
        refine x_switch (tgt := 732) dL_law_33 ⟨by decide, by decide⟩ (by decide) (by decide) ?_
        exact law_16 hI (by omega) (by omega) ⟨by omega, by omega⟩ hb (by omega) ⟨by omega, by omega⟩ K
      by_cases h17 : v = 17
      · rw [h17]
        refine x_switch (tgt := 745) dL_law_33 ⟨by decide, by decide⟩ (by decide) (by decide) ?_
        exact law_17 hI (by omega) (by omega) ⟨by omega, by omega⟩ hb (by omega) ⟨by omega, by omega⟩ K
      by_cases h18 : v = 18
      · rw [h18]
        refine x_switch (tgt := 758) dL_law_33 ⟨by decide, by decide⟩ (by decide) (by decide) ?_
        exact law_18 hI (by omega) (by omega) ⟨by omega, by omega⟩ hb (by omega) ⟨by omega, by omega⟩ K
      by_cases h19 : v = 19
      · rw [h19]
        refine x_switch (tgt := 781) dL_law_33 ⟨by decide, by decide⟩ (by decide) (by decide) ?_
        exact law_19 hI (by omega) (by omega) ⟨by omega, by omega⟩ hb (by omega) ⟨by omega, by omega⟩ K
      by_cases h20 : v = 20
      · rw [h20]
        refine x_switch (tgt := 804) dL_law_33 ⟨by decide, by decide⟩ (by decide) (by decide) ?_
        exact law_20 hI (by omega) (by omega) ⟨by omega, by omega⟩ hb (by omega) ⟨by omega, by omega⟩ K
      by_cases h21 : v = 21
      · rw [h21]
        refine x_switch (tgt := 837) dL_law_33 ⟨by decide, by decide⟩ (by decide) (by decide) ?_
        exact law_21 hI (by omega) (by omega) ⟨by omega, by omega⟩ hb (by omega) ⟨by omega, by omega⟩ K
      by_cases h22 : v = 22
      · rw [h22]
        refine x_switch (tgt := 870) dL_law_33 ⟨by decide, by decide⟩ (by decide) (by decide) ?_
        exact law_22 hI (by omega) (by omega) ⟨by omega, by omega⟩ hb (by omega) ⟨by omega, by omega⟩ K
      by_cases h23 : v = 23
      · rw [h23]
        refine x_switch (tgt := 903) dL_law_33 ⟨by decide, by decide⟩ (by decide) (by decide) ?_
        exact law_23 hI (by omega) (by omega) ⟨by omega, by omega⟩ hb (by omega) ⟨by omega, by omega⟩ K
      by_cases h24 : v = 24
      · rw [h24]
        refine x_switch (tgt := 936) dL_law_33 ⟨by decide, by decide⟩ (by decide) (by decide) ?_
        exact law_24 hI (by omega) (by omega) ⟨by omega, by omega⟩ hb (by omega) ⟨by omega, by omega⟩ K
      by_cases h25 : v = 25
      · rw [h25]
        refine x_switch (tgt := 979) dL_law_33 ⟨by decide, by decide⟩ (by decide) (by decide) ?_
        exact law_25 hI (by omega) (by omega) ⟨by omega, by omega⟩ hb (by omega) ⟨by omega, by omega⟩ K
      by_cases h26 : v = 26
      · rw [h26]
        refine x_switch (tgt := 1012) dL_law_33 ⟨by decide, by decide⟩ (by decide) (by decide) ?_
        exact law_26 hI (by omega) (by omega) ⟨by omega, by omega⟩ hb (by omega) ⟨by omega, by omega⟩ K
      by_cases h27 : v = 27
      · rw [h27]
        refine x_switch (tgt := 1036) dL_law_33 ⟨by decide, by decide⟩ (by decide) (by decide) ?_
        exact law_27 hI (by omega) (by omega) ⟨by omega, by omega⟩ hb (by omega) ⟨by omega, by omega⟩ K
      refine x_switch (tgt := 1059) dL_law_33 ⟨by omega, by omega⟩ (by rw [if_pos (by omega)]; rfl) (by decide) ?_
      exact K.go ⟨_, _, _, _, hI.mono (by omega)⟩
theorem law_run {G : JG} {S : JS} {D : JD} {d : Nat}  (hb : gb G < (gB G).size) (hL : gL G ≤ 3584) : JX G yL_law cL_law 4 (some .boolean) (d + 11) (600000, 7302250) (0, 0) S D 0 [some (.inr (.inr (some (gb G : Int)))), none, none, none] [] (fun v _ _ => v = some (.inl 1)) := by
  show JX _ _ _ _ _ _ _ _ _ _ _ [_, _, _, _] _ _
  refine x_new (c := 7) dL_law_0 rfl (by decide) cl_RL_7 ins_RX7 ini_RX7 (by decide) ?_
  refine x_dup dL_law_3 (fun _ h => by cases h) ?_
  refine c_RL_9 dL_law_4 rfl (kX7_init (X := S.1) (jnw_K (n := 0)) rfl) (Nat.le_of_ble_eq_true rfl) (Nat.le_of_ble_eq_true rfl) (by decide) ?_
  rintro v9 S9 D9 ⟨rfl, q1, q2, q3, q4, q5, q6, q7, q8, q9, q10, q11⟩
  dsimp only [Option.toList, List.nil_append]
  refine x_astore_n dL_law_7 (by decide) ?_
  show JX _ _ _ _ _ _ _ _ _ _ _ [_, _, _, _] _ _
  refine x_new (c := 8) dL_law_8 rfl (by decide) cl_RL_10 ins_RX8 ini_RX8 (by decide) ?_
  refine x_dup dL_law_11 (fun _ h => by cases h) ?_
  refine c_RL_12 dL_law_12 rfl (kX8_init (M := S9.1) (jnw_K (n := 0)) rfl) (Nat.le_of_ble_eq_true rfl) (Nat.le_of_ble_eq_true rfl) (by decide) ?_
  rintro v8 S8 D8 ⟨rfl, w1, w2, w3, w4, w5, w6, w7, w8⟩
  dsimp only [Option.toList, List.nil_append]
  refine x_astore_n dL_law_15 (by decide) ?_
  show JX _ _ _ _ _ _ _ _ _ _ _ [_, _, _, _] _ _
  refine x_iconst dL_law_16 ?_
  refine x_istore_n dL_law_17 (by decide) ?_
  show JX _ _ _ _ _ _ _ _ _ _ _ [_, _, _, _] _ _
  have hx := law_first (X := S.1) (M := S9.1) rfl rfl q1 q2 q5 q6 q7 q8 q9 q10 q11 w1 w2 w3 w4 w5 w6 w7 w8
  exact law_loop hb hL 512 0 _ _ (by omega) (by omega) hx
