/-! THE REFERENCE: an order is read -/
def jRx (D D2 : JD) (M n F k : Int) (f : Int → Int) (res : Option oOrd × Int) : Prop :=
  (∀ y : Int, y ≠ M → y ≠ M + 7 → D2 y = D y) ∧ (∀ z : Int, z ≠ 9 → z ≠ 10 → z ≠ 11 → D2 M z = D M z) ∧ (∀ j : Int, j < 3 * k ∨ 3 * k + 3 ≤ j → D2 (M + 7) j = D (M + 7) j) ∧ (match res.1 with
    | some t => D2 M 9 = res.2 ∧ D2 M 11 = k + 1 ∧ D2 (M + 7) (3 * k) = t.1 ∧ D2 (M + 7) (3 * k + 1) = t.2.1 ∧ D2 (M + 7) (3 * k + 2) = t.2.2 ∧ D2 M 10 = (if res.2 < n ∧ f res.2 ≠ 59 then res.2 else F)
    | none => D2 M 10 = res.2)
theorem ro_tail {G : JG} {S : JS} {D : JD} {d : Nat} {M n : Int} {f : Int → Int} {q F k : Int} {l1 l2 l3 : Option JV} (hM : jMo S M) (hn : D M 7 = n) (hf : D (M + 6) = f) (n0 : 0 ≤ n) (n1 : n ≤ 60) (fr : ∀ z : Int, 0 ≤ f z ∧ f z ≤ 65535) (hq : D M 9 = q) (q0 : 0 ≤ q) (q1 : q ≤ n) (hF : D M 10 = F) (rF : i32 F) (hk : D M 11 = k) : JX G yX8_readOrder cX8_readOrder 4 none (d + 2) (0, 0) (0, 0) S D 132 [some (.inr (.inr (some M))), l1, l2, l3] [] (jnP S (fun D2 => D2 M 10 = (if (q < n ∧ f q ≠ 59) ∧ F < 0 then q else F) ∧ D2 M 11 = k + 1 ∧ ∀ y z : Int, ¬ (y = M ∧ (z = 10 ∨ z = 11)) → D2 y z = D y z)) := by
  obtain ⟨mk, m0, m1, m2, m4, m5, m8, m12, y1, l1, y2, l2, y3, l3, y4, l4, y5, l5, y6, l6, y7, l7⟩ := id hM
  have fq := fr q
  refine x_aload_n dX8_readOrder_132 rfl ?_
  refine gf_RX8_190 dX8_readOrder_133 rfl (by assumption) ?_
  rw [hq]
  refine x_aload_n dX8_readOrder_136 rfl ?_
  refine gf_RX8_180 dX8_readOrder_137 rfl (by assumption) ?_
  rw [hn]
  refine x_ic_ge (tgt := 165) dX8_readOrder_140 (by decide) ⟨by omega, by omega⟩ ⟨by omega, by omega⟩ (fun hb140 => ?_) (fun hb140 => ?_)
  · refine x_aload_n dX8_readOrder_165 rfl ?_
    refine x_dup dX8_readOrder_166 (fun _ h => by cases h) ?_
    refine gf_RX8_203 dX8_readOrder_167 rfl (by assumption) ?_
    first | rw [hk] | rw [jup_nk (by omega), hk]
    refine x_iconst dX8_readOrder_170 ?_
    refine x_iadd dX8_readOrder_171 ?_
    refine pf_RX8_203 dX8_readOrder_172 rfl (by assumption) ?_
    exact x_return dX8_readOrder_175 rfl ⟨Nat.le_refl _, Nat.le_refl _⟩ ⟨rfl, rfl, by first | (rw [if_neg (by omega), jup_nk (by omega)]; exact hF) | (rw [jup_nk (by omega), jup_eq]; split <;> split <;> omega), jup_eq, fun y z w => by first | (rw [jup_o (fun x => w ⟨x.1, Or.inr x.2⟩), jup_o (fun x => w ⟨x.1, Or.inl x.2⟩)]) | exact jup_o (fun x => w ⟨x.1, Or.inr x.2⟩)⟩
  · refine x_aload_n dX8_readOrder_143 rfl ?_
    refine gf_RX8_26 dX8_readOrder_144 rfl (by assumption) ?_
    rw [m8]
    refine x_aload_n dX8_readOrder_147 rfl ?_
    refine gf_RX8_190 dX8_readOrder_148 rfl (by assumption) ?_
    rw [hq]
    refine x_cald dX8_readOrder_151 (by assumption) ⟨by omega, by omega⟩ ?_
    rw [hf]
    refine x_bipush dX8_readOrder_152 (by decide) ?_
    refine x_ic_eq (tgt := 165) dX8_readOrder_154 (by decide) ⟨by omega, by omega⟩ ⟨by omega, by omega⟩ (fun hb154 => ?_) (fun hb154 => ?_)
    · refine x_aload_n dX8_readOrder_165 rfl ?_
      refine x_dup dX8_readOrder_166 (fun _ h => by cases h) ?_
      refine gf_RX8_203 dX8_readOrder_167 rfl (by assumption) ?_
      first | rw [hk] | rw [jup_nk (by omega), hk]
      refine x_iconst dX8_readOrder_170 ?_
      refine x_iadd dX8_readOrder_171 ?_
      refine pf_RX8_203 dX8_readOrder_172 rfl (by assumption) ?_
      exact x_return dX8_readOrder_175 rfl ⟨Nat.le_refl _, Nat.le_refl _⟩ ⟨rfl, rfl, by first | (rw [if_neg (by omega), jup_nk (by omega)]; exact hF) | (rw [jup_nk (by omega), jup_eq]; split <;> split <;> omega), jup_eq, fun y z w => by first | (rw [jup_o (fun x => w ⟨x.1, Or.inr x.2⟩), jup_o (fun x => w ⟨x.1, Or.inl x.2⟩)]) | exact jup_o (fun x => w ⟨x.1, Or.inr x.2⟩)⟩
    · refine x_aload_n dX8_readOrder_157 rfl ?_
      refine x_aload_n dX8_readOrder_158 rfl ?_
      refine gf_RX8_190 dX8_readOrder_159 rfl (by assumption) ?_
      rw [hq]
      refine c_RX8_193d dX8_readOrder_162 rfl (kX8_fail hM hF rF) (by assumption) (Nat.le_of_ble_eq_true rfl) (Nat.le_of_ble_eq_true rfl) ⟨Nat.le_refl _, Nat.le_refl _⟩ ?_
      refine x_aload_n dX8_readOrder_165 rfl ?_
      refine x_dup dX8_readOrder_166 (fun _ h => by cases h) ?_
      refine gf_RX8_203 dX8_readOrder_167 rfl (by assumption) ?_
      first | rw [hk] | rw [jup_nk (by omega), hk]
      refine x_iconst dX8_readOrder_170 ?_
      refine x_iadd dX8_readOrder_171 ?_
      refine pf_RX8_203 dX8_readOrder_172 rfl (by assumption) ?_
      exact x_return dX8_readOrder_175 rfl ⟨Nat.le_refl _, Nat.le_refl _⟩ ⟨rfl, rfl, by first | (rw [if_neg (by omega), jup_nk (by omega)]; exact hF) | (rw [jup_nk (by omega), jup_eq]; split <;> split <;> omega), jup_eq, fun y z w => by first | (rw [jup_o (fun x => w ⟨x.1, Or.inr x.2⟩), jup_o (fun x => w ⟨x.1, Or.inl x.2⟩)]) | exact jup_o (fun x => w ⟨x.1, Or.inr x.2⟩)⟩
theorem ro_no {G : JG} {S : JS} {D : JD} {d : Nat} {M n : Int} {f : Int → Int} {p F k : Int} (hM : jMo S M) (hn : D M 7 = n) (hf : D (M + 6) = f) (n0 : 0 ≤ n) (n1 : n ≤ 60) (fr : ∀ z : Int, 0 ≤ f z ∧ f z ≤ 65535) (hp : D M 9 = p) (p0 : 0 ≤ p) (p1 : p ≤ n) (hF : D M 10 = F) (rF : i32 F) (F0 : F < 0) (hk : D M 11 = k) (k0 : 0 ≤ k) (k1 : k ≤ 25) (hW : oW f p (oE f n p) = -1) : JM G yX8_readOrder cX8_readOrder 4 none (d + 2) (0, 0) S D [.inr (.inr (some M))] (jnP S (fun D2 => jRx D D2 M n F k f (oRd f n p))) := by
  obtain ⟨mk, m0, m1, m2, m4, m5, m8, m12, y1, l1, y2, l2, y3, l3, y4, l4, y5, l5, y6, l6, y7, l7⟩ := id hM
  have eb := oE_b (f := f) p1
  have hres : oRd f n p = (none, p) := by unfold oRd; rw [if_pos (by rw [hW]; decide)]
  rw [hres]
  show JX _ _ _ _ _ _ _ _ _ _ _ [_, _, _, _] _ _
  refine x_aload_n dX8_readOrder_0 rfl ?_
  refine x_aload_n dX8_readOrder_1 rfl ?_
  refine gf_RX8_190 dX8_readOrder_2 rfl (by assumption) ?_
  rw [hp]
  refine c_RX8_197d dX8_readOrder_5 rfl (kX8_endOf hM hn hf n0 n1 fr p0 p1) (by assumption) (Nat.le_of_ble_eq_true rfl) (Nat.le_of_ble_eq_true rfl) ⟨Nat.le_refl _, Nat.le_refl _⟩ ?_
  refine x_istore_n dX8_readOrder_8 (by decide) ?_
  show JX _ _ _ _ _ _ _ _ _ _ _ [_, _, _, _] _ _
  refine x_aload_n dX8_readOrder_9 rfl ?_
  refine x_aload_n dX8_readOrder_10 rfl ?_
  refine gf_RX8_190 dX8_readOrder_11 rfl (by assumption) ?_
  rw [hp]
  refine x_iload_n dX8_readOrder_14 rfl ?_
  refine c_RX8_200d dX8_readOrder_15 rfl (kX8_word hM hn hf n0 n1 fr p0 eb.1 eb.2) (by assumption) (Nat.le_of_ble_eq_true rfl) (Nat.le_of_ble_eq_true rfl) ⟨Nat.le_refl _, Nat.le_refl _⟩ ?_
  rw [hW, if_pos (show (-1 : Int) < 0 by decide)]
  refine x_istore_n dX8_readOrder_18 (by decide) ?_
  show JX _ _ _ _ _ _ _ _ _ _ _ [_, _, _, _] _ _
  refine x_iload_n dX8_readOrder_19 rfl ?_
  refine x_if_ge (tgt := 31) dX8_readOrder_20 (by decide) ⟨by omega, by omega⟩ (fun h => absurd h (by omega)) (fun hb20 => ?_)
  refine x_aload_n dX8_readOrder_23 rfl ?_
  refine x_aload_n dX8_readOrder_24 rfl ?_
  refine gf_RX8_190 dX8_readOrder_25 rfl (by assumption) ?_
  rw [hp]
  refine c_RX8_193d dX8_readOrder_28 rfl (kX8_fail hM hF rF) (by assumption) (Nat.le_of_ble_eq_true rfl) (Nat.le_of_ble_eq_true rfl) ⟨Nat.le_refl _, Nat.le_refl _⟩ ?_
  rw [if_pos F0]
  refine x_aload_n dX8_readOrder_31 rfl ?_
  refine x_iload_n dX8_readOrder_32 rfl ?_
  refine pf_RX8_190 dX8_readOrder_33 rfl (by assumption) ?_
  refine x_iconst dX8_readOrder_36 ?_
  refine x_aload_n dX8_readOrder_37 rfl ?_
  refine gf_RX8_203 dX8_readOrder_38 rfl (by assumption) ?_
  rw [jup_nk (show (11 : Int) ≠ 9 by decide), jup_nk (show (11 : Int) ≠ 10 by decide), hk]
  refine x_imul dX8_readOrder_41 ?_
  refine x_istore_n dX8_readOrder_42 (by decide) ?_
  show JX _ _ _ _ _ _ _ _ _ _ _ [_, _, _, _] _ _
  refine x_aload_n dX8_readOrder_43 rfl ?_
  refine gf_RX8_30 dX8_readOrder_44 rfl (by assumption) ?_
  rw [m12]
  refine x_iload_n dX8_readOrder_47 rfl ?_
  refine x_iload_n dX8_readOrder_48 rfl ?_
  refine x_iast dX8_readOrder_49 (by assumption) ⟨by omega, by omega⟩ ?_
  refine x_aload_n dX8_readOrder_50 rfl ?_
  refine gf_RX8_30 dX8_readOrder_51 rfl (by assumption) ?_
  rw [m12]
  refine x_iload_n dX8_readOrder_54 rfl ?_
  refine x_iconst dX8_readOrder_55 ?_
  refine x_iadd dX8_readOrder_56 ?_
  refine x_aload_n dX8_readOrder_57 rfl ?_
  refine x_iconst dX8_readOrder_58 ?_
  refine x_iload_n dX8_readOrder_59 rfl ?_
  refine x_iconst dX8_readOrder_60 ?_
  refine x_ic_eq (tgt := 69) dX8_readOrder_61 (by decide) ⟨by omega, by omega⟩ ⟨by omega, by omega⟩ (fun h => absurd h (by omega)) (fun hb61 => ?_)
  refine x_iload_n dX8_readOrder_64 rfl ?_
  refine x_iconst dX8_readOrder_65 ?_
  refine x_ic_le (tgt := 74) dX8_readOrder_66 (by decide) ⟨by omega, by omega⟩ ⟨by omega, by omega⟩ (fun hb66 => ?_) (fun h => (h (by omega)).elim)
  refine x_iconst dX8_readOrder_74 ?_
  have na : (jup (jup (jup D M 10 p) M 9 (oE f n p)) (M + 7) (3 * k) (-100000005)) M 7 = n := by (repeat (first | rw [jup_eq] | rw [jup_ne (by omega)] | rw [jup_nk (by omega)])); first | exact hn | rfl
  have fa : (jup (jup (jup D M 10 p) M 9 (oE f n p)) (M + 7) (3 * k) (-100000005)) (M + 6) = f := by (repeat (rw [jup_off (by omega)])); exact hf
  have pa : (jup (jup (jup D M 10 p) M 9 (oE f n p)) (M + 7) (3 * k) (-100000005)) M 9 = (oE f n p) := by (repeat (first | rw [jup_eq] | rw [jup_ne (by omega)] | rw [jup_nk (by omega)]))
  have Fa : (jup (jup (jup D M 10 p) M 9 (oE f n p)) (M + 7) (3 * k) (-100000005)) M 10 = p := by (repeat (first | rw [jup_eq] | rw [jup_ne (by omega)] | rw [jup_nk (by omega)]))
  have ka : (jup (jup (jup D M 10 p) M 9 (oE f n p)) (M + 7) (3 * k) (-100000005)) M 11 = k := by (repeat (first | rw [jup_eq] | rw [jup_ne (by omega)] | rw [jup_nk (by omega)])); exact hk
  refine c_RX8_206d dX8_readOrder_75 rfl (kX8_number_F hM na fa n0 n1 fr Fa ⟨by omega, by omega⟩ p0) (by assumption) (Nat.le_of_ble_eq_true rfl) (Nat.le_of_ble_eq_true rfl) ⟨Nat.le_refl _, Nat.le_refl _⟩ ?_
  refine x_iast dX8_readOrder_78 (by assumption) ⟨by omega, by omega⟩ ?_
  refine x_aload_n dX8_readOrder_79 rfl ?_
  refine gf_RX8_30 dX8_readOrder_80 rfl (by assumption) ?_
  rw [m12]
  refine x_iload_n dX8_readOrder_83 rfl ?_
  refine x_iconst dX8_readOrder_84 ?_
  refine x_iadd dX8_readOrder_85 ?_
  refine x_iload_n dX8_readOrder_86 rfl ?_
  refine x_iconst dX8_readOrder_87 ?_
  refine x_ic_ne (tgt := 95) dX8_readOrder_88 (by decide) ⟨by omega, by omega⟩ ⟨by omega, by omega⟩ (fun hb88 => ?_) (fun h => (h (by omega)).elim)
  refine x_iload_n dX8_readOrder_95 rfl ?_
  refine x_iconst dX8_readOrder_96 ?_
  refine x_ic_ne (tgt := 109) dX8_readOrder_97 (by decide) ⟨by omega, by omega⟩ ⟨by omega, by omega⟩ (fun hb97 => ?_) (fun h => (h (by omega)).elim)
  refine x_iload_n dX8_readOrder_109 rfl ?_
  refine x_iconst dX8_readOrder_110 ?_
  refine x_ic_le (tgt := 125) dX8_readOrder_111 (by decide) ⟨by omega, by omega⟩ ⟨by omega, by omega⟩ (fun hb111 => ?_) (fun h => (h (by omega)).elim)
  refine x_aload_n dX8_readOrder_125 rfl ?_
  refine x_iconst dX8_readOrder_126 ?_
  refine x_iconst dX8_readOrder_127 ?_
  clear na fa pa Fa ka
  have na : (jup (jup (jup (jup D M 10 p) M 9 (oE f n p)) (M + 7) (3 * k) (-100000005)) (M + 7) (3 * k + 1) 0) M 7 = n := by (repeat (first | rw [jup_eq] | rw [jup_ne (by omega)] | rw [jup_nk (by omega)])); exact hn
  have fa : (jup (jup (jup (jup D M 10 p) M 9 (oE f n p)) (M + 7) (3 * k) (-100000005)) (M + 7) (3 * k + 1) 0) (M + 6) = f := by (repeat (rw [jup_off (by omega)])); exact hf
  have Fa : (jup (jup (jup (jup D M 10 p) M 9 (oE f n p)) (M + 7) (3 * k) (-100000005)) (M + 7) (3 * k + 1) 0) M 10 = p := by (repeat (first | rw [jup_eq] | rw [jup_ne (by omega)] | rw [jup_nk (by omega)]))
  refine c_RX8_206d dX8_readOrder_128 rfl (kX8_number_F hM na fa n0 n1 fr Fa ⟨by omega, by omega⟩ p0) (by assumption) (Nat.le_of_ble_eq_true rfl) (Nat.le_of_ble_eq_true rfl) ⟨Nat.le_refl _, Nat.le_refl _⟩ ?_
  refine x_iast dX8_readOrder_131 (by assumption) ⟨by omega, by omega⟩ ?_
  refine (ro_tail (D := (jup (jup (jup (jup (jup D M 10 p) M 9 (oE f n p)) (M + 7) (3 * k) (-100000005)) (M + 7) (3 * k + 1) 0) (M + 7) (3 * k + 2) 0)) (q := (oE f n p)) (F := p) (k := k) hM (by (repeat (first | rw [jup_eq] | rw [jup_ne (by omega)] | rw [jup_nk (by omega)])); exact hn) (by (repeat (rw [jup_off (by omega)])); exact hf) n0 n1 fr (by repeat (first | rw [jup_eq] | rw [jup_ne (by omega)] | rw [jup_nk (by omega)])) (by omega) eb.2 (by repeat (first | rw [jup_eq] | rw [jup_ne (by omega)] | rw [jup_nk (by omega)])) ⟨by omega, by omega⟩ (by (repeat (first | rw [jup_eq] | rw [jup_ne (by omega)] | rw [jup_nk (by omega)])); exact hk)).mono ?_
  rintro v S2 D4 ⟨rfl, rfl, t1, t2, t3⟩
  refine ⟨rfl, rfl, fun y a b => ?_, fun z a b e => ?_, fun j hj => ?_, ?_⟩
  · funext z; rw [t3 y z (fun w => a w.1)]; (repeat (first | rw [jup_eq] | rw [jup_ne (by omega)] | rw [jup_nk (by omega)]))
  · rw [t3 M z (fun w => by have := w.2; omega)]; (repeat (first | rw [jup_eq] | rw [jup_ne (by omega)] | rw [jup_nk (by omega)]))
  · rw [t3 _ j (fun w => by have := w.1; omega)]; (repeat (first | rw [jup_eq] | rw [jup_ne (by omega)] | rw [jup_nk (by omega)]))
  · rw [t1]; exact if_neg (by omega)
theorem ro_0_n {G : JG} {S : JS} {D : JD} {d : Nat} {M n : Int} {f : Int → Int} {p F k : Int} {q : Int} (hM : jMo S M) (hn : D M 7 = n) (hf : D (M + 6) = f) (n0 : 0 ≤ n) (n1 : n ≤ 60) (fr : ∀ z : Int, 0 ≤ f z ∧ f z ≤ 65535) (hp : D M 9 = p) (p0 : 0 ≤ p) (p1 : p ≤ n) (hF : D M 10 = F) (rF : i32 F) (F0 : F < 0) (hk : D M 11 = k) (k0 : 0 ≤ k) (k1 : k ≤ 25) (hW : oW f p (oE f n p) = 0) (hx : oNm f n (oE f n p) 0 3 = (none, q)) : JM G yX8_readOrder cX8_readOrder 4 none (d + 2) (0, 0) S D [.inr (.inr (some M))] (jnP S (fun D2 => jRx D D2 M n F k f (oRd f n p))) := by
  obtain ⟨mk, m0, m1, m2, m4, m5, m8, m12, y1, l1, y2, l2, y3, l3, y4, l4, y5, l5, y6, l6, y7, l7⟩ := id hM
  have eb := oE_b (f := f) p1
  have hres : oRd f n p = (none, q) := by
    unfold oRd
    rw [if_neg (by rw [hW]; decide), hW]
    unfold oAr
    rw [show oM1 0 = 3 from rfl, hx]
  rw [hres]
  show JX _ _ _ _ _ _ _ _ _ _ _ [_, _, _, _] _ _
  refine x_aload_n dX8_readOrder_0 rfl ?_
  refine x_aload_n dX8_readOrder_1 rfl ?_
  refine gf_RX8_190 dX8_readOrder_2 rfl (by assumption) ?_
  rw [hp]
  refine c_RX8_197d dX8_readOrder_5 rfl (kX8_endOf hM hn hf n0 n1 fr p0 p1) (by assumption) (Nat.le_of_ble_eq_true rfl) (Nat.le_of_ble_eq_true rfl) ⟨Nat.le_refl _, Nat.le_refl _⟩ ?_
  refine x_istore_n dX8_readOrder_8 (by decide) ?_
  show JX _ _ _ _ _ _ _ _ _ _ _ [_, _, _, _] _ _
  refine x_aload_n dX8_readOrder_9 rfl ?_
  refine x_aload_n dX8_readOrder_10 rfl ?_
  refine gf_RX8_190 dX8_readOrder_11 rfl (by assumption) ?_
  rw [hp]
  refine x_iload_n dX8_readOrder_14 rfl ?_
  refine c_RX8_200d dX8_readOrder_15 rfl (kX8_word hM hn hf n0 n1 fr p0 eb.1 eb.2) (by assumption) (Nat.le_of_ble_eq_true rfl) (Nat.le_of_ble_eq_true rfl) ⟨Nat.le_refl _, Nat.le_refl _⟩ ?_
  rw [hW, if_neg (show ¬ (0 : Int) < 0 by decide)]
  refine x_istore_n dX8_readOrder_18 (by decide) ?_
  show JX _ _ _ _ _ _ _ _ _ _ _ [_, _, _, _] _ _
  refine x_iload_n dX8_readOrder_19 rfl ?_
  refine x_if_ge (tgt := 31) dX8_readOrder_20 (by decide) ⟨by omega, by omega⟩ (fun hb20 => ?_) (fun h => (h (by omega)).elim)
  refine x_aload_n dX8_readOrder_31 rfl ?_
  refine x_iload_n dX8_readOrder_32 rfl ?_
  refine pf_RX8_190 dX8_readOrder_33 rfl (by assumption) ?_
  refine x_iconst dX8_readOrder_36 ?_
  refine x_aload_n dX8_readOrder_37 rfl ?_
  refine gf_RX8_203 dX8_readOrder_38 rfl (by assumption) ?_
  rw [jup_nk (show (11 : Int) ≠ 9 by decide), hk]
  refine x_imul dX8_readOrder_41 ?_
  refine x_istore_n dX8_readOrder_42 (by decide) ?_
  show JX _ _ _ _ _ _ _ _ _ _ _ [_, _, _, _] _ _
  refine x_aload_n dX8_readOrder_43 rfl ?_
  refine gf_RX8_30 dX8_readOrder_44 rfl (by assumption) ?_
  rw [m12]
  refine x_iload_n dX8_readOrder_47 rfl ?_
  refine x_iload_n dX8_readOrder_48 rfl ?_
  refine x_iast dX8_readOrder_49 (by assumption) ⟨by omega, by omega⟩ ?_
  refine x_aload_n dX8_readOrder_50 rfl ?_
  refine gf_RX8_30 dX8_readOrder_51 rfl (by assumption) ?_
  rw [m12]
  refine x_iload_n dX8_readOrder_54 rfl ?_
  refine x_iconst dX8_readOrder_55 ?_
  refine x_iadd dX8_readOrder_56 ?_
  refine x_aload_n dX8_readOrder_57 rfl ?_
  refine x_iconst dX8_readOrder_58 ?_
  refine x_iload_n dX8_readOrder_59 rfl ?_
  refine x_iconst dX8_readOrder_60 ?_
  refine x_ic_eq (tgt := 69) dX8_readOrder_61 (by decide) ⟨by omega, by omega⟩ ⟨by omega, by omega⟩ (fun h => absurd h (by omega)) (fun hb61 => ?_)
  refine x_iload_n dX8_readOrder_64 rfl ?_
  refine x_iconst dX8_readOrder_65 ?_
  refine x_ic_le (tgt := 74) dX8_readOrder_66 (by decide) ⟨by omega, by omega⟩ ⟨by omega, by omega⟩ (fun hb66 => ?_) (fun h => (h (by omega)).elim)
  refine x_iconst dX8_readOrder_74 ?_
  have na : (jup (jup D M 9 (oE f n p)) (M + 7) (3 * k) 0) M 7 = n := by (repeat (first | rw [jup_eq] | rw [jup_ne (by omega)] | rw [jup_nk (by omega)])); first | exact hn | rfl
  have fa : (jup (jup D M 9 (oE f n p)) (M + 7) (3 * k) 0) (M + 6) = f := by (repeat (rw [jup_off (by omega)])); exact hf
  have pa : (jup (jup D M 9 (oE f n p)) (M + 7) (3 * k) 0) M 9 = (oE f n p) := by (repeat (first | rw [jup_eq] | rw [jup_ne (by omega)] | rw [jup_nk (by omega)]))
  have Fa : (jup (jup D M 9 (oE f n p)) (M + 7) (3 * k) 0) M 10 = F := by (repeat (first | rw [jup_eq] | rw [jup_ne (by omega)] | rw [jup_nk (by omega)])); exact hF
  have ka : (jup (jup D M 9 (oE f n p)) (M + 7) (3 * k) 0) M 11 = k := by (repeat (first | rw [jup_eq] | rw [jup_ne (by omega)] | rw [jup_nk (by omega)])); exact hk
  refine c_RX8_206p dX8_readOrder_75 rfl (kX8_number hM na fa n0 n1 fr pa (by omega) (by omega) Fa rF F0 ⟨by omega, by omega⟩ ⟨by omega, by omega⟩) (by assumption) (Nat.le_of_ble_eq_true rfl) (Nat.le_of_ble_eq_true rfl) ⟨Nat.le_refl _, Nat.le_refl _⟩ (fun w5 D5 h5 => ?_)
  obtain ⟨x1, x2, x3⟩ := h5
  rw [hx] at x3
  obtain ⟨⟨u, hu⟩, x4⟩ := x3
  subst hu
  replace x4 : D5 M 10 = q := x4
  have qb := oNm_q (f := f) (n := n) (p := oE f n p) (least := 0) (most := 3) eb.2
  rw [hx] at qb
  replace qb : oE f n p ≤ q ∧ q ≤ n := qb
  have nb : D5 M 7 = n := by rw [x1 M 7 (fun w => by have := w.2; omega)]; exact na
  have fb : D5 (M + 6) = f := by rw [← fa]; funext z; exact x1 _ z (fun w => by have := w.1; omega)
  have kb : D5 M 11 = k := by rw [x1 M 11 (fun w => by have := w.2; omega)]; exact ka
  refine x_iast dX8_readOrder_78 (by assumption) ⟨by omega, by omega⟩ ?_
  refine x_aload_n dX8_readOrder_79 rfl ?_
  refine gf_RX8_30 dX8_readOrder_80 rfl (by assumption) ?_
  rw [m12]
  refine x_iload_n dX8_readOrder_83 rfl ?_
  refine x_iconst dX8_readOrder_84 ?_
  refine x_iadd dX8_readOrder_85 ?_
  refine x_iload_n dX8_readOrder_86 rfl ?_
  refine x_iconst dX8_readOrder_87 ?_
  refine x_ic_ne (tgt := 95) dX8_readOrder_88 (by decide) ⟨by omega, by omega⟩ ⟨by omega, by omega⟩ (fun hb88 => ?_) (fun h => (h (by omega)).elim)
  refine x_iload_n dX8_readOrder_95 rfl ?_
  refine x_iconst dX8_readOrder_96 ?_
  refine x_ic_ne (tgt := 109) dX8_readOrder_97 (by decide) ⟨by omega, by omega⟩ ⟨by omega, by omega⟩ (fun hb97 => ?_) (fun h => (h (by omega)).elim)
  refine x_iload_n dX8_readOrder_109 rfl ?_
  refine x_iconst dX8_readOrder_110 ?_
  refine x_ic_le (tgt := 125) dX8_readOrder_111 (by decide) ⟨by omega, by omega⟩ ⟨by omega, by omega⟩ (fun hb111 => ?_) (fun h => (h (by omega)).elim)
  refine x_aload_n dX8_readOrder_125 rfl ?_
  refine x_iconst dX8_readOrder_126 ?_
  refine x_iconst dX8_readOrder_127 ?_
  have nc : (jup D5 (M + 7) (3 * k + 1) u) M 7 = n := by (repeat (first | rw [jup_eq] | rw [jup_ne (by omega)] | rw [jup_nk (by omega)])); exact nb
  have fc : (jup D5 (M + 7) (3 * k + 1) u) (M + 6) = f := by (repeat (rw [jup_off (by omega)])); exact fb
  have Fc : (jup D5 (M + 7) (3 * k + 1) u) M 10 = q := by (repeat (first | rw [jup_eq] | rw [jup_ne (by omega)] | rw [jup_nk (by omega)])); exact x4
  refine c_RX8_206d dX8_readOrder_128 rfl (kX8_number_F hM nc fc n0 n1 fr Fc ⟨by omega, by omega⟩ (by omega)) (by assumption) (Nat.le_of_ble_eq_true rfl) (Nat.le_of_ble_eq_true rfl) ⟨Nat.le_refl _, Nat.le_refl _⟩ ?_
  refine x_iast dX8_readOrder_131 (by assumption) ⟨by omega, by omega⟩ ?_
  refine (ro_tail (D := (jup (jup D5 (M + 7) (3 * k + 1) u) (M + 7) (3 * k + 2) 0)) (q := D5 M 9) (F := q) (k := k) hM (by (repeat (first | rw [jup_eq] | rw [jup_ne (by omega)] | rw [jup_nk (by omega)])); exact nb) (by (repeat (rw [jup_off (by omega)])); exact fb) n0 n1 fr (by (repeat (first | rw [jup_eq] | rw [jup_ne (by omega)] | rw [jup_nk (by omega)])); try rfl) x2.1 x2.2 (by (repeat (first | rw [jup_eq] | rw [jup_ne (by omega)] | rw [jup_nk (by omega)])); exact x4) ⟨by omega, by omega⟩ (by (repeat (first | rw [jup_eq] | rw [jup_ne (by omega)] | rw [jup_nk (by omega)])); exact kb)).mono ?_
  rintro v S2 D9 ⟨rfl, rfl, t1, t2, t3⟩
  refine ⟨rfl, rfl, fun y a b => ?_, fun z a b e => ?_, fun j hj => ?_, ?_⟩
  · funext z; rw [t3 y z (fun w => a w.1)]; (repeat (first | rw [jup_eq] | rw [jup_ne (by omega)] | rw [jup_nk (by omega)])); rw [x1 y z (fun w => a w.1)]; (repeat (first | rw [jup_eq] | rw [jup_ne (by omega)] | rw [jup_nk (by omega)]))
  · rw [t3 M z (fun w => by have := w.2; omega)]; (repeat (first | rw [jup_eq] | rw [jup_ne (by omega)] | rw [jup_nk (by omega)])); rw [x1 M z (fun w => by have := w.2; omega)]; (repeat (first | rw [jup_eq] | rw [jup_ne (by omega)] | rw [jup_nk (by omega)]))
  · rw [t3 _ j (fun w => by have := w.1; omega)]; (repeat (first | rw [jup_eq] | rw [jup_ne (by omega)] | rw [jup_nk (by omega)])); rw [x1 _ j (fun w => by have := w.1; omega)]; (repeat (first | rw [jup_eq] | rw [jup_ne (by omega)] | rw [jup_nk (by omega)]))
  · rw [t1]; exact if_neg (by omega)
theorem ro_0_yn {G : JG} {S : JS} {D : JD} {d : Nat} {M n : Int} {f : Int → Int} {p F k : Int} {q a q5 : Int} (hM : jMo S M) (hn : D M 7 = n) (hf : D (M + 6) = f) (n0 : 0 ≤ n) (n1 : n ≤ 60) (fr : ∀ z : Int, 0 ≤ f z ∧ f z ≤ 65535) (hp : D M 9 = p) (p0 : 0 ≤ p) (p1 : p ≤ n) (hF : D M 10 = F) (rF : i32 F) (F0 : F < 0) (hk : D M 11 = k) (k0 : 0 ≤ k) (k1 : k ≤ 25) (hW : oW f p (oE f n p) = 0) (hx : oNm f n (oE f n p) 0 3 = (some a, q)) (hy : oNm f n q 0 1 = (none, q5)) : JM G yX8_readOrder cX8_readOrder 4 none (d + 2) (0, 0) S D [.inr (.inr (some M))] (jnP S (fun D2 => jRx D D2 M n F k f (oRd f n p))) := by
  obtain ⟨mk, m0, m1, m2, m4, m5, m8, m12, y1, l1, y2, l2, y3, l3, y4, l4, y5, l5, y6, l6, y7, l7⟩ := id hM
  have eb := oE_b (f := f) p1
  have hres : oRd f n p = (none, q5) := by
    unfold oRd
    rw [if_neg (by rw [hW]; decide), hW]
    unfold oAr
    rw [show oM1 0 = 3 from rfl, hx]
    show (if (0 : Int) = 2 then ((some (0, a, 0), q) : Option oOrd × Int) else match oNm f n q (oL2 0) (oM2 0) with | (none, q2) => (none, q2) | (some b, q2) => (some (0, a, b), q2)) = _
    rw [if_neg (by decide), show oL2 0 = 0 from rfl, show oM2 0 = 1 from rfl, hy]
  rw [hres]
  show JX _ _ _ _ _ _ _ _ _ _ _ [_, _, _, _] _ _
  refine x_aload_n dX8_readOrder_0 rfl ?_
  refine x_aload_n dX8_readOrder_1 rfl ?_
  refine gf_RX8_190 dX8_readOrder_2 rfl (by assumption) ?_
  rw [hp]
  refine c_RX8_197d dX8_readOrder_5 rfl (kX8_endOf hM hn hf n0 n1 fr p0 p1) (by assumption) (Nat.le_of_ble_eq_true rfl) (Nat.le_of_ble_eq_true rfl) ⟨Nat.le_refl _, Nat.le_refl _⟩ ?_
  refine x_istore_n dX8_readOrder_8 (by decide) ?_
  show JX _ _ _ _ _ _ _ _ _ _ _ [_, _, _, _] _ _
  refine x_aload_n dX8_readOrder_9 rfl ?_
  refine x_aload_n dX8_readOrder_10 rfl ?_
  refine gf_RX8_190 dX8_readOrder_11 rfl (by assumption) ?_
  rw [hp]
  refine x_iload_n dX8_readOrder_14 rfl ?_
  refine c_RX8_200d dX8_readOrder_15 rfl (kX8_word hM hn hf n0 n1 fr p0 eb.1 eb.2) (by assumption) (Nat.le_of_ble_eq_true rfl) (Nat.le_of_ble_eq_true rfl) ⟨Nat.le_refl _, Nat.le_refl _⟩ ?_
  rw [hW, if_neg (show ¬ (0 : Int) < 0 by decide)]
  refine x_istore_n dX8_readOrder_18 (by decide) ?_
  show JX _ _ _ _ _ _ _ _ _ _ _ [_, _, _, _] _ _
  refine x_iload_n dX8_readOrder_19 rfl ?_
  refine x_if_ge (tgt := 31) dX8_readOrder_20 (by decide) ⟨by omega, by omega⟩ (fun hb20 => ?_) (fun h => (h (by omega)).elim)
  refine x_aload_n dX8_readOrder_31 rfl ?_
  refine x_iload_n dX8_readOrder_32 rfl ?_
  refine pf_RX8_190 dX8_readOrder_33 rfl (by assumption) ?_
  refine x_iconst dX8_readOrder_36 ?_
  refine x_aload_n dX8_readOrder_37 rfl ?_
  refine gf_RX8_203 dX8_readOrder_38 rfl (by assumption) ?_
  rw [jup_nk (show (11 : Int) ≠ 9 by decide), hk]
  refine x_imul dX8_readOrder_41 ?_
  refine x_istore_n dX8_readOrder_42 (by decide) ?_
  show JX _ _ _ _ _ _ _ _ _ _ _ [_, _, _, _] _ _
  refine x_aload_n dX8_readOrder_43 rfl ?_
  refine gf_RX8_30 dX8_readOrder_44 rfl (by assumption) ?_
  rw [m12]
  refine x_iload_n dX8_readOrder_47 rfl ?_
  refine x_iload_n dX8_readOrder_48 rfl ?_
  refine x_iast dX8_readOrder_49 (by assumption) ⟨by omega, by omega⟩ ?_
  refine x_aload_n dX8_readOrder_50 rfl ?_
  refine gf_RX8_30 dX8_readOrder_51 rfl (by assumption) ?_
  rw [m12]
  refine x_iload_n dX8_readOrder_54 rfl ?_
  refine x_iconst dX8_readOrder_55 ?_
  refine x_iadd dX8_readOrder_56 ?_
  refine x_aload_n dX8_readOrder_57 rfl ?_
  refine x_iconst dX8_readOrder_58 ?_
  refine x_iload_n dX8_readOrder_59 rfl ?_
  refine x_iconst dX8_readOrder_60 ?_
  refine x_ic_eq (tgt := 69) dX8_readOrder_61 (by decide) ⟨by omega, by omega⟩ ⟨by omega, by omega⟩ (fun h => absurd h (by omega)) (fun hb61 => ?_)
  refine x_iload_n dX8_readOrder_64 rfl ?_
  refine x_iconst dX8_readOrder_65 ?_
  refine x_ic_le (tgt := 74) dX8_readOrder_66 (by decide) ⟨by omega, by omega⟩ ⟨by omega, by omega⟩ (fun hb66 => ?_) (fun h => (h (by omega)).elim)
  refine x_iconst dX8_readOrder_74 ?_
  have na : (jup (jup D M 9 (oE f n p)) (M + 7) (3 * k) 0) M 7 = n := by (repeat (first | rw [jup_eq] | rw [jup_ne (by omega)] | rw [jup_nk (by omega)])); first | exact hn | rfl
  have fa : (jup (jup D M 9 (oE f n p)) (M + 7) (3 * k) 0) (M + 6) = f := by (repeat (rw [jup_off (by omega)])); exact hf
  have pa : (jup (jup D M 9 (oE f n p)) (M + 7) (3 * k) 0) M 9 = (oE f n p) := by (repeat (first | rw [jup_eq] | rw [jup_ne (by omega)] | rw [jup_nk (by omega)]))
  have Fa : (jup (jup D M 9 (oE f n p)) (M + 7) (3 * k) 0) M 10 = F := by (repeat (first | rw [jup_eq] | rw [jup_ne (by omega)] | rw [jup_nk (by omega)])); exact hF
  have ka : (jup (jup D M 9 (oE f n p)) (M + 7) (3 * k) 0) M 11 = k := by (repeat (first | rw [jup_eq] | rw [jup_ne (by omega)] | rw [jup_nk (by omega)])); exact hk
  refine c_RX8_206p dX8_readOrder_75 rfl (kX8_number hM na fa n0 n1 fr pa (by omega) (by omega) Fa rF F0 ⟨by omega, by omega⟩ ⟨by omega, by omega⟩) (by assumption) (Nat.le_of_ble_eq_true rfl) (Nat.le_of_ble_eq_true rfl) ⟨Nat.le_refl _, Nat.le_refl _⟩ (fun w5 D5 h5 => ?_)
  obtain ⟨x1, x2, x3⟩ := h5
  rw [hx] at x3
  obtain ⟨hu, x4, x5⟩ := (x3 : w5 = .inl a ∧ D5 M 9 = q ∧ D5 M 10 = _)
  subst hu
  have qb := oNm_b eb.2 hx
  have Fb : D5 M 10 = F := by rw [x5]; exact Fa
  have nb : D5 M 7 = n := by rw [x1 M 7 (fun w => by have := w.2; omega)]; exact na
  have fb : D5 (M + 6) = f := by rw [← fa]; funext z; exact x1 _ z (fun w => by have := w.1; omega)
  have kb : D5 M 11 = k := by rw [x1 M 11 (fun w => by have := w.2; omega)]; exact ka
  refine x_iast dX8_readOrder_78 (by assumption) ⟨by omega, by omega⟩ ?_
  refine x_aload_n dX8_readOrder_79 rfl ?_
  refine gf_RX8_30 dX8_readOrder_80 rfl (by assumption) ?_
  rw [m12]
  refine x_iload_n dX8_readOrder_83 rfl ?_
  refine x_iconst dX8_readOrder_84 ?_
  refine x_iadd dX8_readOrder_85 ?_
  refine x_iload_n dX8_readOrder_86 rfl ?_
  refine x_iconst dX8_readOrder_87 ?_
  refine x_ic_ne (tgt := 95) dX8_readOrder_88 (by decide) ⟨by omega, by omega⟩ ⟨by omega, by omega⟩ (fun hb88 => ?_) (fun h => (h (by omega)).elim)
  refine x_iload_n dX8_readOrder_95 rfl ?_
  refine x_iconst dX8_readOrder_96 ?_
  refine x_ic_ne (tgt := 109) dX8_readOrder_97 (by decide) ⟨by omega, by omega⟩ ⟨by omega, by omega⟩ (fun hb97 => ?_) (fun h => (h (by omega)).elim)
  refine x_iload_n dX8_readOrder_109 rfl ?_
  refine x_iconst dX8_readOrder_110 ?_
  refine x_ic_le (tgt := 125) dX8_readOrder_111 (by decide) ⟨by omega, by omega⟩ ⟨by omega, by omega⟩ (fun hb111 => ?_) (fun h => (h (by omega)).elim)
  refine x_aload_n dX8_readOrder_125 rfl ?_
  refine x_iconst dX8_readOrder_126 ?_
  refine x_iconst dX8_readOrder_127 ?_
  have nc : (jup D5 (M + 7) (3 * k + 1) a) M 7 = n := by (repeat (first | rw [jup_eq] | rw [jup_ne (by omega)] | rw [jup_nk (by omega)])); exact nb
  have fc : (jup D5 (M + 7) (3 * k + 1) a) (M + 6) = f := by (repeat (rw [jup_off (by omega)])); exact fb
  have pc : (jup D5 (M + 7) (3 * k + 1) a) M 9 = q := by (repeat (first | rw [jup_eq] | rw [jup_ne (by omega)] | rw [jup_nk (by omega)])); exact x4
  have Fc : (jup D5 (M + 7) (3 * k + 1) a) M 10 = F := by (repeat (first | rw [jup_eq] | rw [jup_ne (by omega)] | rw [jup_nk (by omega)])); exact Fb
  have kc : (jup D5 (M + 7) (3 * k + 1) a) M 11 = k := by (repeat (first | rw [jup_eq] | rw [jup_ne (by omega)] | rw [jup_nk (by omega)])); exact kb
  refine c_RX8_206p dX8_readOrder_128 rfl (kX8_number hM nc fc n0 n1 fr pc (by omega) (by omega) Fc rF F0 ⟨by omega, by omega⟩ ⟨by omega, by omega⟩) (by assumption) (Nat.le_of_ble_eq_true rfl) (Nat.le_of_ble_eq_true rfl) ⟨Nat.le_refl _, Nat.le_refl _⟩ (fun w6 D6 h6 => ?_)
  obtain ⟨z1, z2, z3⟩ := h6
  rw [hy] at z3
  obtain ⟨⟨u, hu⟩, z4⟩ := z3
  subst hu
  replace z4 : D6 M 10 = q5 := z4
  have qc := oNm_q (f := f) (n := n) (p := q) (least := 0) (most := 1) qb.2.1
  rw [hy] at qc
  replace qc : q ≤ q5 ∧ q5 ≤ n := qc
  have nd : D6 M 7 = n := by rw [z1 M 7 (fun w => by have := w.2; omega)]; exact nc
  have fd : D6 (M + 6) = f := by rw [← fc]; funext z; exact z1 _ z (fun w => by have := w.1; omega)
  have kd : D6 M 11 = k := by rw [z1 M 11 (fun w => by have := w.2; omega)]; exact kc
  refine x_iast dX8_readOrder_131 (by assumption) ⟨by omega, by omega⟩ ?_
  refine (ro_tail (D := (jup D6 (M + 7) (3 * k + 2) u)) (q := D6 M 9) (F := q5) (k := k) hM (by (repeat (first | rw [jup_eq] | rw [jup_ne (by omega)] | rw [jup_nk (by omega)])); exact nd) (by (repeat (rw [jup_off (by omega)])); exact fd) n0 n1 fr (by (repeat (first | rw [jup_eq] | rw [jup_ne (by omega)] | rw [jup_nk (by omega)])); try rfl) z2.1 z2.2 (by (repeat (first | rw [jup_eq] | rw [jup_ne (by omega)] | rw [jup_nk (by omega)])); exact z4) ⟨by omega, by omega⟩ (by (repeat (first | rw [jup_eq] | rw [jup_ne (by omega)] | rw [jup_nk (by omega)])); exact kd)).mono ?_
  rintro v S2 D9 ⟨rfl, rfl, t1, t2, t3⟩
  refine ⟨rfl, rfl, fun y a b => ?_, fun z a b e => ?_, fun j hj => ?_, ?_⟩
  · funext z; rw [t3 y z (fun w => a w.1)]; (repeat (first | rw [jup_eq] | rw [jup_ne (by omega)] | rw [jup_nk (by omega)])); rw [z1 y z (fun w => a w.1)]; (repeat (first | rw [jup_eq] | rw [jup_ne (by omega)] | rw [jup_nk (by omega)])); rw [x1 y z (fun w => a w.1)]; (repeat (first | rw [jup_eq] | rw [jup_ne (by omega)] | rw [jup_nk (by omega)]))
  · rw [t3 M z (fun w => by have := w.2; omega)]; (repeat (first | rw [jup_eq] | rw [jup_ne (by omega)] | rw [jup_nk (by omega)])); rw [z1 M z (fun w => by have := w.2; omega)]; (repeat (first | rw [jup_eq] | rw [jup_ne (by omega)] | rw [jup_nk (by omega)])); rw [x1 M z (fun w => by have := w.2; omega)]; (repeat (first | rw [jup_eq] | rw [jup_ne (by omega)] | rw [jup_nk (by omega)]))
  · rw [t3 _ j (fun w => by have := w.1; omega)]; (repeat (first | rw [jup_eq] | rw [jup_ne (by omega)] | rw [jup_nk (by omega)])); rw [z1 _ j (fun w => by have := w.1; omega)]; (repeat (first | rw [jup_eq] | rw [jup_ne (by omega)] | rw [jup_nk (by omega)])); rw [x1 _ j (fun w => by have := w.1; omega)]; (repeat (first | rw [jup_eq] | rw [jup_ne (by omega)] | rw [jup_nk (by omega)]))
  · rw [t1]; exact if_neg (by omega)
theorem ro_0_yy {G : JG} {S : JS} {D : JD} {d : Nat} {M n : Int} {f : Int → Int} {p F k : Int} {q a q5 b : Int} (hM : jMo S M) (hn : D M 7 = n) (hf : D (M + 6) = f) (n0 : 0 ≤ n) (n1 : n ≤ 60) (fr : ∀ z : Int, 0 ≤ f z ∧ f z ≤ 65535) (hp : D M 9 = p) (p0 : 0 ≤ p) (p1 : p ≤ n) (hF : D M 10 = F) (rF : i32 F) (F0 : F < 0) (hk : D M 11 = k) (k0 : 0 ≤ k) (k1 : k ≤ 25) (hW : oW f p (oE f n p) = 0) (hx : oNm f n (oE f n p) 0 3 = (some a, q)) (hy : oNm f n q 0 1 = (some b, q5)) : JM G yX8_readOrder cX8_readOrder 4 none (d + 2) (0, 0) S D [.inr (.inr (some M))] (jnP S (fun D2 => jRx D D2 M n F k f (oRd f n p))) := by
  obtain ⟨mk, m0, m1, m2, m4, m5, m8, m12, y1, l1, y2, l2, y3, l3, y4, l4, y5, l5, y6, l6, y7, l7⟩ := id hM
  have eb := oE_b (f := f) p1
  have hres : oRd f n p = (some (0, a, b), q5) := by
    unfold oRd
    rw [if_neg (by rw [hW]; decide), hW]
    unfold oAr
    rw [show oM1 0 = 3 from rfl, hx]
    show (if (0 : Int) = 2 then ((some (0, a, 0), q) : Option oOrd × Int) else match oNm f n q (oL2 0) (oM2 0) with | (none, q2) => (none, q2) | (some b, q2) => (some (0, a, b), q2)) = _
    rw [if_neg (by decide), show oL2 0 = 0 from rfl, show oM2 0 = 1 from rfl, hy]
  rw [hres]
  show JX _ _ _ _ _ _ _ _ _ _ _ [_, _, _, _] _ _
  refine x_aload_n dX8_readOrder_0 rfl ?_
  refine x_aload_n dX8_readOrder_1 rfl ?_
  refine gf_RX8_190 dX8_readOrder_2 rfl (by assumption) ?_
  rw [hp]
  refine c_RX8_197d dX8_readOrder_5 rfl (kX8_endOf hM hn hf n0 n1 fr p0 p1) (by assumption) (Nat.le_of_ble_eq_true rfl) (Nat.le_of_ble_eq_true rfl) ⟨Nat.le_refl _, Nat.le_refl _⟩ ?_
  refine x_istore_n dX8_readOrder_8 (by decide) ?_
  show JX _ _ _ _ _ _ _ _ _ _ _ [_, _, _, _] _ _
  refine x_aload_n dX8_readOrder_9 rfl ?_
  refine x_aload_n dX8_readOrder_10 rfl ?_
  refine gf_RX8_190 dX8_readOrder_11 rfl (by assumption) ?_
  rw [hp]
  refine x_iload_n dX8_readOrder_14 rfl ?_
  refine c_RX8_200d dX8_readOrder_15 rfl (kX8_word hM hn hf n0 n1 fr p0 eb.1 eb.2) (by assumption) (Nat.le_of_ble_eq_true rfl) (Nat.le_of_ble_eq_true rfl) ⟨Nat.le_refl _, Nat.le_refl _⟩ ?_
  rw [hW, if_neg (show ¬ (0 : Int) < 0 by decide)]
  refine x_istore_n dX8_readOrder_18 (by decide) ?_
  show JX _ _ _ _ _ _ _ _ _ _ _ [_, _, _, _] _ _
  refine x_iload_n dX8_readOrder_19 rfl ?_
  refine x_if_ge (tgt := 31) dX8_readOrder_20 (by decide) ⟨by omega, by omega⟩ (fun hb20 => ?_) (fun h => (h (by omega)).elim)
  refine x_aload_n dX8_readOrder_31 rfl ?_
  refine x_iload_n dX8_readOrder_32 rfl ?_
  refine pf_RX8_190 dX8_readOrder_33 rfl (by assumption) ?_
  refine x_iconst dX8_readOrder_36 ?_
  refine x_aload_n dX8_readOrder_37 rfl ?_
  refine gf_RX8_203 dX8_readOrder_38 rfl (by assumption) ?_
  rw [jup_nk (show (11 : Int) ≠ 9 by decide), hk]
  refine x_imul dX8_readOrder_41 ?_
  refine x_istore_n dX8_readOrder_42 (by decide) ?_
  show JX _ _ _ _ _ _ _ _ _ _ _ [_, _, _, _] _ _
  refine x_aload_n dX8_readOrder_43 rfl ?_
  refine gf_RX8_30 dX8_readOrder_44 rfl (by assumption) ?_
  rw [m12]
  refine x_iload_n dX8_readOrder_47 rfl ?_
  refine x_iload_n dX8_readOrder_48 rfl ?_
  refine x_iast dX8_readOrder_49 (by assumption) ⟨by omega, by omega⟩ ?_
  refine x_aload_n dX8_readOrder_50 rfl ?_
  refine gf_RX8_30 dX8_readOrder_51 rfl (by assumption) ?_
  rw [m12]
  refine x_iload_n dX8_readOrder_54 rfl ?_
  refine x_iconst dX8_readOrder_55 ?_
  refine x_iadd dX8_readOrder_56 ?_
  refine x_aload_n dX8_readOrder_57 rfl ?_
  refine x_iconst dX8_readOrder_58 ?_
  refine x_iload_n dX8_readOrder_59 rfl ?_
  refine x_iconst dX8_readOrder_60 ?_
  refine x_ic_eq (tgt := 69) dX8_readOrder_61 (by decide) ⟨by omega, by omega⟩ ⟨by omega, by omega⟩ (fun h => absurd h (by omega)) (fun hb61 => ?_)
  refine x_iload_n dX8_readOrder_64 rfl ?_
  refine x_iconst dX8_readOrder_65 ?_
  refine x_ic_le (tgt := 74) dX8_readOrder_66 (by decide) ⟨by omega, by omega⟩ ⟨by omega, by omega⟩ (fun hb66 => ?_) (fun h => (h (by omega)).elim)
  refine x_iconst dX8_readOrder_74 ?_
  have na : (jup (jup D M 9 (oE f n p)) (M + 7) (3 * k) 0) M 7 = n := by (repeat (first | rw [jup_eq] | rw [jup_ne (by omega)] | rw [jup_nk (by omega)])); first | exact hn | rfl
  have fa : (jup (jup D M 9 (oE f n p)) (M + 7) (3 * k) 0) (M + 6) = f := by (repeat (rw [jup_off (by omega)])); exact hf
  have pa : (jup (jup D M 9 (oE f n p)) (M + 7) (3 * k) 0) M 9 = (oE f n p) := by (repeat (first | rw [jup_eq] | rw [jup_ne (by omega)] | rw [jup_nk (by omega)]))
  have Fa : (jup (jup D M 9 (oE f n p)) (M + 7) (3 * k) 0) M 10 = F := by (repeat (first | rw [jup_eq] | rw [jup_ne (by omega)] | rw [jup_nk (by omega)])); exact hF
  have ka : (jup (jup D M 9 (oE f n p)) (M + 7) (3 * k) 0) M 11 = k := by (repeat (first | rw [jup_eq] | rw [jup_ne (by omega)] | rw [jup_nk (by omega)])); exact hk
  refine c_RX8_206p dX8_readOrder_75 rfl (kX8_number hM na fa n0 n1 fr pa (by omega) (by omega) Fa rF F0 ⟨by omega, by omega⟩ ⟨by omega, by omega⟩) (by assumption) (Nat.le_of_ble_eq_true rfl) (Nat.le_of_ble_eq_true rfl) ⟨Nat.le_refl _, Nat.le_refl _⟩ (fun w5 D5 h5 => ?_)
  obtain ⟨x1, x2, x3⟩ := h5
  rw [hx] at x3
  obtain ⟨hu, x4, x5⟩ := (x3 : w5 = .inl a ∧ D5 M 9 = q ∧ D5 M 10 = _)
  subst hu
  have qb := oNm_b eb.2 hx
  have Fb : D5 M 10 = F := by rw [x5]; exact Fa
  have nb : D5 M 7 = n := by rw [x1 M 7 (fun w => by have := w.2; omega)]; exact na
  have fb : D5 (M + 6) = f := by rw [← fa]; funext z; exact x1 _ z (fun w => by have := w.1; omega)
  have kb : D5 M 11 = k := by rw [x1 M 11 (fun w => by have := w.2; omega)]; exact ka
  refine x_iast dX8_readOrder_78 (by assumption) ⟨by omega, by omega⟩ ?_
  refine x_aload_n dX8_readOrder_79 rfl ?_
  refine gf_RX8_30 dX8_readOrder_80 rfl (by assumption) ?_
  rw [m12]
  refine x_iload_n dX8_readOrder_83 rfl ?_
  refine x_iconst dX8_readOrder_84 ?_
  refine x_iadd dX8_readOrder_85 ?_
  refine x_iload_n dX8_readOrder_86 rfl ?_
  refine x_iconst dX8_readOrder_87 ?_
  refine x_ic_ne (tgt := 95) dX8_readOrder_88 (by decide) ⟨by omega, by omega⟩ ⟨by omega, by omega⟩ (fun hb88 => ?_) (fun h => (h (by omega)).elim)
  refine x_iload_n dX8_readOrder_95 rfl ?_
  refine x_iconst dX8_readOrder_96 ?_
  refine x_ic_ne (tgt := 109) dX8_readOrder_97 (by decide) ⟨by omega, by omega⟩ ⟨by omega, by omega⟩ (fun hb97 => ?_) (fun h => (h (by omega)).elim)
  refine x_iload_n dX8_readOrder_109 rfl ?_
  refine x_iconst dX8_readOrder_110 ?_
  refine x_ic_le (tgt := 125) dX8_readOrder_111 (by decide) ⟨by omega, by omega⟩ ⟨by omega, by omega⟩ (fun hb111 => ?_) (fun h => (h (by omega)).elim)
  refine x_aload_n dX8_readOrder_125 rfl ?_
  refine x_iconst dX8_readOrder_126 ?_
  refine x_iconst dX8_readOrder_127 ?_
  have nc : (jup D5 (M + 7) (3 * k + 1) a) M 7 = n := by (repeat (first | rw [jup_eq] | rw [jup_ne (by omega)] | rw [jup_nk (by omega)])); exact nb
  have fc : (jup D5 (M + 7) (3 * k + 1) a) (M + 6) = f := by (repeat (rw [jup_off (by omega)])); exact fb
  have pc : (jup D5 (M + 7) (3 * k + 1) a) M 9 = q := by (repeat (first | rw [jup_eq] | rw [jup_ne (by omega)] | rw [jup_nk (by omega)])); exact x4
  have Fc : (jup D5 (M + 7) (3 * k + 1) a) M 10 = F := by (repeat (first | rw [jup_eq] | rw [jup_ne (by omega)] | rw [jup_nk (by omega)])); exact Fb
  have kc : (jup D5 (M + 7) (3 * k + 1) a) M 11 = k := by (repeat (first | rw [jup_eq] | rw [jup_ne (by omega)] | rw [jup_nk (by omega)])); exact kb
  refine c_RX8_206p dX8_readOrder_128 rfl (kX8_number hM nc fc n0 n1 fr pc (by omega) (by omega) Fc rF F0 ⟨by omega, by omega⟩ ⟨by omega, by omega⟩) (by assumption) (Nat.le_of_ble_eq_true rfl) (Nat.le_of_ble_eq_true rfl) ⟨Nat.le_refl _, Nat.le_refl _⟩ (fun w6 D6 h6 => ?_)
  obtain ⟨z1, z2, z3⟩ := h6
  rw [hy] at z3
  obtain ⟨hu, z4, z5⟩ := (z3 : w6 = .inl b ∧ D6 M 9 = q5 ∧ D6 M 10 = _)
  subst hu
  have qc := oNm_b qb.2.1 hy
  have Fd : D6 M 10 = F := by rw [z5]; exact Fc
  have nd : D6 M 7 = n := by rw [z1 M 7 (fun w => by have := w.2; omega)]; exact nc
  have fd : D6 (M + 6) = f := by rw [← fc]; funext z; exact z1 _ z (fun w => by have := w.1; omega)
  have kd : D6 M 11 = k := by rw [z1 M 11 (fun w => by have := w.2; omega)]; exact kc
  refine x_iast dX8_readOrder_131 (by assumption) ⟨by omega, by omega⟩ ?_
  refine (ro_tail (D := (jup D6 (M + 7) (3 * k + 2) b)) (q := q5) (F := F) (k := k) hM (by (repeat (first | rw [jup_eq] | rw [jup_ne (by omega)] | rw [jup_nk (by omega)])); exact nd) (by (repeat (rw [jup_off (by omega)])); exact fd) n0 n1 fr (by (repeat (first | rw [jup_eq] | rw [jup_ne (by omega)] | rw [jup_nk (by omega)])); exact z4) (by omega) (by omega) (by (repeat (first | rw [jup_eq] | rw [jup_ne (by omega)] | rw [jup_nk (by omega)])); exact Fd) rF (by (repeat (first | rw [jup_eq] | rw [jup_ne (by omega)] | rw [jup_nk (by omega)])); exact kd)).mono ?_
  rintro v S2 D9 ⟨rfl, rfl, t1, t2, t3⟩
  refine ⟨rfl, rfl, fun y a b => ?_, fun z a b e => ?_, fun j hj => ?_, ?_⟩
  · funext z; rw [t3 y z (fun w => a w.1)]; (repeat (first | rw [jup_eq] | rw [jup_ne (by omega)] | rw [jup_nk (by omega)])); rw [z1 y z (fun w => a w.1)]; (repeat (first | rw [jup_eq] | rw [jup_ne (by omega)] | rw [jup_nk (by omega)])); rw [x1 y z (fun w => a w.1)]; (repeat (first | rw [jup_eq] | rw [jup_ne (by omega)] | rw [jup_nk (by omega)]))
  · rw [t3 M z (fun w => by have := w.2; omega)]; (repeat (first | rw [jup_eq] | rw [jup_ne (by omega)] | rw [jup_nk (by omega)])); rw [z1 M z (fun w => by have := w.2; omega)]; (repeat (first | rw [jup_eq] | rw [jup_ne (by omega)] | rw [jup_nk (by omega)])); rw [x1 M z (fun w => by have := w.2; omega)]; (repeat (first | rw [jup_eq] | rw [jup_ne (by omega)] | rw [jup_nk (by omega)]))
  · rw [t3 _ j (fun w => by have := w.1; omega)]; (repeat (first | rw [jup_eq] | rw [jup_ne (by omega)] | rw [jup_nk (by omega)])); rw [z1 _ j (fun w => by have := w.1; omega)]; (repeat (first | rw [jup_eq] | rw [jup_ne (by omega)] | rw [jup_nk (by omega)])); rw [x1 _ j (fun w => by have := w.1; omega)]; (repeat (first | rw [jup_eq] | rw [jup_ne (by omega)] | rw [jup_nk (by omega)]))
  · refine ⟨?_, t2, ?_, ?_, ?_, ?_⟩
    · rw [t3 M 9 (fun w => by have := w.2; omega)]; (repeat (first | rw [jup_eq] | rw [jup_ne (by omega)] | rw [jup_nk (by omega)])); exact z4
    · rw [t3 _ _ (fun w => by have := w.1; omega)]; (repeat (first | rw [jup_eq] | rw [jup_ne (by omega)] | rw [jup_nk (by omega)])); rw [z1 _ _ (fun w => by have := w.1; omega)]; (repeat (first | rw [jup_eq] | rw [jup_ne (by omega)] | rw [jup_nk (by omega)])); rw [x1 _ _ (fun w => by have := w.1; omega)]; (repeat (first | rw [jup_eq] | rw [jup_ne (by omega)] | rw [jup_nk (by omega)]))
    · rw [t3 _ _ (fun w => by have := w.1; omega)]; (repeat (first | rw [jup_eq] | rw [jup_ne (by omega)] | rw [jup_nk (by omega)])); rw [z1 _ _ (fun w => by have := w.1; omega)]; (repeat (first | rw [jup_eq] | rw [jup_ne (by omega)] | rw [jup_nk (by omega)]))
    · rw [t3 _ _ (fun w => by have := w.1; omega)]; (repeat (first | rw [jup_eq] | rw [jup_ne (by omega)] | rw [jup_nk (by omega)]))
    · rw [t1]; show _ = if q5 < n ∧ f q5 ≠ 59 then q5 else F; split <;> split <;> omega
theorem ro_1_n {G : JG} {S : JS} {D : JD} {d : Nat} {M n : Int} {f : Int → Int} {p F k : Int} {q : Int} (hM : jMo S M) (hn : D M 7 = n) (hf : D (M + 6) = f) (n0 : 0 ≤ n) (n1 : n ≤ 60) (fr : ∀ z : Int, 0 ≤ f z ∧ f z ≤ 65535) (hp : D M 9 = p) (p0 : 0 ≤ p) (p1 : p ≤ n) (hF : D M 10 = F) (rF : i32 F) (F0 : F < 0) (hk : D M 11 = k) (k0 : 0 ≤ k) (k1 : k ≤ 25) (hW : oW f p (oE f n p) = 1) (hx : oNm f n (oE f n p) 0 3 = (none, q)) : JM G yX8_readOrder cX8_readOrder 4 none (d + 2) (0, 0) S D [.inr (.inr (some M))] (jnP S (fun D2 => jRx D D2 M n F k f (oRd f n p))) := by
  obtain ⟨mk, m0, m1, m2, m4, m5, m8, m12, y1, l1, y2, l2, y3, l3, y4, l4, y5, l5, y6, l6, y7, l7⟩ := id hM
  have eb := oE_b (f := f) p1
  have hres : oRd f n p = (none, q) := by
    unfold oRd
    rw [if_neg (by rw [hW]; decide), hW]
    unfold oAr
    rw [show oM1 1 = 3 from rfl, hx]
  rw [hres]
  show JX _ _ _ _ _ _ _ _ _ _ _ [_, _, _, _] _ _
  refine x_aload_n dX8_readOrder_0 rfl ?_
  refine x_aload_n dX8_readOrder_1 rfl ?_
  refine gf_RX8_190 dX8_readOrder_2 rfl (by assumption) ?_
  rw [hp]
  refine c_RX8_197d dX8_readOrder_5 rfl (kX8_endOf hM hn hf n0 n1 fr p0 p1) (by assumption) (Nat.le_of_ble_eq_true rfl) (Nat.le_of_ble_eq_true rfl) ⟨Nat.le_refl _, Nat.le_refl _⟩ ?_
  refine x_istore_n dX8_readOrder_8 (by decide) ?_
  show JX _ _ _ _ _ _ _ _ _ _ _ [_, _, _, _] _ _
  refine x_aload_n dX8_readOrder_9 rfl ?_
  refine x_aload_n dX8_readOrder_10 rfl ?_
  refine gf_RX8_190 dX8_readOrder_11 rfl (by assumption) ?_
  rw [hp]
  refine x_iload_n dX8_readOrder_14 rfl ?_
  refine c_RX8_200d dX8_readOrder_15 rfl (kX8_word hM hn hf n0 n1 fr p0 eb.1 eb.2) (by assumption) (Nat.le_of_ble_eq_true rfl) (Nat.le_of_ble_eq_true rfl) ⟨Nat.le_refl _, Nat.le_refl _⟩ ?_
  rw [hW, if_neg (show ¬ (1 : Int) < 0 by decide)]
  refine x_istore_n dX8_readOrder_18 (by decide) ?_
  show JX _ _ _ _ _ _ _ _ _ _ _ [_, _, _, _] _ _
  refine x_iload_n dX8_readOrder_19 rfl ?_
  refine x_if_ge (tgt := 31) dX8_readOrder_20 (by decide) ⟨by omega, by omega⟩ (fun hb20 => ?_) (fun h => (h (by omega)).elim)
  refine x_aload_n dX8_readOrder_31 rfl ?_
  refine x_iload_n dX8_readOrder_32 rfl ?_
  refine pf_RX8_190 dX8_readOrder_33 rfl (by assumption) ?_
  refine x_iconst dX8_readOrder_36 ?_
  refine x_aload_n dX8_readOrder_37 rfl ?_
  refine gf_RX8_203 dX8_readOrder_38 rfl (by assumption) ?_
  rw [jup_nk (show (11 : Int) ≠ 9 by decide), hk]
  refine x_imul dX8_readOrder_41 ?_
  refine x_istore_n dX8_readOrder_42 (by decide) ?_
  show JX _ _ _ _ _ _ _ _ _ _ _ [_, _, _, _] _ _
  refine x_aload_n dX8_readOrder_43 rfl ?_
  refine gf_RX8_30 dX8_readOrder_44 rfl (by assumption) ?_
  rw [m12]
  refine x_iload_n dX8_readOrder_47 rfl ?_
  refine x_iload_n dX8_readOrder_48 rfl ?_
  refine x_iast dX8_readOrder_49 (by assumption) ⟨by omega, by omega⟩ ?_
  refine x_aload_n dX8_readOrder_50 rfl ?_
  refine gf_RX8_30 dX8_readOrder_51 rfl (by assumption) ?_
  rw [m12]
  refine x_iload_n dX8_readOrder_54 rfl ?_
  refine x_iconst dX8_readOrder_55 ?_
  refine x_iadd dX8_readOrder_56 ?_
  refine x_aload_n dX8_readOrder_57 rfl ?_
  refine x_iconst dX8_readOrder_58 ?_
  refine x_iload_n dX8_readOrder_59 rfl ?_
  refine x_iconst dX8_readOrder_60 ?_
  refine x_ic_eq (tgt := 69) dX8_readOrder_61 (by decide) ⟨by omega, by omega⟩ ⟨by omega, by omega⟩ (fun h => absurd h (by omega)) (fun hb61 => ?_)
  refine x_iload_n dX8_readOrder_64 rfl ?_
  refine x_iconst dX8_readOrder_65 ?_
  refine x_ic_le (tgt := 74) dX8_readOrder_66 (by decide) ⟨by omega, by omega⟩ ⟨by omega, by omega⟩ (fun hb66 => ?_) (fun h => (h (by omega)).elim)
  refine x_iconst dX8_readOrder_74 ?_
  have na : (jup (jup D M 9 (oE f n p)) (M + 7) (3 * k) 1) M 7 = n := by (repeat (first | rw [jup_eq] | rw [jup_ne (by omega)] | rw [jup_nk (by omega)])); first | exact hn | rfl
  have fa : (jup (jup D M 9 (oE f n p)) (M + 7) (3 * k) 1) (M + 6) = f := by (repeat (rw [jup_off (by omega)])); exact hf
  have pa : (jup (jup D M 9 (oE f n p)) (M + 7) (3 * k) 1) M 9 = (oE f n p) := by (repeat (first | rw [jup_eq] | rw [jup_ne (by omega)] | rw [jup_nk (by omega)]))
  have Fa : (jup (jup D M 9 (oE f n p)) (M + 7) (3 * k) 1) M 10 = F := by (repeat (first | rw [jup_eq] | rw [jup_ne (by omega)] | rw [jup_nk (by omega)])); exact hF
  have ka : (jup (jup D M 9 (oE f n p)) (M + 7) (3 * k) 1) M 11 = k := by (repeat (first | rw [jup_eq] | rw [jup_ne (by omega)] | rw [jup_nk (by omega)])); exact hk
  refine c_RX8_206p dX8_readOrder_75 rfl (kX8_number hM na fa n0 n1 fr pa (by omega) (by omega) Fa rF F0 ⟨by omega, by omega⟩ ⟨by omega, by omega⟩) (by assumption) (Nat.le_of_ble_eq_true rfl) (Nat.le_of_ble_eq_true rfl) ⟨Nat.le_refl _, Nat.le_refl _⟩ (fun w5 D5 h5 => ?_)
  obtain ⟨x1, x2, x3⟩ := h5
  rw [hx] at x3
  obtain ⟨⟨u, hu⟩, x4⟩ := x3
  subst hu
  replace x4 : D5 M 10 = q := x4
  have qb := oNm_q (f := f) (n := n) (p := oE f n p) (least := 0) (most := 3) eb.2
  rw [hx] at qb
  replace qb : oE f n p ≤ q ∧ q ≤ n := qb
  have nb : D5 M 7 = n := by rw [x1 M 7 (fun w => by have := w.2; omega)]; exact na
  have fb : D5 (M + 6) = f := by rw [← fa]; funext z; exact x1 _ z (fun w => by have := w.1; omega)
  have kb : D5 M 11 = k := by rw [x1 M 11 (fun w => by have := w.2; omega)]; exact ka
  refine x_iast dX8_readOrder_78 (by assumption) ⟨by omega, by omega⟩ ?_
  refine x_aload_n dX8_readOrder_79 rfl ?_
  refine gf_RX8_30 dX8_readOrder_80 rfl (by assumption) ?_
  rw [m12]
  refine x_iload_n dX8_readOrder_83 rfl ?_
  refine x_iconst dX8_readOrder_84 ?_
  refine x_iadd dX8_readOrder_85 ?_
  refine x_iload_n dX8_readOrder_86 rfl ?_
  refine x_iconst dX8_readOrder_87 ?_
  refine x_ic_ne (tgt := 95) dX8_readOrder_88 (by decide) ⟨by omega, by omega⟩ ⟨by omega, by omega⟩ (fun hb88 => ?_) (fun h => (h (by omega)).elim)
  refine x_iload_n dX8_readOrder_95 rfl ?_
  refine x_iconst dX8_readOrder_96 ?_
  refine x_ic_ne (tgt := 109) dX8_readOrder_97 (by decide) ⟨by omega, by omega⟩ ⟨by omega, by omega⟩ (fun hb97 => ?_) (fun h => (h (by omega)).elim)
  refine x_iload_n dX8_readOrder_109 rfl ?_
  refine x_iconst dX8_readOrder_110 ?_
  refine x_ic_le (tgt := 125) dX8_readOrder_111 (by decide) ⟨by omega, by omega⟩ ⟨by omega, by omega⟩ (fun hb111 => ?_) (fun h => (h (by omega)).elim)
  refine x_aload_n dX8_readOrder_125 rfl ?_
  refine x_iconst dX8_readOrder_126 ?_
  refine x_iconst dX8_readOrder_127 ?_
  have nc : (jup D5 (M + 7) (3 * k + 1) u) M 7 = n := by (repeat (first | rw [jup_eq] | rw [jup_ne (by omega)] | rw [jup_nk (by omega)])); exact nb
  have fc : (jup D5 (M + 7) (3 * k + 1) u) (M + 6) = f := by (repeat (rw [jup_off (by omega)])); exact fb
  have Fc : (jup D5 (M + 7) (3 * k + 1) u) M 10 = q := by (repeat (first | rw [jup_eq] | rw [jup_ne (by omega)] | rw [jup_nk (by omega)])); exact x4
  refine c_RX8_206d dX8_readOrder_128 rfl (kX8_number_F hM nc fc n0 n1 fr Fc ⟨by omega, by omega⟩ (by omega)) (by assumption) (Nat.le_of_ble_eq_true rfl) (Nat.le_of_ble_eq_true rfl) ⟨Nat.le_refl _, Nat.le_refl _⟩ ?_
  refine x_iast dX8_readOrder_131 (by assumption) ⟨by omega, by omega⟩ ?_
  refine (ro_tail (D := (jup (jup D5 (M + 7) (3 * k + 1) u) (M + 7) (3 * k + 2) 0)) (q := D5 M 9) (F := q) (k := k) hM (by (repeat (first | rw [jup_eq] | rw [jup_ne (by omega)] | rw [jup_nk (by omega)])); exact nb) (by (repeat (rw [jup_off (by omega)])); exact fb) n0 n1 fr (by (repeat (first | rw [jup_eq] | rw [jup_ne (by omega)] | rw [jup_nk (by omega)])); try rfl) x2.1 x2.2 (by (repeat (first | rw [jup_eq] | rw [jup_ne (by omega)] | rw [jup_nk (by omega)])); exact x4) ⟨by omega, by omega⟩ (by (repeat (first | rw [jup_eq] | rw [jup_ne (by omega)] | rw [jup_nk (by omega)])); exact kb)).mono ?_
  rintro v S2 D9 ⟨rfl, rfl, t1, t2, t3⟩
  refine ⟨rfl, rfl, fun y a b => ?_, fun z a b e => ?_, fun j hj => ?_, ?_⟩
  · funext z; rw [t3 y z (fun w => a w.1)]; (repeat (first | rw [jup_eq] | rw [jup_ne (by omega)] | rw [jup_nk (by omega)])); rw [x1 y z (fun w => a w.1)]; (repeat (first | rw [jup_eq] | rw [jup_ne (by omega)] | rw [jup_nk (by omega)]))
  · rw [t3 M z (fun w => by have := w.2; omega)]; (repeat (first | rw [jup_eq] | rw [jup_ne (by omega)] | rw [jup_nk (by omega)])); rw [x1 M z (fun w => by have := w.2; omega)]; (repeat (first | rw [jup_eq] | rw [jup_ne (by omega)] | rw [jup_nk (by omega)]))
  · rw [t3 _ j (fun w => by have := w.1; omega)]; (repeat (first | rw [jup_eq] | rw [jup_ne (by omega)] | rw [jup_nk (by omega)])); rw [x1 _ j (fun w => by have := w.1; omega)]; (repeat (first | rw [jup_eq] | rw [jup_ne (by omega)] | rw [jup_nk (by omega)]))
  · rw [t1]; exact if_neg (by omega)
theorem ro_1_yn {G : JG} {S : JS} {D : JD} {d : Nat} {M n : Int} {f : Int → Int} {p F k : Int} {q a q5 : Int} (hM : jMo S M) (hn : D M 7 = n) (hf : D (M + 6) = f) (n0 : 0 ≤ n) (n1 : n ≤ 60) (fr : ∀ z : Int, 0 ≤ f z ∧ f z ≤ 65535) (hp : D M 9 = p) (p0 : 0 ≤ p) (p1 : p ≤ n) (hF : D M 10 = F) (rF : i32 F) (F0 : F < 0) (hk : D M 11 = k) (k0 : 0 ≤ k) (k1 : k ≤ 25) (hW : oW f p (oE f n p) = 1) (hx : oNm f n (oE f n p) 0 3 = (some a, q)) (hy : oNm f n q 0 1 = (none, q5)) : JM G yX8_readOrder cX8_readOrder 4 none (d + 2) (0, 0) S D [.inr (.inr (some M))] (jnP S (fun D2 => jRx D D2 M n F k f (oRd f n p))) := by
  obtain ⟨mk, m0, m1, m2, m4, m5, m8, m12, y1, l1, y2, l2, y3, l3, y4, l4, y5, l5, y6, l6, y7, l7⟩ := id hM
  have eb := oE_b (f := f) p1
  have hres : oRd f n p = (none, q5) := by
    unfold oRd
    rw [if_neg (by rw [hW]; decide), hW]
    unfold oAr
    rw [show oM1 1 = 3 from rfl, hx]
    show (if (1 : Int) = 2 then ((some (1, a, 0), q) : Option oOrd × Int) else match oNm f n q (oL2 1) (oM2 1) with | (none, q2) => (none, q2) | (some b, q2) => (some (1, a, b), q2)) = _
    rw [if_neg (by decide), show oL2 1 = 0 from rfl, show oM2 1 = 1 from rfl, hy]
  rw [hres]
  show JX _ _ _ _ _ _ _ _ _ _ _ [_, _, _, _] _ _
  refine x_aload_n dX8_readOrder_0 rfl ?_
  refine x_aload_n dX8_readOrder_1 rfl ?_
  refine gf_RX8_190 dX8_readOrder_2 rfl (by assumption) ?_
  rw [hp]
  refine c_RX8_197d dX8_readOrder_5 rfl (kX8_endOf hM hn hf n0 n1 fr p0 p1) (by assumption) (Nat.le_of_ble_eq_true rfl) (Nat.le_of_ble_eq_true rfl) ⟨Nat.le_refl _, Nat.le_refl _⟩ ?_
  refine x_istore_n dX8_readOrder_8 (by decide) ?_
  show JX _ _ _ _ _ _ _ _ _ _ _ [_, _, _, _] _ _
  refine x_aload_n dX8_readOrder_9 rfl ?_
  refine x_aload_n dX8_readOrder_10 rfl ?_
  refine gf_RX8_190 dX8_readOrder_11 rfl (by assumption) ?_
  rw [hp]
  refine x_iload_n dX8_readOrder_14 rfl ?_
  refine c_RX8_200d dX8_readOrder_15 rfl (kX8_word hM hn hf n0 n1 fr p0 eb.1 eb.2) (by assumption) (Nat.le_of_ble_eq_true rfl) (Nat.le_of_ble_eq_true rfl) ⟨Nat.le_refl _, Nat.le_refl _⟩ ?_
  rw [hW, if_neg (show ¬ (1 : Int) < 0 by decide)]
  refine x_istore_n dX8_readOrder_18 (by decide) ?_
  show JX _ _ _ _ _ _ _ _ _ _ _ [_, _, _, _] _ _
  refine x_iload_n dX8_readOrder_19 rfl ?_
  refine x_if_ge (tgt := 31) dX8_readOrder_20 (by decide) ⟨by omega, by omega⟩ (fun hb20 => ?_) (fun h => (h (by omega)).elim)
  refine x_aload_n dX8_readOrder_31 rfl ?_
  refine x_iload_n dX8_readOrder_32 rfl ?_
  refine pf_RX8_190 dX8_readOrder_33 rfl (by assumption) ?_
  refine x_iconst dX8_readOrder_36 ?_
  refine x_aload_n dX8_readOrder_37 rfl ?_
  refine gf_RX8_203 dX8_readOrder_38 rfl (by assumption) ?_
  rw [jup_nk (show (11 : Int) ≠ 9 by decide), hk]
  refine x_imul dX8_readOrder_41 ?_
  refine x_istore_n dX8_readOrder_42 (by decide) ?_
  show JX _ _ _ _ _ _ _ _ _ _ _ [_, _, _, _] _ _
  refine x_aload_n dX8_readOrder_43 rfl ?_
  refine gf_RX8_30 dX8_readOrder_44 rfl (by assumption) ?_
  rw [m12]
  refine x_iload_n dX8_readOrder_47 rfl ?_
  refine x_iload_n dX8_readOrder_48 rfl ?_
  refine x_iast dX8_readOrder_49 (by assumption) ⟨by omega, by omega⟩ ?_
  refine x_aload_n dX8_readOrder_50 rfl ?_
  refine gf_RX8_30 dX8_readOrder_51 rfl (by assumption) ?_
  rw [m12]
  refine x_iload_n dX8_readOrder_54 rfl ?_
  refine x_iconst dX8_readOrder_55 ?_
  refine x_iadd dX8_readOrder_56 ?_
  refine x_aload_n dX8_readOrder_57 rfl ?_
  refine x_iconst dX8_readOrder_58 ?_
  refine x_iload_n dX8_readOrder_59 rfl ?_
  refine x_iconst dX8_readOrder_60 ?_
  refine x_ic_eq (tgt := 69) dX8_readOrder_61 (by decide) ⟨by omega, by omega⟩ ⟨by omega, by omega⟩ (fun h => absurd h (by omega)) (fun hb61 => ?_)
  refine x_iload_n dX8_readOrder_64 rfl ?_
  refine x_iconst dX8_readOrder_65 ?_
  refine x_ic_le (tgt := 74) dX8_readOrder_66 (by decide) ⟨by omega, by omega⟩ ⟨by omega, by omega⟩ (fun hb66 => ?_) (fun h => (h (by omega)).elim)
  refine x_iconst dX8_readOrder_74 ?_
  have na : (jup (jup D M 9 (oE f n p)) (M + 7) (3 * k) 1) M 7 = n := by (repeat (first | rw [jup_eq] | rw [jup_ne (by omega)] | rw [jup_nk (by omega)])); first | exact hn | rfl
  have fa : (jup (jup D M 9 (oE f n p)) (M + 7) (3 * k) 1) (M + 6) = f := by (repeat (rw [jup_off (by omega)])); exact hf
  have pa : (jup (jup D M 9 (oE f n p)) (M + 7) (3 * k) 1) M 9 = (oE f n p) := by (repeat (first | rw [jup_eq] | rw [jup_ne (by omega)] | rw [jup_nk (by omega)]))
  have Fa : (jup (jup D M 9 (oE f n p)) (M + 7) (3 * k) 1) M 10 = F := by (repeat (first | rw [jup_eq] | rw [jup_ne (by omega)] | rw [jup_nk (by omega)])); exact hF
  have ka : (jup (jup D M 9 (oE f n p)) (M + 7) (3 * k) 1) M 11 = k := by (repeat (first | rw [jup_eq] | rw [jup_ne (by omega)] | rw [jup_nk (by omega)])); exact hk
  refine c_RX8_206p dX8_readOrder_75 rfl (kX8_number hM na fa n0 n1 fr pa (by omega) (by omega) Fa rF F0 ⟨by omega, by omega⟩ ⟨by omega, by omega⟩) (by assumption) (Nat.le_of_ble_eq_true rfl) (Nat.le_of_ble_eq_true rfl) ⟨Nat.le_refl _, Nat.le_refl _⟩ (fun w5 D5 h5 => ?_)
  obtain ⟨x1, x2, x3⟩ := h5
  rw [hx] at x3
  obtain ⟨hu, x4, x5⟩ := (x3 : w5 = .inl a ∧ D5 M 9 = q ∧ D5 M 10 = _)
  subst hu
  have qb := oNm_b eb.2 hx
  have Fb : D5 M 10 = F := by rw [x5]; exact Fa
  have nb : D5 M 7 = n := by rw [x1 M 7 (fun w => by have := w.2; omega)]; exact na
  have fb : D5 (M + 6) = f := by rw [← fa]; funext z; exact x1 _ z (fun w => by have := w.1; omega)
  have kb : D5 M 11 = k := by rw [x1 M 11 (fun w => by have := w.2; omega)]; exact ka
  refine x_iast dX8_readOrder_78 (by assumption) ⟨by omega, by omega⟩ ?_
  refine x_aload_n dX8_readOrder_79 rfl ?_
  refine gf_RX8_30 dX8_readOrder_80 rfl (by assumption) ?_
  rw [m12]
  refine x_iload_n dX8_readOrder_83 rfl ?_
  refine x_iconst dX8_readOrder_84 ?_
  refine x_iadd dX8_readOrder_85 ?_
  refine x_iload_n dX8_readOrder_86 rfl ?_
  refine x_iconst dX8_readOrder_87 ?_
  refine x_ic_ne (tgt := 95) dX8_readOrder_88 (by decide) ⟨by omega, by omega⟩ ⟨by omega, by omega⟩ (fun hb88 => ?_) (fun h => (h (by omega)).elim)
  refine x_iload_n dX8_readOrder_95 rfl ?_
  refine x_iconst dX8_readOrder_96 ?_
  refine x_ic_ne (tgt := 109) dX8_readOrder_97 (by decide) ⟨by omega, by omega⟩ ⟨by omega, by omega⟩ (fun hb97 => ?_) (fun h => (h (by omega)).elim)
  refine x_iload_n dX8_readOrder_109 rfl ?_
  refine x_iconst dX8_readOrder_110 ?_
  refine x_ic_le (tgt := 125) dX8_readOrder_111 (by decide) ⟨by omega, by omega⟩ ⟨by omega, by omega⟩ (fun hb111 => ?_) (fun h => (h (by omega)).elim)
  refine x_aload_n dX8_readOrder_125 rfl ?_
  refine x_iconst dX8_readOrder_126 ?_
  refine x_iconst dX8_readOrder_127 ?_
  have nc : (jup D5 (M + 7) (3 * k + 1) a) M 7 = n := by (repeat (first | rw [jup_eq] | rw [jup_ne (by omega)] | rw [jup_nk (by omega)])); exact nb
  have fc : (jup D5 (M + 7) (3 * k + 1) a) (M + 6) = f := by (repeat (rw [jup_off (by omega)])); exact fb
  have pc : (jup D5 (M + 7) (3 * k + 1) a) M 9 = q := by (repeat (first | rw [jup_eq] | rw [jup_ne (by omega)] | rw [jup_nk (by omega)])); exact x4
  have Fc : (jup D5 (M + 7) (3 * k + 1) a) M 10 = F := by (repeat (first | rw [jup_eq] | rw [jup_ne (by omega)] | rw [jup_nk (by omega)])); exact Fb
  have kc : (jup D5 (M + 7) (3 * k + 1) a) M 11 = k := by (repeat (first | rw [jup_eq] | rw [jup_ne (by omega)] | rw [jup_nk (by omega)])); exact kb
  refine c_RX8_206p dX8_readOrder_128 rfl (kX8_number hM nc fc n0 n1 fr pc (by omega) (by omega) Fc rF F0 ⟨by omega, by omega⟩ ⟨by omega, by omega⟩) (by assumption) (Nat.le_of_ble_eq_true rfl) (Nat.le_of_ble_eq_true rfl) ⟨Nat.le_refl _, Nat.le_refl _⟩ (fun w6 D6 h6 => ?_)
  obtain ⟨z1, z2, z3⟩ := h6
  rw [hy] at z3
  obtain ⟨⟨u, hu⟩, z4⟩ := z3
  subst hu
  replace z4 : D6 M 10 = q5 := z4
  have qc := oNm_q (f := f) (n := n) (p := q) (least := 0) (most := 1) qb.2.1
  rw [hy] at qc
  replace qc : q ≤ q5 ∧ q5 ≤ n := qc
  have nd : D6 M 7 = n := by rw [z1 M 7 (fun w => by have := w.2; omega)]; exact nc
  have fd : D6 (M + 6) = f := by rw [← fc]; funext z; exact z1 _ z (fun w => by have := w.1; omega)
  have kd : D6 M 11 = k := by rw [z1 M 11 (fun w => by have := w.2; omega)]; exact kc
  refine x_iast dX8_readOrder_131 (by assumption) ⟨by omega, by omega⟩ ?_
  refine (ro_tail (D := (jup D6 (M + 7) (3 * k + 2) u)) (q := D6 M 9) (F := q5) (k := k) hM (by (repeat (first | rw [jup_eq] | rw [jup_ne (by omega)] | rw [jup_nk (by omega)])); exact nd) (by (repeat (rw [jup_off (by omega)])); exact fd) n0 n1 fr (by (repeat (first | rw [jup_eq] | rw [jup_ne (by omega)] | rw [jup_nk (by omega)])); try rfl) z2.1 z2.2 (by (repeat (first | rw [jup_eq] | rw [jup_ne (by omega)] | rw [jup_nk (by omega)])); exact z4) ⟨by omega, by omega⟩ (by (repeat (first | rw [jup_eq] | rw [jup_ne (by omega)] | rw [jup_nk (by omega)])); exact kd)).mono ?_
  rintro v S2 D9 ⟨rfl, rfl, t1, t2, t3⟩
  refine ⟨rfl, rfl, fun y a b => ?_, fun z a b e => ?_, fun j hj => ?_, ?_⟩
  · funext z; rw [t3 y z (fun w => a w.1)]; (repeat (first | rw [jup_eq] | rw [jup_ne (by omega)] | rw [jup_nk (by omega)])); rw [z1 y z (fun w => a w.1)]; (repeat (first | rw [jup_eq] | rw [jup_ne (by omega)] | rw [jup_nk (by omega)])); rw [x1 y z (fun w => a w.1)]; (repeat (first | rw [jup_eq] | rw [jup_ne (by omega)] | rw [jup_nk (by omega)]))
  · rw [t3 M z (fun w => by have := w.2; omega)]; (repeat (first | rw [jup_eq] | rw [jup_ne (by omega)] | rw [jup_nk (by omega)])); rw [z1 M z (fun w => by have := w.2; omega)]; (repeat (first | rw [jup_eq] | rw [jup_ne (by omega)] | rw [jup_nk (by omega)])); rw [x1 M z (fun w => by have := w.2; omega)]; (repeat (first | rw [jup_eq] | rw [jup_ne (by omega)] | rw [jup_nk (by omega)]))
  · rw [t3 _ j (fun w => by have := w.1; omega)]; (repeat (first | rw [jup_eq] | rw [jup_ne (by omega)] | rw [jup_nk (by omega)])); rw [z1 _ j (fun w => by have := w.1; omega)]; (repeat (first | rw [jup_eq] | rw [jup_ne (by omega)] | rw [jup_nk (by omega)])); rw [x1 _ j (fun w => by have := w.1; omega)]; (repeat (first | rw [jup_eq] | rw [jup_ne (by omega)] | rw [jup_nk (by omega)]))
  · rw [t1]; exact if_neg (by omega)
theorem ro_1_yy {G : JG} {S : JS} {D : JD} {d : Nat} {M n : Int} {f : Int → Int} {p F k : Int} {q a q5 b : Int} (hM : jMo S M) (hn : D M 7 = n) (hf : D (M + 6) = f) (n0 : 0 ≤ n) (n1 : n ≤ 60) (fr : ∀ z : Int, 0 ≤ f z ∧ f z ≤ 65535) (hp : D M 9 = p) (p0 : 0 ≤ p) (p1 : p ≤ n) (hF : D M 10 = F) (rF : i32 F) (F0 : F < 0) (hk : D M 11 = k) (k0 : 0 ≤ k) (k1 : k ≤ 25) (hW : oW f p (oE f n p) = 1) (hx : oNm f n (oE f n p) 0 3 = (some a, q)) (hy : oNm f n q 0 1 = (some b, q5)) : JM G yX8_readOrder cX8_readOrder 4 none (d + 2) (0, 0) S D [.inr (.inr (some M))] (jnP S (fun D2 => jRx D D2 M n F k f (oRd f n p))) := by
  obtain ⟨mk, m0, m1, m2, m4, m5, m8, m12, y1, l1, y2, l2, y3, l3, y4, l4, y5, l5, y6, l6, y7, l7⟩ := id hM
  have eb := oE_b (f := f) p1
  have hres : oRd f n p = (some (1, a, b), q5) := by
    unfold oRd
    rw [if_neg (by rw [hW]; decide), hW]
    unfold oAr
    rw [show oM1 1 = 3 from rfl, hx]
    show (if (1 : Int) = 2 then ((some (1, a, 0), q) : Option oOrd × Int) else match oNm f n q (oL2 1) (oM2 1) with | (none, q2) => (none, q2) | (some b, q2) => (some (1, a, b), q2)) = _
    rw [if_neg (by decide), show oL2 1 = 0 from rfl, show oM2 1 = 1 from rfl, hy]
  rw [hres]
  show JX _ _ _ _ _ _ _ _ _ _ _ [_, _, _, _] _ _
  refine x_aload_n dX8_readOrder_0 rfl ?_
  refine x_aload_n dX8_readOrder_1 rfl ?_
  refine gf_RX8_190 dX8_readOrder_2 rfl (by assumption) ?_
  rw [hp]
  refine c_RX8_197d dX8_readOrder_5 rfl (kX8_endOf hM hn hf n0 n1 fr p0 p1) (by assumption) (Nat.le_of_ble_eq_true rfl) (Nat.le_of_ble_eq_true rfl) ⟨Nat.le_refl _, Nat.le_refl _⟩ ?_
  refine x_istore_n dX8_readOrder_8 (by decide) ?_
  show JX _ _ _ _ _ _ _ _ _ _ _ [_, _, _, _] _ _
  refine x_aload_n dX8_readOrder_9 rfl ?_
  refine x_aload_n dX8_readOrder_10 rfl ?_
  refine gf_RX8_190 dX8_readOrder_11 rfl (by assumption) ?_
  rw [hp]
  refine x_iload_n dX8_readOrder_14 rfl ?_
  refine c_RX8_200d dX8_readOrder_15 rfl (kX8_word hM hn hf n0 n1 fr p0 eb.1 eb.2) (by assumption) (Nat.le_of_ble_eq_true rfl) (Nat.le_of_ble_eq_true rfl) ⟨Nat.le_refl _, Nat.le_refl _⟩ ?_
  rw [hW, if_neg (show ¬ (1 : Int) < 0 by decide)]
  refine x_istore_n dX8_readOrder_18 (by decide) ?_
  show JX _ _ _ _ _ _ _ _ _ _ _ [_, _, _, _] _ _
  refine x_iload_n dX8_readOrder_19 rfl ?_
  refine x_if_ge (tgt := 31) dX8_readOrder_20 (by decide) ⟨by omega, by omega⟩ (fun hb20 => ?_) (fun h => (h (by omega)).elim)
  refine x_aload_n dX8_readOrder_31 rfl ?_
  refine x_iload_n dX8_readOrder_32 rfl ?_
  refine pf_RX8_190 dX8_readOrder_33 rfl (by assumption) ?_
  refine x_iconst dX8_readOrder_36 ?_
  refine x_aload_n dX8_readOrder_37 rfl ?_
  refine gf_RX8_203 dX8_readOrder_38 rfl (by assumption) ?_
  rw [jup_nk (show (11 : Int) ≠ 9 by decide), hk]
  refine x_imul dX8_readOrder_41 ?_
  refine x_istore_n dX8_readOrder_42 (by decide) ?_
  show JX _ _ _ _ _ _ _ _ _ _ _ [_, _, _, _] _ _
  refine x_aload_n dX8_readOrder_43 rfl ?_
  refine gf_RX8_30 dX8_readOrder_44 rfl (by assumption) ?_
  rw [m12]
  refine x_iload_n dX8_readOrder_47 rfl ?_
  refine x_iload_n dX8_readOrder_48 rfl ?_
  refine x_iast dX8_readOrder_49 (by assumption) ⟨by omega, by omega⟩ ?_
  refine x_aload_n dX8_readOrder_50 rfl ?_
  refine gf_RX8_30 dX8_readOrder_51 rfl (by assumption) ?_
  rw [m12]
  refine x_iload_n dX8_readOrder_54 rfl ?_
  refine x_iconst dX8_readOrder_55 ?_
  refine x_iadd dX8_readOrder_56 ?_
  refine x_aload_n dX8_readOrder_57 rfl ?_
  refine x_iconst dX8_readOrder_58 ?_
  refine x_iload_n dX8_readOrder_59 rfl ?_
  refine x_iconst dX8_readOrder_60 ?_
  refine x_ic_eq (tgt := 69) dX8_readOrder_61 (by decide) ⟨by omega, by omega⟩ ⟨by omega, by omega⟩ (fun h => absurd h (by omega)) (fun hb61 => ?_)
  refine x_iload_n dX8_readOrder_64 rfl ?_
  refine x_iconst dX8_readOrder_65 ?_
  refine x_ic_le (tgt := 74) dX8_readOrder_66 (by decide) ⟨by omega, by omega⟩ ⟨by omega, by omega⟩ (fun hb66 => ?_) (fun h => (h (by omega)).elim)
  refine x_iconst dX8_readOrder_74 ?_
  have na : (jup (jup D M 9 (oE f n p)) (M + 7) (3 * k) 1) M 7 = n := by (repeat (first | rw [jup_eq] | rw [jup_ne (by omega)] | rw [jup_nk (by omega)])); first | exact hn | rfl
  have fa : (jup (jup D M 9 (oE f n p)) (M + 7) (3 * k) 1) (M + 6) = f := by (repeat (rw [jup_off (by omega)])); exact hf
  have pa : (jup (jup D M 9 (oE f n p)) (M + 7) (3 * k) 1) M 9 = (oE f n p) := by (repeat (first | rw [jup_eq] | rw [jup_ne (by omega)] | rw [jup_nk (by omega)]))
  have Fa : (jup (jup D M 9 (oE f n p)) (M + 7) (3 * k) 1) M 10 = F := by (repeat (first | rw [jup_eq] | rw [jup_ne (by omega)] | rw [jup_nk (by omega)])); exact hF
  have ka : (jup (jup D M 9 (oE f n p)) (M + 7) (3 * k) 1) M 11 = k := by (repeat (first | rw [jup_eq] | rw [jup_ne (by omega)] | rw [jup_nk (by omega)])); exact hk
  refine c_RX8_206p dX8_readOrder_75 rfl (kX8_number hM na fa n0 n1 fr pa (by omega) (by omega) Fa rF F0 ⟨by omega, by omega⟩ ⟨by omega, by omega⟩) (by assumption) (Nat.le_of_ble_eq_true rfl) (Nat.le_of_ble_eq_true rfl) ⟨Nat.le_refl _, Nat.le_refl _⟩ (fun w5 D5 h5 => ?_)
  obtain ⟨x1, x2, x3⟩ := h5
  rw [hx] at x3
  obtain ⟨hu, x4, x5⟩ := (x3 : w5 = .inl a ∧ D5 M 9 = q ∧ D5 M 10 = _)
  subst hu
  have qb := oNm_b eb.2 hx
  have Fb : D5 M 10 = F := by rw [x5]; exact Fa
  have nb : D5 M 7 = n := by rw [x1 M 7 (fun w => by have := w.2; omega)]; exact na
  have fb : D5 (M + 6) = f := by rw [← fa]; funext z; exact x1 _ z (fun w => by have := w.1; omega)
  have kb : D5 M 11 = k := by rw [x1 M 11 (fun w => by have := w.2; omega)]; exact ka
  refine x_iast dX8_readOrder_78 (by assumption) ⟨by omega, by omega⟩ ?_
  refine x_aload_n dX8_readOrder_79 rfl ?_
  refine gf_RX8_30 dX8_readOrder_80 rfl (by assumption) ?_
  rw [m12]
  refine x_iload_n dX8_readOrder_83 rfl ?_
  refine x_iconst dX8_readOrder_84 ?_
  refine x_iadd dX8_readOrder_85 ?_
  refine x_iload_n dX8_readOrder_86 rfl ?_
  refine x_iconst dX8_readOrder_87 ?_
  refine x_ic_ne (tgt := 95) dX8_readOrder_88 (by decide) ⟨by omega, by omega⟩ ⟨by omega, by omega⟩ (fun hb88 => ?_) (fun h => (h (by omega)).elim)
  refine x_iload_n dX8_readOrder_95 rfl ?_
  refine x_iconst dX8_readOrder_96 ?_
  refine x_ic_ne (tgt := 109) dX8_readOrder_97 (by decide) ⟨by omega, by omega⟩ ⟨by omega, by omega⟩ (fun hb97 => ?_) (fun h => (h (by omega)).elim)
  refine x_iload_n dX8_readOrder_109 rfl ?_
  refine x_iconst dX8_readOrder_110 ?_
  refine x_ic_le (tgt := 125) dX8_readOrder_111 (by decide) ⟨by omega, by omega⟩ ⟨by omega, by omega⟩ (fun hb111 => ?_) (fun h => (h (by omega)).elim)
  refine x_aload_n dX8_readOrder_125 rfl ?_
  refine x_iconst dX8_readOrder_126 ?_
  refine x_iconst dX8_readOrder_127 ?_
  have nc : (jup D5 (M + 7) (3 * k + 1) a) M 7 = n := by (repeat (first | rw [jup_eq] | rw [jup_ne (by omega)] | rw [jup_nk (by omega)])); exact nb
  have fc : (jup D5 (M + 7) (3 * k + 1) a) (M + 6) = f := by (repeat (rw [jup_off (by omega)])); exact fb
  have pc : (jup D5 (M + 7) (3 * k + 1) a) M 9 = q := by (repeat (first | rw [jup_eq] | rw [jup_ne (by omega)] | rw [jup_nk (by omega)])); exact x4
  have Fc : (jup D5 (M + 7) (3 * k + 1) a) M 10 = F := by (repeat (first | rw [jup_eq] | rw [jup_ne (by omega)] | rw [jup_nk (by omega)])); exact Fb
  have kc : (jup D5 (M + 7) (3 * k + 1) a) M 11 = k := by (repeat (first | rw [jup_eq] | rw [jup_ne (by omega)] | rw [jup_nk (by omega)])); exact kb
  refine c_RX8_206p dX8_readOrder_128 rfl (kX8_number hM nc fc n0 n1 fr pc (by omega) (by omega) Fc rF F0 ⟨by omega, by omega⟩ ⟨by omega, by omega⟩) (by assumption) (Nat.le_of_ble_eq_true rfl) (Nat.le_of_ble_eq_true rfl) ⟨Nat.le_refl _, Nat.le_refl _⟩ (fun w6 D6 h6 => ?_)
  obtain ⟨z1, z2, z3⟩ := h6
  rw [hy] at z3
  obtain ⟨hu, z4, z5⟩ := (z3 : w6 = .inl b ∧ D6 M 9 = q5 ∧ D6 M 10 = _)
  subst hu
  have qc := oNm_b qb.2.1 hy
  have Fd : D6 M 10 = F := by rw [z5]; exact Fc
  have nd : D6 M 7 = n := by rw [z1 M 7 (fun w => by have := w.2; omega)]; exact nc
  have fd : D6 (M + 6) = f := by rw [← fc]; funext z; exact z1 _ z (fun w => by have := w.1; omega)
  have kd : D6 M 11 = k := by rw [z1 M 11 (fun w => by have := w.2; omega)]; exact kc
  refine x_iast dX8_readOrder_131 (by assumption) ⟨by omega, by omega⟩ ?_
  refine (ro_tail (D := (jup D6 (M + 7) (3 * k + 2) b)) (q := q5) (F := F) (k := k) hM (by (repeat (first | rw [jup_eq] | rw [jup_ne (by omega)] | rw [jup_nk (by omega)])); exact nd) (by (repeat (rw [jup_off (by omega)])); exact fd) n0 n1 fr (by (repeat (first | rw [jup_eq] | rw [jup_ne (by omega)] | rw [jup_nk (by omega)])); exact z4) (by omega) (by omega) (by (repeat (first | rw [jup_eq] | rw [jup_ne (by omega)] | rw [jup_nk (by omega)])); exact Fd) rF (by (repeat (first | rw [jup_eq] | rw [jup_ne (by omega)] | rw [jup_nk (by omega)])); exact kd)).mono ?_
  rintro v S2 D9 ⟨rfl, rfl, t1, t2, t3⟩
  refine ⟨rfl, rfl, fun y a b => ?_, fun z a b e => ?_, fun j hj => ?_, ?_⟩
  · funext z; rw [t3 y z (fun w => a w.1)]; (repeat (first | rw [jup_eq] | rw [jup_ne (by omega)] | rw [jup_nk (by omega)])); rw [z1 y z (fun w => a w.1)]; (repeat (first | rw [jup_eq] | rw [jup_ne (by omega)] | rw [jup_nk (by omega)])); rw [x1 y z (fun w => a w.1)]; (repeat (first | rw [jup_eq] | rw [jup_ne (by omega)] | rw [jup_nk (by omega)]))
  · rw [t3 M z (fun w => by have := w.2; omega)]; (repeat (first | rw [jup_eq] | rw [jup_ne (by omega)] | rw [jup_nk (by omega)])); rw [z1 M z (fun w => by have := w.2; omega)]; (repeat (first | rw [jup_eq] | rw [jup_ne (by omega)] | rw [jup_nk (by omega)])); rw [x1 M z (fun w => by have := w.2; omega)]; (repeat (first | rw [jup_eq] | rw [jup_ne (by omega)] | rw [jup_nk (by omega)]))
  · rw [t3 _ j (fun w => by have := w.1; omega)]; (repeat (first | rw [jup_eq] | rw [jup_ne (by omega)] | rw [jup_nk (by omega)])); rw [z1 _ j (fun w => by have := w.1; omega)]; (repeat (first | rw [jup_eq] | rw [jup_ne (by omega)] | rw [jup_nk (by omega)])); rw [x1 _ j (fun w => by have := w.1; omega)]; (repeat (first | rw [jup_eq] | rw [jup_ne (by omega)] | rw [jup_nk (by omega)]))
  · refine ⟨?_, t2, ?_, ?_, ?_, ?_⟩
    · rw [t3 M 9 (fun w => by have := w.2; omega)]; (repeat (first | rw [jup_eq] | rw [jup_ne (by omega)] | rw [jup_nk (by omega)])); exact z4
    · rw [t3 _ _ (fun w => by have := w.1; omega)]; (repeat (first | rw [jup_eq] | rw [jup_ne (by omega)] | rw [jup_nk (by omega)])); rw [z1 _ _ (fun w => by have := w.1; omega)]; (repeat (first | rw [jup_eq] | rw [jup_ne (by omega)] | rw [jup_nk (by omega)])); rw [x1 _ _ (fun w => by have := w.1; omega)]; (repeat (first | rw [jup_eq] | rw [jup_ne (by omega)] | rw [jup_nk (by omega)]))
    · rw [t3 _ _ (fun w => by have := w.1; omega)]; (repeat (first | rw [jup_eq] | rw [jup_ne (by omega)] | rw [jup_nk (by omega)])); rw [z1 _ _ (fun w => by have := w.1; omega)]; (repeat (first | rw [jup_eq] | rw [jup_ne (by omega)] | rw [jup_nk (by omega)]))
    · rw [t3 _ _ (fun w => by have := w.1; omega)]; (repeat (first | rw [jup_eq] | rw [jup_ne (by omega)] | rw [jup_nk (by omega)]))
    · rw [t1]; show _ = if q5 < n ∧ f q5 ≠ 59 then q5 else F; split <;> split <;> omega
theorem ro_2_n {G : JG} {S : JS} {D : JD} {d : Nat} {M n : Int} {f : Int → Int} {p F k : Int} {q : Int} (hM : jMo S M) (hn : D M 7 = n) (hf : D (M + 6) = f) (n0 : 0 ≤ n) (n1 : n ≤ 60) (fr : ∀ z : Int, 0 ≤ f z ∧ f z ≤ 65535) (hp : D M 9 = p) (p0 : 0 ≤ p) (p1 : p ≤ n) (hF : D M 10 = F) (rF : i32 F) (F0 : F < 0) (hk : D M 11 = k) (k0 : 0 ≤ k) (k1 : k ≤ 25) (hW : oW f p (oE f n p) = 2) (hx : oNm f n (oE f n p) 0 3 = (none, q)) : JM G yX8_readOrder cX8_readOrder 4 none (d + 2) (0, 0) S D [.inr (.inr (some M))] (jnP S (fun D2 => jRx D D2 M n F k f (oRd f n p))) := by
  obtain ⟨mk, m0, m1, m2, m4, m5, m8, m12, y1, l1, y2, l2, y3, l3, y4, l4, y5, l5, y6, l6, y7, l7⟩ := id hM
  have eb := oE_b (f := f) p1
  have hres : oRd f n p = (none, q) := by
    unfold oRd
    rw [if_neg (by rw [hW]; decide), hW]
    unfold oAr
    rw [show oM1 2 = 3 from rfl, hx]
  rw [hres]
  show JX _ _ _ _ _ _ _ _ _ _ _ [_, _, _, _] _ _
  refine x_aload_n dX8_readOrder_0 rfl ?_
  refine x_aload_n dX8_readOrder_1 rfl ?_
  refine gf_RX8_190 dX8_readOrder_2 rfl (by assumption) ?_
  rw [hp]
  refine c_RX8_197d dX8_readOrder_5 rfl (kX8_endOf hM hn hf n0 n1 fr p0 p1) (by assumption) (Nat.le_of_ble_eq_true rfl) (Nat.le_of_ble_eq_true rfl) ⟨Nat.le_refl _, Nat.le_refl _⟩ ?_
  refine x_istore_n dX8_readOrder_8 (by decide) ?_
  show JX _ _ _ _ _ _ _ _ _ _ _ [_, _, _, _] _ _
  refine x_aload_n dX8_readOrder_9 rfl ?_
  refine x_aload_n dX8_readOrder_10 rfl ?_
  refine gf_RX8_190 dX8_readOrder_11 rfl (by assumption) ?_
  rw [hp]
  refine x_iload_n dX8_readOrder_14 rfl ?_
  refine c_RX8_200d dX8_readOrder_15 rfl (kX8_word hM hn hf n0 n1 fr p0 eb.1 eb.2) (by assumption) (Nat.le_of_ble_eq_true rfl) (Nat.le_of_ble_eq_true rfl) ⟨Nat.le_refl _, Nat.le_refl _⟩ ?_
  rw [hW, if_neg (show ¬ (2 : Int) < 0 by decide)]
  refine x_istore_n dX8_readOrder_18 (by decide) ?_
  show JX _ _ _ _ _ _ _ _ _ _ _ [_, _, _, _] _ _
  refine x_iload_n dX8_readOrder_19 rfl ?_
  refine x_if_ge (tgt := 31) dX8_readOrder_20 (by decide) ⟨by omega, by omega⟩ (fun hb20 => ?_) (fun h => (h (by omega)).elim)
  refine x_aload_n dX8_readOrder_31 rfl ?_
  refine x_iload_n dX8_readOrder_32 rfl ?_
  refine pf_RX8_190 dX8_readOrder_33 rfl (by assumption) ?_
  refine x_iconst dX8_readOrder_36 ?_
  refine x_aload_n dX8_readOrder_37 rfl ?_
  refine gf_RX8_203 dX8_readOrder_38 rfl (by assumption) ?_
  rw [jup_nk (show (11 : Int) ≠ 9 by decide), hk]
  refine x_imul dX8_readOrder_41 ?_
  refine x_istore_n dX8_readOrder_42 (by decide) ?_
  show JX _ _ _ _ _ _ _ _ _ _ _ [_, _, _, _] _ _
  refine x_aload_n dX8_readOrder_43 rfl ?_
  refine gf_RX8_30 dX8_readOrder_44 rfl (by assumption) ?_
  rw [m12]
  refine x_iload_n dX8_readOrder_47 rfl ?_
  refine x_iload_n dX8_readOrder_48 rfl ?_
  refine x_iast dX8_readOrder_49 (by assumption) ⟨by omega, by omega⟩ ?_
  refine x_aload_n dX8_readOrder_50 rfl ?_
  refine gf_RX8_30 dX8_readOrder_51 rfl (by assumption) ?_
  rw [m12]
  refine x_iload_n dX8_readOrder_54 rfl ?_
  refine x_iconst dX8_readOrder_55 ?_
  refine x_iadd dX8_readOrder_56 ?_
  refine x_aload_n dX8_readOrder_57 rfl ?_
  refine x_iconst dX8_readOrder_58 ?_
  refine x_iload_n dX8_readOrder_59 rfl ?_
  refine x_iconst dX8_readOrder_60 ?_
  refine x_ic_eq (tgt := 69) dX8_readOrder_61 (by decide) ⟨by omega, by omega⟩ ⟨by omega, by omega⟩ (fun h => absurd h (by omega)) (fun hb61 => ?_)
  refine x_iload_n dX8_readOrder_64 rfl ?_
  refine x_iconst dX8_readOrder_65 ?_
  refine x_ic_le (tgt := 74) dX8_readOrder_66 (by decide) ⟨by omega, by omega⟩ ⟨by omega, by omega⟩ (fun hb66 => ?_) (fun h => (h (by omega)).elim)
  refine x_iconst dX8_readOrder_74 ?_
  have na : (jup (jup D M 9 (oE f n p)) (M + 7) (3 * k) 2) M 7 = n := by (repeat (first | rw [jup_eq] | rw [jup_ne (by omega)] | rw [jup_nk (by omega)])); first | exact hn | rfl
  have fa : (jup (jup D M 9 (oE f n p)) (M + 7) (3 * k) 2) (M + 6) = f := by (repeat (rw [jup_off (by omega)])); exact hf
  have pa : (jup (jup D M 9 (oE f n p)) (M + 7) (3 * k) 2) M 9 = (oE f n p) := by (repeat (first | rw [jup_eq] | rw [jup_ne (by omega)] | rw [jup_nk (by omega)]))
  have Fa : (jup (jup D M 9 (oE f n p)) (M + 7) (3 * k) 2) M 10 = F := by (repeat (first | rw [jup_eq] | rw [jup_ne (by omega)] | rw [jup_nk (by omega)])); exact hF
  have ka : (jup (jup D M 9 (oE f n p)) (M + 7) (3 * k) 2) M 11 = k := by (repeat (first | rw [jup_eq] | rw [jup_ne (by omega)] | rw [jup_nk (by omega)])); exact hk
  refine c_RX8_206p dX8_readOrder_75 rfl (kX8_number hM na fa n0 n1 fr pa (by omega) (by omega) Fa rF F0 ⟨by omega, by omega⟩ ⟨by omega, by omega⟩) (by assumption) (Nat.le_of_ble_eq_true rfl) (Nat.le_of_ble_eq_true rfl) ⟨Nat.le_refl _, Nat.le_refl _⟩ (fun w5 D5 h5 => ?_)
  obtain ⟨x1, x2, x3⟩ := h5
  rw [hx] at x3
  obtain ⟨⟨u, hu⟩, x4⟩ := x3
  subst hu
  replace x4 : D5 M 10 = q := x4
  have qb := oNm_q (f := f) (n := n) (p := oE f n p) (least := 0) (most := 3) eb.2
  rw [hx] at qb
  replace qb : oE f n p ≤ q ∧ q ≤ n := qb
  have nb : D5 M 7 = n := by rw [x1 M 7 (fun w => by have := w.2; omega)]; exact na
  have fb : D5 (M + 6) = f := by rw [← fa]; funext z; exact x1 _ z (fun w => by have := w.1; omega)
  have kb : D5 M 11 = k := by rw [x1 M 11 (fun w => by have := w.2; omega)]; exact ka
  refine x_iast dX8_readOrder_78 (by assumption) ⟨by omega, by omega⟩ ?_
  refine x_aload_n dX8_readOrder_79 rfl ?_
  refine gf_RX8_30 dX8_readOrder_80 rfl (by assumption) ?_
  rw [m12]
  refine x_iload_n dX8_readOrder_83 rfl ?_
  refine x_iconst dX8_readOrder_84 ?_
  refine x_iadd dX8_readOrder_85 ?_
  refine x_iload_n dX8_readOrder_86 rfl ?_
  refine x_iconst dX8_readOrder_87 ?_
  refine x_ic_ne (tgt := 95) dX8_readOrder_88 (by decide) ⟨by omega, by omega⟩ ⟨by omega, by omega⟩ (fun h => absurd h (by omega)) (fun hb88 => ?_)
  refine x_iconst dX8_readOrder_91 ?_
  refine x_goto (tgt := 131) dX8_readOrder_92 (by decide) ?_
  refine x_iast dX8_readOrder_131 (by assumption) ⟨by omega, by omega⟩ ?_
  refine (ro_tail (D := (jup (jup D5 (M + 7) (3 * k + 1) u) (M + 7) (3 * k + 2) 0)) (q := D5 M 9) (F := q) (k := k) hM (by (repeat (first | rw [jup_eq] | rw [jup_ne (by omega)] | rw [jup_nk (by omega)])); exact nb) (by (repeat (rw [jup_off (by omega)])); exact fb) n0 n1 fr (by (repeat (first | rw [jup_eq] | rw [jup_ne (by omega)] | rw [jup_nk (by omega)])); try rfl) x2.1 x2.2 (by (repeat (first | rw [jup_eq] | rw [jup_ne (by omega)] | rw [jup_nk (by omega)])); exact x4) ⟨by omega, by omega⟩ (by (repeat (first | rw [jup_eq] | rw [jup_ne (by omega)] | rw [jup_nk (by omega)])); exact kb)).mono ?_
  rintro v S2 D9 ⟨rfl, rfl, t1, t2, t3⟩
  refine ⟨rfl, rfl, fun y a b => ?_, fun z a b e => ?_, fun j hj => ?_, ?_⟩
  · funext z; rw [t3 y z (fun w => a w.1)]; (repeat (first | rw [jup_eq] | rw [jup_ne (by omega)] | rw [jup_nk (by omega)])); rw [x1 y z (fun w => a w.1)]; (repeat (first | rw [jup_eq] | rw [jup_ne (by omega)] | rw [jup_nk (by omega)]))
  · rw [t3 M z (fun w => by have := w.2; omega)]; (repeat (first | rw [jup_eq] | rw [jup_ne (by omega)] | rw [jup_nk (by omega)])); rw [x1 M z (fun w => by have := w.2; omega)]; (repeat (first | rw [jup_eq] | rw [jup_ne (by omega)] | rw [jup_nk (by omega)]))
  · rw [t3 _ j (fun w => by have := w.1; omega)]; (repeat (first | rw [jup_eq] | rw [jup_ne (by omega)] | rw [jup_nk (by omega)])); rw [x1 _ j (fun w => by have := w.1; omega)]; (repeat (first | rw [jup_eq] | rw [jup_ne (by omega)] | rw [jup_nk (by omega)]))
  · rw [t1]; exact if_neg (by omega)
theorem ro_2_y {G : JG} {S : JS} {D : JD} {d : Nat} {M n : Int} {f : Int → Int} {p F k : Int} {q a : Int} (hM : jMo S M) (hn : D M 7 = n) (hf : D (M + 6) = f) (n0 : 0 ≤ n) (n1 : n ≤ 60) (fr : ∀ z : Int, 0 ≤ f z ∧ f z ≤ 65535) (hp : D M 9 = p) (p0 : 0 ≤ p) (p1 : p ≤ n) (hF : D M 10 = F) (rF : i32 F) (F0 : F < 0) (hk : D M 11 = k) (k0 : 0 ≤ k) (k1 : k ≤ 25) (hW : oW f p (oE f n p) = 2) (hx : oNm f n (oE f n p) 0 3 = (some a, q)) : JM G yX8_readOrder cX8_readOrder 4 none (d + 2) (0, 0) S D [.inr (.inr (some M))] (jnP S (fun D2 => jRx D D2 M n F k f (oRd f n p))) := by
  obtain ⟨mk, m0, m1, m2, m4, m5, m8, m12, y1, l1, y2, l2, y3, l3, y4, l4, y5, l5, y6, l6, y7, l7⟩ := id hM
  have eb := oE_b (f := f) p1
  have hres : oRd f n p = (some (2, a, 0), q) := by
    unfold oRd
    rw [if_neg (by rw [hW]; decide), hW]
    unfold oAr
    rw [show oM1 2 = 3 from rfl, hx]
    exact if_pos rfl
  rw [hres]
  show JX _ _ _ _ _ _ _ _ _ _ _ [_, _, _, _] _ _
  refine x_aload_n dX8_readOrder_0 rfl ?_
  refine x_aload_n dX8_readOrder_1 rfl ?_
  refine gf_RX8_190 dX8_readOrder_2 rfl (by assumption) ?_
  rw [hp]
  refine c_RX8_197d dX8_readOrder_5 rfl (kX8_endOf hM hn hf n0 n1 fr p0 p1) (by assumption) (Nat.le_of_ble_eq_true rfl) (Nat.le_of_ble_eq_true rfl) ⟨Nat.le_refl _, Nat.le_refl _⟩ ?_
  refine x_istore_n dX8_readOrder_8 (by decide) ?_
  show JX _ _ _ _ _ _ _ _ _ _ _ [_, _, _, _] _ _
  refine x_aload_n dX8_readOrder_9 rfl ?_
  refine x_aload_n dX8_readOrder_10 rfl ?_
  refine gf_RX8_190 dX8_readOrder_11 rfl (by assumption) ?_
  rw [hp]
  refine x_iload_n dX8_readOrder_14 rfl ?_
  refine c_RX8_200d dX8_readOrder_15 rfl (kX8_word hM hn hf n0 n1 fr p0 eb.1 eb.2) (by assumption) (Nat.le_of_ble_eq_true rfl) (Nat.le_of_ble_eq_true rfl) ⟨Nat.le_refl _, Nat.le_refl _⟩ ?_
  rw [hW, if_neg (show ¬ (2 : Int) < 0 by decide)]
  refine x_istore_n dX8_readOrder_18 (by decide) ?_
  show JX _ _ _ _ _ _ _ _ _ _ _ [_, _, _, _] _ _
  refine x_iload_n dX8_readOrder_19 rfl ?_
  refine x_if_ge (tgt := 31) dX8_readOrder_20 (by decide) ⟨by omega, by omega⟩ (fun hb20 => ?_) (fun h => (h (by omega)).elim)
  refine x_aload_n dX8_readOrder_31 rfl ?_
  refine x_iload_n dX8_readOrder_32 rfl ?_
  refine pf_RX8_190 dX8_readOrder_33 rfl (by assumption) ?_
  refine x_iconst dX8_readOrder_36 ?_
  refine x_aload_n dX8_readOrder_37 rfl ?_
  refine gf_RX8_203 dX8_readOrder_38 rfl (by assumption) ?_
  rw [jup_nk (show (11 : Int) ≠ 9 by decide), hk]
  refine x_imul dX8_readOrder_41 ?_
  refine x_istore_n dX8_readOrder_42 (by decide) ?_
  show JX _ _ _ _ _ _ _ _ _ _ _ [_, _, _, _] _ _
  refine x_aload_n dX8_readOrder_43 rfl ?_
  refine gf_RX8_30 dX8_readOrder_44 rfl (by assumption) ?_
  rw [m12]
  refine x_iload_n dX8_readOrder_47 rfl ?_
  refine x_iload_n dX8_readOrder_48 rfl ?_
  refine x_iast dX8_readOrder_49 (by assumption) ⟨by omega, by omega⟩ ?_
  refine x_aload_n dX8_readOrder_50 rfl ?_
  refine gf_RX8_30 dX8_readOrder_51 rfl (by assumption) ?_
  rw [m12]
  refine x_iload_n dX8_readOrder_54 rfl ?_
  refine x_iconst dX8_readOrder_55 ?_
  refine x_iadd dX8_readOrder_56 ?_
  refine x_aload_n dX8_readOrder_57 rfl ?_
  refine x_iconst dX8_readOrder_58 ?_
  refine x_iload_n dX8_readOrder_59 rfl ?_
  refine x_iconst dX8_readOrder_60 ?_
  refine x_ic_eq (tgt := 69) dX8_readOrder_61 (by decide) ⟨by omega, by omega⟩ ⟨by omega, by omega⟩ (fun h => absurd h (by omega)) (fun hb61 => ?_)
  refine x_iload_n dX8_readOrder_64 rfl ?_
  refine x_iconst dX8_readOrder_65 ?_
  refine x_ic_le (tgt := 74) dX8_readOrder_66 (by decide) ⟨by omega, by omega⟩ ⟨by omega, by omega⟩ (fun hb66 => ?_) (fun h => (h (by omega)).elim)
  refine x_iconst dX8_readOrder_74 ?_
  have na : (jup (jup D M 9 (oE f n p)) (M + 7) (3 * k) 2) M 7 = n := by (repeat (first | rw [jup_eq] | rw [jup_ne (by omega)] | rw [jup_nk (by omega)])); first | exact hn | rfl
  have fa : (jup (jup D M 9 (oE f n p)) (M + 7) (3 * k) 2) (M + 6) = f := by (repeat (rw [jup_off (by omega)])); exact hf
  have pa : (jup (jup D M 9 (oE f n p)) (M + 7) (3 * k) 2) M 9 = (oE f n p) := by (repeat (first | rw [jup_eq] | rw [jup_ne (by omega)] | rw [jup_nk (by omega)]))
  have Fa : (jup (jup D M 9 (oE f n p)) (M + 7) (3 * k) 2) M 10 = F := by (repeat (first | rw [jup_eq] | rw [jup_ne (by omega)] | rw [jup_nk (by omega)])); exact hF
  have ka : (jup (jup D M 9 (oE f n p)) (M + 7) (3 * k) 2) M 11 = k := by (repeat (first | rw [jup_eq] | rw [jup_ne (by omega)] | rw [jup_nk (by omega)])); exact hk
  refine c_RX8_206p dX8_readOrder_75 rfl (kX8_number hM na fa n0 n1 fr pa (by omega) (by omega) Fa rF F0 ⟨by omega, by omega⟩ ⟨by omega, by omega⟩) (by assumption) (Nat.le_of_ble_eq_true rfl) (Nat.le_of_ble_eq_true rfl) ⟨Nat.le_refl _, Nat.le_refl _⟩ (fun w5 D5 h5 => ?_)
  obtain ⟨x1, x2, x3⟩ := h5
  rw [hx] at x3
  obtain ⟨hu, x4, x5⟩ := (x3 : w5 = .inl a ∧ D5 M 9 = q ∧ D5 M 10 = _)
  subst hu
  have qb := oNm_b eb.2 hx
  have Fb : D5 M 10 = F := by rw [x5]; exact Fa
  have nb : D5 M 7 = n := by rw [x1 M 7 (fun w => by have := w.2; omega)]; exact na
  have fb : D5 (M + 6) = f := by rw [← fa]; funext z; exact x1 _ z (fun w => by have := w.1; omega)
  have kb : D5 M 11 = k := by rw [x1 M 11 (fun w => by have := w.2; omega)]; exact ka
  refine x_iast dX8_readOrder_78 (by assumption) ⟨by omega, by omega⟩ ?_
  refine x_aload_n dX8_readOrder_79 rfl ?_
  refine gf_RX8_30 dX8_readOrder_80 rfl (by assumption) ?_
  rw [m12]
  refine x_iload_n dX8_readOrder_83 rfl ?_
  refine x_iconst dX8_readOrder_84 ?_
  refine x_iadd dX8_readOrder_85 ?_
  refine x_iload_n dX8_readOrder_86 rfl ?_
  refine x_iconst dX8_readOrder_87 ?_
  refine x_ic_ne (tgt := 95) dX8_readOrder_88 (by decide) ⟨by omega, by omega⟩ ⟨by omega, by omega⟩ (fun h => absurd h (by omega)) (fun hb88 => ?_)
  refine x_iconst dX8_readOrder_91 ?_
  refine x_goto (tgt := 131) dX8_readOrder_92 (by decide) ?_
  refine x_iast dX8_readOrder_131 (by assumption) ⟨by omega, by omega⟩ ?_
  refine (ro_tail (D := (jup (jup D5 (M + 7) (3 * k + 1) a) (M + 7) (3 * k + 2) 0)) (q := q) (F := F) (k := k) hM (by (repeat (first | rw [jup_eq] | rw [jup_ne (by omega)] | rw [jup_nk (by omega)])); exact nb) (by (repeat (rw [jup_off (by omega)])); exact fb) n0 n1 fr (by (repeat (first | rw [jup_eq] | rw [jup_ne (by omega)] | rw [jup_nk (by omega)])); exact x4) (by omega) (by omega) (by (repeat (first | rw [jup_eq] | rw [jup_ne (by omega)] | rw [jup_nk (by omega)])); exact Fb) rF (by (repeat (first | rw [jup_eq] | rw [jup_ne (by omega)] | rw [jup_nk (by omega)])); exact kb)).mono ?_
  rintro v S2 D9 ⟨rfl, rfl, t1, t2, t3⟩
  refine ⟨rfl, rfl, fun y a b => ?_, fun z a b e => ?_, fun j hj => ?_, ?_⟩
  · funext z; rw [t3 y z (fun w => a w.1)]; (repeat (first | rw [jup_eq] | rw [jup_ne (by omega)] | rw [jup_nk (by omega)])); rw [x1 y z (fun w => a w.1)]; (repeat (first | rw [jup_eq] | rw [jup_ne (by omega)] | rw [jup_nk (by omega)]))
  · rw [t3 M z (fun w => by have := w.2; omega)]; (repeat (first | rw [jup_eq] | rw [jup_ne (by omega)] | rw [jup_nk (by omega)])); rw [x1 M z (fun w => by have := w.2; omega)]; (repeat (first | rw [jup_eq] | rw [jup_ne (by omega)] | rw [jup_nk (by omega)]))
  · rw [t3 _ j (fun w => by have := w.1; omega)]; (repeat (first | rw [jup_eq] | rw [jup_ne (by omega)] | rw [jup_nk (by omega)])); rw [x1 _ j (fun w => by have := w.1; omega)]; (repeat (first | rw [jup_eq] | rw [jup_ne (by omega)] | rw [jup_nk (by omega)]))
  · refine ⟨?_, t2, ?_, ?_, ?_, ?_⟩
    · rw [t3 M 9 (fun w => by have := w.2; omega)]; (repeat (first | rw [jup_eq] | rw [jup_ne (by omega)] | rw [jup_nk (by omega)])); exact x4
    · rw [t3 _ _ (fun w => by have := w.1; omega)]; (repeat (first | rw [jup_eq] | rw [jup_ne (by omega)] | rw [jup_nk (by omega)])); rw [x1 _ _ (fun w => by have := w.1; omega)]; (repeat (first | rw [jup_eq] | rw [jup_ne (by omega)] | rw [jup_nk (by omega)]))
    · rw [t3 _ _ (fun w => by have := w.1; omega)]; (repeat (first | rw [jup_eq] | rw [jup_ne (by omega)] | rw [jup_nk (by omega)]))
    · rw [t3 _ _ (fun w => by have := w.1; omega)]; (repeat (first | rw [jup_eq] | rw [jup_ne (by omega)] | rw [jup_nk (by omega)]))
    · rw [t1]; show _ = if q < n ∧ f q ≠ 59 then q else F; split <;> split <;> omega
theorem ro_3_n {G : JG} {S : JS} {D : JD} {d : Nat} {M n : Int} {f : Int → Int} {p F k : Int} {q : Int} (hM : jMo S M) (hn : D M 7 = n) (hf : D (M + 6) = f) (n0 : 0 ≤ n) (n1 : n ≤ 60) (fr : ∀ z : Int, 0 ≤ f z ∧ f z ≤ 65535) (hp : D M 9 = p) (p0 : 0 ≤ p) (p1 : p ≤ n) (hF : D M 10 = F) (rF : i32 F) (F0 : F < 0) (hk : D M 11 = k) (k0 : 0 ≤ k) (k1 : k ≤ 25) (hW : oW f p (oE f n p) = 3) (hx : oNm f n (oE f n p) 0 11 = (none, q)) : JM G yX8_readOrder cX8_readOrder 4 none (d + 2) (0, 0) S D [.inr (.inr (some M))] (jnP S (fun D2 => jRx D D2 M n F k f (oRd f n p))) := by
  obtain ⟨mk, m0, m1, m2, m4, m5, m8, m12, y1, l1, y2, l2, y3, l3, y4, l4, y5, l5, y6, l6, y7, l7⟩ := id hM
  have eb := oE_b (f := f) p1
  have hres : oRd f n p = (none, q) := by
    unfold oRd
    rw [if_neg (by rw [hW]; decide), hW]
    unfold oAr
    rw [show oM1 3 = 11 from rfl, hx]
  rw [hres]
  show JX _ _ _ _ _ _ _ _ _ _ _ [_, _, _, _] _ _
  refine x_aload_n dX8_readOrder_0 rfl ?_
  refine x_aload_n dX8_readOrder_1 rfl ?_
  refine gf_RX8_190 dX8_readOrder_2 rfl (by assumption) ?_
  rw [hp]
  refine c_RX8_197d dX8_readOrder_5 rfl (kX8_endOf hM hn hf n0 n1 fr p0 p1) (by assumption) (Nat.le_of_ble_eq_true rfl) (Nat.le_of_ble_eq_true rfl) ⟨Nat.le_refl _, Nat.le_refl _⟩ ?_
  refine x_istore_n dX8_readOrder_8 (by decide) ?_
  show JX _ _ _ _ _ _ _ _ _ _ _ [_, _, _, _] _ _
  refine x_aload_n dX8_readOrder_9 rfl ?_
  refine x_aload_n dX8_readOrder_10 rfl ?_
  refine gf_RX8_190 dX8_readOrder_11 rfl (by assumption) ?_
  rw [hp]
  refine x_iload_n dX8_readOrder_14 rfl ?_
  refine c_RX8_200d dX8_readOrder_15 rfl (kX8_word hM hn hf n0 n1 fr p0 eb.1 eb.2) (by assumption) (Nat.le_of_ble_eq_true rfl) (Nat.le_of_ble_eq_true rfl) ⟨Nat.le_refl _, Nat.le_refl _⟩ ?_
  rw [hW, if_neg (show ¬ (3 : Int) < 0 by decide)]
  refine x_istore_n dX8_readOrder_18 (by decide) ?_
  show JX _ _ _ _ _ _ _ _ _ _ _ [_, _, _, _] _ _
  refine x_iload_n dX8_readOrder_19 rfl ?_
  refine x_if_ge (tgt := 31) dX8_readOrder_20 (by decide) ⟨by omega, by omega⟩ (fun hb20 => ?_) (fun h => (h (by omega)).elim)
  refine x_aload_n dX8_readOrder_31 rfl ?_
  refine x_iload_n dX8_readOrder_32 rfl ?_
  refine pf_RX8_190 dX8_readOrder_33 rfl (by assumption) ?_
  refine x_iconst dX8_readOrder_36 ?_
  refine x_aload_n dX8_readOrder_37 rfl ?_
  refine gf_RX8_203 dX8_readOrder_38 rfl (by assumption) ?_
  rw [jup_nk (show (11 : Int) ≠ 9 by decide), hk]
  refine x_imul dX8_readOrder_41 ?_
  refine x_istore_n dX8_readOrder_42 (by decide) ?_
  show JX _ _ _ _ _ _ _ _ _ _ _ [_, _, _, _] _ _
  refine x_aload_n dX8_readOrder_43 rfl ?_
  refine gf_RX8_30 dX8_readOrder_44 rfl (by assumption) ?_
  rw [m12]
  refine x_iload_n dX8_readOrder_47 rfl ?_
  refine x_iload_n dX8_readOrder_48 rfl ?_
  refine x_iast dX8_readOrder_49 (by assumption) ⟨by omega, by omega⟩ ?_
  refine x_aload_n dX8_readOrder_50 rfl ?_
  refine gf_RX8_30 dX8_readOrder_51 rfl (by assumption) ?_
  rw [m12]
  refine x_iload_n dX8_readOrder_54 rfl ?_
  refine x_iconst dX8_readOrder_55 ?_
  refine x_iadd dX8_readOrder_56 ?_
  refine x_aload_n dX8_readOrder_57 rfl ?_
  refine x_iconst dX8_readOrder_58 ?_
  refine x_iload_n dX8_readOrder_59 rfl ?_
  refine x_iconst dX8_readOrder_60 ?_
  refine x_ic_eq (tgt := 69) dX8_readOrder_61 (by decide) ⟨by omega, by omega⟩ ⟨by omega, by omega⟩ (fun hb61 => ?_) (fun h => (h (by omega)).elim)
  refine x_bipush dX8_readOrder_69 (by decide) ?_
  refine x_goto (tgt := 75) dX8_readOrder_71 (by decide) ?_
  have na : (jup (jup D M 9 (oE f n p)) (M + 7) (3 * k) 3) M 7 = n := by (repeat (first | rw [jup_eq] | rw [jup_ne (by omega)] | rw [jup_nk (by omega)])); first | exact hn | rfl
  have fa : (jup (jup D M 9 (oE f n p)) (M + 7) (3 * k) 3) (M + 6) = f := by (repeat (rw [jup_off (by omega)])); exact hf
  have pa : (jup (jup D M 9 (oE f n p)) (M + 7) (3 * k) 3) M 9 = (oE f n p) := by (repeat (first | rw [jup_eq] | rw [jup_ne (by omega)] | rw [jup_nk (by omega)]))
  have Fa : (jup (jup D M 9 (oE f n p)) (M + 7) (3 * k) 3) M 10 = F := by (repeat (first | rw [jup_eq] | rw [jup_ne (by omega)] | rw [jup_nk (by omega)])); exact hF
  have ka : (jup (jup D M 9 (oE f n p)) (M + 7) (3 * k) 3) M 11 = k := by (repeat (first | rw [jup_eq] | rw [jup_ne (by omega)] | rw [jup_nk (by omega)])); exact hk
  refine c_RX8_206p dX8_readOrder_75 rfl (kX8_number hM na fa n0 n1 fr pa (by omega) (by omega) Fa rF F0 ⟨by omega, by omega⟩ ⟨by omega, by omega⟩) (by assumption) (Nat.le_of_ble_eq_true rfl) (Nat.le_of_ble_eq_true rfl) ⟨Nat.le_refl _, Nat.le_refl _⟩ (fun w5 D5 h5 => ?_)
  obtain ⟨x1, x2, x3⟩ := h5
  rw [hx] at x3
  obtain ⟨⟨u, hu⟩, x4⟩ := x3
  subst hu
  replace x4 : D5 M 10 = q := x4
  have qb := oNm_q (f := f) (n := n) (p := oE f n p) (least := 0) (most := 11) eb.2
  rw [hx] at qb
  replace qb : oE f n p ≤ q ∧ q ≤ n := qb
  have nb : D5 M 7 = n := by rw [x1 M 7 (fun w => by have := w.2; omega)]; exact na
  have fb : D5 (M + 6) = f := by rw [← fa]; funext z; exact x1 _ z (fun w => by have := w.1; omega)
  have kb : D5 M 11 = k := by rw [x1 M 11 (fun w => by have := w.2; omega)]; exact ka
  refine x_iast dX8_readOrder_78 (by assumption) ⟨by omega, by omega⟩ ?_
  refine x_aload_n dX8_readOrder_79 rfl ?_
  refine gf_RX8_30 dX8_readOrder_80 rfl (by assumption) ?_
  rw [m12]
  refine x_iload_n dX8_readOrder_83 rfl ?_
  refine x_iconst dX8_readOrder_84 ?_
  refine x_iadd dX8_readOrder_85 ?_
  refine x_iload_n dX8_readOrder_86 rfl ?_
  refine x_iconst dX8_readOrder_87 ?_
  refine x_ic_ne (tgt := 95) dX8_readOrder_88 (by decide) ⟨by omega, by omega⟩ ⟨by omega, by omega⟩ (fun hb88 => ?_) (fun h => (h (by omega)).elim)
  refine x_iload_n dX8_readOrder_95 rfl ?_
  refine x_iconst dX8_readOrder_96 ?_
  refine x_ic_ne (tgt := 109) dX8_readOrder_97 (by decide) ⟨by omega, by omega⟩ ⟨by omega, by omega⟩ (fun h => absurd h (by omega)) (fun hb97 => ?_)
  refine x_aload_n dX8_readOrder_100 rfl ?_
  refine x_iconst dX8_readOrder_101 ?_
  refine x_iconst dX8_readOrder_102 ?_
  have nc : (jup D5 (M + 7) (3 * k + 1) u) M 7 = n := by (repeat (first | rw [jup_eq] | rw [jup_ne (by omega)] | rw [jup_nk (by omega)])); exact nb
  have fc : (jup D5 (M + 7) (3 * k + 1) u) (M + 6) = f := by (repeat (rw [jup_off (by omega)])); exact fb
  have Fc : (jup D5 (M + 7) (3 * k + 1) u) M 10 = q := by (repeat (first | rw [jup_eq] | rw [jup_ne (by omega)] | rw [jup_nk (by omega)])); exact x4
  refine c_RX8_206d dX8_readOrder_103 rfl (kX8_number_F hM nc fc n0 n1 fr Fc ⟨by omega, by omega⟩ (by omega)) (by assumption) (Nat.le_of_ble_eq_true rfl) (Nat.le_of_ble_eq_true rfl) ⟨Nat.le_refl _, Nat.le_refl _⟩ ?_
  refine x_goto (tgt := 131) dX8_readOrder_106 (by decide) ?_
  refine x_iast dX8_readOrder_131 (by assumption) ⟨by omega, by omega⟩ ?_
  refine (ro_tail (D := (jup (jup D5 (M + 7) (3 * k + 1) u) (M + 7) (3 * k + 2) 0)) (q := D5 M 9) (F := q) (k := k) hM (by (repeat (first | rw [jup_eq] | rw [jup_ne (by omega)] | rw [jup_nk (by omega)])); exact nb) (by (repeat (rw [jup_off (by omega)])); exact fb) n0 n1 fr (by (repeat (first | rw [jup_eq] | rw [jup_ne (by omega)] | rw [jup_nk (by omega)])); try rfl) x2.1 x2.2 (by (repeat (first | rw [jup_eq] | rw [jup_ne (by omega)] | rw [jup_nk (by omega)])); exact x4) ⟨by omega, by omega⟩ (by (repeat (first | rw [jup_eq] | rw [jup_ne (by omega)] | rw [jup_nk (by omega)])); exact kb)).mono ?_
  rintro v S2 D9 ⟨rfl, rfl, t1, t2, t3⟩
  refine ⟨rfl, rfl, fun y a b => ?_, fun z a b e => ?_, fun j hj => ?_, ?_⟩
  · funext z; rw [t3 y z (fun w => a w.1)]; (repeat (first | rw [jup_eq] | rw [jup_ne (by omega)] | rw [jup_nk (by omega)])); rw [x1 y z (fun w => a w.1)]; (repeat (first | rw [jup_eq] | rw [jup_ne (by omega)] | rw [jup_nk (by omega)]))
  · rw [t3 M z (fun w => by have := w.2; omega)]; (repeat (first | rw [jup_eq] | rw [jup_ne (by omega)] | rw [jup_nk (by omega)])); rw [x1 M z (fun w => by have := w.2; omega)]; (repeat (first | rw [jup_eq] | rw [jup_ne (by omega)] | rw [jup_nk (by omega)]))
  · rw [t3 _ j (fun w => by have := w.1; omega)]; (repeat (first | rw [jup_eq] | rw [jup_ne (by omega)] | rw [jup_nk (by omega)])); rw [x1 _ j (fun w => by have := w.1; omega)]; (repeat (first | rw [jup_eq] | rw [jup_ne (by omega)] | rw [jup_nk (by omega)]))
  · rw [t1]; exact if_neg (by omega)
theorem ro_3_yn {G : JG} {S : JS} {D : JD} {d : Nat} {M n : Int} {f : Int → Int} {p F k : Int} {q a q5 : Int} (hM : jMo S M) (hn : D M 7 = n) (hf : D (M + 6) = f) (n0 : 0 ≤ n) (n1 : n ≤ 60) (fr : ∀ z : Int, 0 ≤ f z ∧ f z ≤ 65535) (hp : D M 9 = p) (p0 : 0 ≤ p) (p1 : p ≤ n) (hF : D M 10 = F) (rF : i32 F) (F0 : F < 0) (hk : D M 11 = k) (k0 : 0 ≤ k) (k1 : k ≤ 25) (hW : oW f p (oE f n p) = 3) (hx : oNm f n (oE f n p) 0 11 = (some a, q)) (hy : oNm f n q 0 3 = (none, q5)) : JM G yX8_readOrder cX8_readOrder 4 none (d + 2) (0, 0) S D [.inr (.inr (some M))] (jnP S (fun D2 => jRx D D2 M n F k f (oRd f n p))) := by
  obtain ⟨mk, m0, m1, m2, m4, m5, m8, m12, y1, l1, y2, l2, y3, l3, y4, l4, y5, l5, y6, l6, y7, l7⟩ := id hM
  have eb := oE_b (f := f) p1
  have hres : oRd f n p = (none, q5) := by
    unfold oRd
    rw [if_neg (by rw [hW]; decide), hW]
    unfold oAr
    rw [show oM1 3 = 11 from rfl, hx]
    show (if (3 : Int) = 2 then ((some (3, a, 0), q) : Option oOrd × Int) else match oNm f n q (oL2 3) (oM2 3) with | (none, q2) => (none, q2) | (some b, q2) => (some (3, a, b), q2)) = _
    rw [if_neg (by decide), show oL2 3 = 0 from rfl, show oM2 3 = 3 from rfl, hy]
  rw [hres]
  show JX _ _ _ _ _ _ _ _ _ _ _ [_, _, _, _] _ _
  refine x_aload_n dX8_readOrder_0 rfl ?_
  refine x_aload_n dX8_readOrder_1 rfl ?_
  refine gf_RX8_190 dX8_readOrder_2 rfl (by assumption) ?_
  rw [hp]
  refine c_RX8_197d dX8_readOrder_5 rfl (kX8_endOf hM hn hf n0 n1 fr p0 p1) (by assumption) (Nat.le_of_ble_eq_true rfl) (Nat.le_of_ble_eq_true rfl) ⟨Nat.le_refl _, Nat.le_refl _⟩ ?_
  refine x_istore_n dX8_readOrder_8 (by decide) ?_
  show JX _ _ _ _ _ _ _ _ _ _ _ [_, _, _, _] _ _
  refine x_aload_n dX8_readOrder_9 rfl ?_
  refine x_aload_n dX8_readOrder_10 rfl ?_
  refine gf_RX8_190 dX8_readOrder_11 rfl (by assumption) ?_
  rw [hp]
  refine x_iload_n dX8_readOrder_14 rfl ?_
  refine c_RX8_200d dX8_readOrder_15 rfl (kX8_word hM hn hf n0 n1 fr p0 eb.1 eb.2) (by assumption) (Nat.le_of_ble_eq_true rfl) (Nat.le_of_ble_eq_true rfl) ⟨Nat.le_refl _, Nat.le_refl _⟩ ?_
  rw [hW, if_neg (show ¬ (3 : Int) < 0 by decide)]
  refine x_istore_n dX8_readOrder_18 (by decide) ?_
  show JX _ _ _ _ _ _ _ _ _ _ _ [_, _, _, _] _ _
  refine x_iload_n dX8_readOrder_19 rfl ?_
  refine x_if_ge (tgt := 31) dX8_readOrder_20 (by decide) ⟨by omega, by omega⟩ (fun hb20 => ?_) (fun h => (h (by omega)).elim)
  refine x_aload_n dX8_readOrder_31 rfl ?_
  refine x_iload_n dX8_readOrder_32 rfl ?_
  refine pf_RX8_190 dX8_readOrder_33 rfl (by assumption) ?_
  refine x_iconst dX8_readOrder_36 ?_
  refine x_aload_n dX8_readOrder_37 rfl ?_
  refine gf_RX8_203 dX8_readOrder_38 rfl (by assumption) ?_
  rw [jup_nk (show (11 : Int) ≠ 9 by decide), hk]
  refine x_imul dX8_readOrder_41 ?_
  refine x_istore_n dX8_readOrder_42 (by decide) ?_
  show JX _ _ _ _ _ _ _ _ _ _ _ [_, _, _, _] _ _
  refine x_aload_n dX8_readOrder_43 rfl ?_
  refine gf_RX8_30 dX8_readOrder_44 rfl (by assumption) ?_
  rw [m12]
  refine x_iload_n dX8_readOrder_47 rfl ?_
  refine x_iload_n dX8_readOrder_48 rfl ?_
  refine x_iast dX8_readOrder_49 (by assumption) ⟨by omega, by omega⟩ ?_
  refine x_aload_n dX8_readOrder_50 rfl ?_
  refine gf_RX8_30 dX8_readOrder_51 rfl (by assumption) ?_
  rw [m12]
  refine x_iload_n dX8_readOrder_54 rfl ?_
  refine x_iconst dX8_readOrder_55 ?_
  refine x_iadd dX8_readOrder_56 ?_
  refine x_aload_n dX8_readOrder_57 rfl ?_
  refine x_iconst dX8_readOrder_58 ?_
  refine x_iload_n dX8_readOrder_59 rfl ?_
  refine x_iconst dX8_readOrder_60 ?_
  refine x_ic_eq (tgt := 69) dX8_readOrder_61 (by decide) ⟨by omega, by omega⟩ ⟨by omega, by omega⟩ (fun hb61 => ?_) (fun h => (h (by omega)).elim)
  refine x_bipush dX8_readOrder_69 (by decide) ?_
  refine x_goto (tgt := 75) dX8_readOrder_71 (by decide) ?_
  have na : (jup (jup D M 9 (oE f n p)) (M + 7) (3 * k) 3) M 7 = n := by (repeat (first | rw [jup_eq] | rw [jup_ne (by omega)] | rw [jup_nk (by omega)])); first | exact hn | rfl
  have fa : (jup (jup D M 9 (oE f n p)) (M + 7) (3 * k) 3) (M + 6) = f := by (repeat (rw [jup_off (by omega)])); exact hf
  have pa : (jup (jup D M 9 (oE f n p)) (M + 7) (3 * k) 3) M 9 = (oE f n p) := by (repeat (first | rw [jup_eq] | rw [jup_ne (by omega)] | rw [jup_nk (by omega)]))
  have Fa : (jup (jup D M 9 (oE f n p)) (M + 7) (3 * k) 3) M 10 = F := by (repeat (first | rw [jup_eq] | rw [jup_ne (by omega)] | rw [jup_nk (by omega)])); exact hF
  have ka : (jup (jup D M 9 (oE f n p)) (M + 7) (3 * k) 3) M 11 = k := by (repeat (first | rw [jup_eq] | rw [jup_ne (by omega)] | rw [jup_nk (by omega)])); exact hk
  refine c_RX8_206p dX8_readOrder_75 rfl (kX8_number hM na fa n0 n1 fr pa (by omega) (by omega) Fa rF F0 ⟨by omega, by omega⟩ ⟨by omega, by omega⟩) (by assumption) (Nat.le_of_ble_eq_true rfl) (Nat.le_of_ble_eq_true rfl) ⟨Nat.le_refl _, Nat.le_refl _⟩ (fun w5 D5 h5 => ?_)
  obtain ⟨x1, x2, x3⟩ := h5
  rw [hx] at x3
  obtain ⟨hu, x4, x5⟩ := (x3 : w5 = .inl a ∧ D5 M 9 = q ∧ D5 M 10 = _)
  subst hu
  have qb := oNm_b eb.2 hx
  have Fb : D5 M 10 = F := by rw [x5]; exact Fa
  have nb : D5 M 7 = n := by rw [x1 M 7 (fun w => by have := w.2; omega)]; exact na
  have fb : D5 (M + 6) = f := by rw [← fa]; funext z; exact x1 _ z (fun w => by have := w.1; omega)
  have kb : D5 M 11 = k := by rw [x1 M 11 (fun w => by have := w.2; omega)]; exact ka
  refine x_iast dX8_readOrder_78 (by assumption) ⟨by omega, by omega⟩ ?_
  refine x_aload_n dX8_readOrder_79 rfl ?_
  refine gf_RX8_30 dX8_readOrder_80 rfl (by assumption) ?_
  rw [m12]
  refine x_iload_n dX8_readOrder_83 rfl ?_
  refine x_iconst dX8_readOrder_84 ?_
  refine x_iadd dX8_readOrder_85 ?_
  refine x_iload_n dX8_readOrder_86 rfl ?_
  refine x_iconst dX8_readOrder_87 ?_
  refine x_ic_ne (tgt := 95) dX8_readOrder_88 (by decide) ⟨by omega, by omega⟩ ⟨by omega, by omega⟩ (fun hb88 => ?_) (fun h => (h (by omega)).elim)
  refine x_iload_n dX8_readOrder_95 rfl ?_
  refine x_iconst dX8_readOrder_96 ?_
  refine x_ic_ne (tgt := 109) dX8_readOrder_97 (by decide) ⟨by omega, by omega⟩ ⟨by omega, by omega⟩ (fun h => absurd h (by omega)) (fun hb97 => ?_)
  refine x_aload_n dX8_readOrder_100 rfl ?_
  refine x_iconst dX8_readOrder_101 ?_
  refine x_iconst dX8_readOrder_102 ?_
  have nc : (jup D5 (M + 7) (3 * k + 1) a) M 7 = n := by (repeat (first | rw [jup_eq] | rw [jup_ne (by omega)] | rw [jup_nk (by omega)])); exact nb
  have fc : (jup D5 (M + 7) (3 * k + 1) a) (M + 6) = f := by (repeat (rw [jup_off (by omega)])); exact fb
  have pc : (jup D5 (M + 7) (3 * k + 1) a) M 9 = q := by (repeat (first | rw [jup_eq] | rw [jup_ne (by omega)] | rw [jup_nk (by omega)])); exact x4
  have Fc : (jup D5 (M + 7) (3 * k + 1) a) M 10 = F := by (repeat (first | rw [jup_eq] | rw [jup_ne (by omega)] | rw [jup_nk (by omega)])); exact Fb
  have kc : (jup D5 (M + 7) (3 * k + 1) a) M 11 = k := by (repeat (first | rw [jup_eq] | rw [jup_ne (by omega)] | rw [jup_nk (by omega)])); exact kb
  refine c_RX8_206p dX8_readOrder_103 rfl (kX8_number hM nc fc n0 n1 fr pc (by omega) (by omega) Fc rF F0 ⟨by omega, by omega⟩ ⟨by omega, by omega⟩) (by assumption) (Nat.le_of_ble_eq_true rfl) (Nat.le_of_ble_eq_true rfl) ⟨Nat.le_refl _, Nat.le_refl _⟩ (fun w6 D6 h6 => ?_)
  obtain ⟨z1, z2, z3⟩ := h6
  rw [hy] at z3
  obtain ⟨⟨u, hu⟩, z4⟩ := z3
  subst hu
  replace z4 : D6 M 10 = q5 := z4
  have qc := oNm_q (f := f) (n := n) (p := q) (least := 0) (most := 3) qb.2.1
  rw [hy] at qc
  replace qc : q ≤ q5 ∧ q5 ≤ n := qc
  have nd : D6 M 7 = n := by rw [z1 M 7 (fun w => by have := w.2; omega)]; exact nc
  have fd : D6 (M + 6) = f := by rw [← fc]; funext z; exact z1 _ z (fun w => by have := w.1; omega)
  have kd : D6 M 11 = k := by rw [z1 M 11 (fun w => by have := w.2; omega)]; exact kc
  refine x_goto (tgt := 131) dX8_readOrder_106 (by decide) ?_
  refine x_iast dX8_readOrder_131 (by assumption) ⟨by omega, by omega⟩ ?_
  refine (ro_tail (D := (jup D6 (M + 7) (3 * k + 2) u)) (q := D6 M 9) (F := q5) (k := k) hM (by (repeat (first | rw [jup_eq] | rw [jup_ne (by omega)] | rw [jup_nk (by omega)])); exact nd) (by (repeat (rw [jup_off (by omega)])); exact fd) n0 n1 fr (by (repeat (first | rw [jup_eq] | rw [jup_ne (by omega)] | rw [jup_nk (by omega)])); try rfl) z2.1 z2.2 (by (repeat (first | rw [jup_eq] | rw [jup_ne (by omega)] | rw [jup_nk (by omega)])); exact z4) ⟨by omega, by omega⟩ (by (repeat (first | rw [jup_eq] | rw [jup_ne (by omega)] | rw [jup_nk (by omega)])); exact kd)).mono ?_
  rintro v S2 D9 ⟨rfl, rfl, t1, t2, t3⟩
  refine ⟨rfl, rfl, fun y a b => ?_, fun z a b e => ?_, fun j hj => ?_, ?_⟩
  · funext z; rw [t3 y z (fun w => a w.1)]; (repeat (first | rw [jup_eq] | rw [jup_ne (by omega)] | rw [jup_nk (by omega)])); rw [z1 y z (fun w => a w.1)]; (repeat (first | rw [jup_eq] | rw [jup_ne (by omega)] | rw [jup_nk (by omega)])); rw [x1 y z (fun w => a w.1)]; (repeat (first | rw [jup_eq] | rw [jup_ne (by omega)] | rw [jup_nk (by omega)]))
  · rw [t3 M z (fun w => by have := w.2; omega)]; (repeat (first | rw [jup_eq] | rw [jup_ne (by omega)] | rw [jup_nk (by omega)])); rw [z1 M z (fun w => by have := w.2; omega)]; (repeat (first | rw [jup_eq] | rw [jup_ne (by omega)] | rw [jup_nk (by omega)])); rw [x1 M z (fun w => by have := w.2; omega)]; (repeat (first | rw [jup_eq] | rw [jup_ne (by omega)] | rw [jup_nk (by omega)]))
  · rw [t3 _ j (fun w => by have := w.1; omega)]; (repeat (first | rw [jup_eq] | rw [jup_ne (by omega)] | rw [jup_nk (by omega)])); rw [z1 _ j (fun w => by have := w.1; omega)]; (repeat (first | rw [jup_eq] | rw [jup_ne (by omega)] | rw [jup_nk (by omega)])); rw [x1 _ j (fun w => by have := w.1; omega)]; (repeat (first | rw [jup_eq] | rw [jup_ne (by omega)] | rw [jup_nk (by omega)]))
  · rw [t1]; exact if_neg (by omega)
theorem ro_3_yy {G : JG} {S : JS} {D : JD} {d : Nat} {M n : Int} {f : Int → Int} {p F k : Int} {q a q5 b : Int} (hM : jMo S M) (hn : D M 7 = n) (hf : D (M + 6) = f) (n0 : 0 ≤ n) (n1 : n ≤ 60) (fr : ∀ z : Int, 0 ≤ f z ∧ f z ≤ 65535) (hp : D M 9 = p) (p0 : 0 ≤ p) (p1 : p ≤ n) (hF : D M 10 = F) (rF : i32 F) (F0 : F < 0) (hk : D M 11 = k) (k0 : 0 ≤ k) (k1 : k ≤ 25) (hW : oW f p (oE f n p) = 3) (hx : oNm f n (oE f n p) 0 11 = (some a, q)) (hy : oNm f n q 0 3 = (some b, q5)) : JM G yX8_readOrder cX8_readOrder 4 none (d + 2) (0, 0) S D [.inr (.inr (some M))] (jnP S (fun D2 => jRx D D2 M n F k f (oRd f n p))) := by
  obtain ⟨mk, m0, m1, m2, m4, m5, m8, m12, y1, l1, y2, l2, y3, l3, y4, l4, y5, l5, y6, l6, y7, l7⟩ := id hM
  have eb := oE_b (f := f) p1
  have hres : oRd f n p = (some (3, a, b), q5) := by
    unfold oRd
    rw [if_neg (by rw [hW]; decide), hW]
    unfold oAr
    rw [show oM1 3 = 11 from rfl, hx]
    show (if (3 : Int) = 2 then ((some (3, a, 0), q) : Option oOrd × Int) else match oNm f n q (oL2 3) (oM2 3) with | (none, q2) => (none, q2) | (some b, q2) => (some (3, a, b), q2)) = _
    rw [if_neg (by decide), show oL2 3 = 0 from rfl, show oM2 3 = 3 from rfl, hy]
  rw [hres]
  show JX _ _ _ _ _ _ _ _ _ _ _ [_, _, _, _] _ _
  refine x_aload_n dX8_readOrder_0 rfl ?_
  refine x_aload_n dX8_readOrder_1 rfl ?_
  refine gf_RX8_190 dX8_readOrder_2 rfl (by assumption) ?_
  rw [hp]
  refine c_RX8_197d dX8_readOrder_5 rfl (kX8_endOf hM hn hf n0 n1 fr p0 p1) (by assumption) (Nat.le_of_ble_eq_true rfl) (Nat.le_of_ble_eq_true rfl) ⟨Nat.le_refl _, Nat.le_refl _⟩ ?_
  refine x_istore_n dX8_readOrder_8 (by decide) ?_
  show JX _ _ _ _ _ _ _ _ _ _ _ [_, _, _, _] _ _
  refine x_aload_n dX8_readOrder_9 rfl ?_
  refine x_aload_n dX8_readOrder_10 rfl ?_
  refine gf_RX8_190 dX8_readOrder_11 rfl (by assumption) ?_
  rw [hp]
  refine x_iload_n dX8_readOrder_14 rfl ?_
  refine c_RX8_200d dX8_readOrder_15 rfl (kX8_word hM hn hf n0 n1 fr p0 eb.1 eb.2) (by assumption) (Nat.le_of_ble_eq_true rfl) (Nat.le_of_ble_eq_true rfl) ⟨Nat.le_refl _, Nat.le_refl _⟩ ?_
  rw [hW, if_neg (show ¬ (3 : Int) < 0 by decide)]
  refine x_istore_n dX8_readOrder_18 (by decide) ?_
  show JX _ _ _ _ _ _ _ _ _ _ _ [_, _, _, _] _ _
  refine x_iload_n dX8_readOrder_19 rfl ?_
  refine x_if_ge (tgt := 31) dX8_readOrder_20 (by decide) ⟨by omega, by omega⟩ (fun hb20 => ?_) (fun h => (h (by omega)).elim)
  refine x_aload_n dX8_readOrder_31 rfl ?_
  refine x_iload_n dX8_readOrder_32 rfl ?_
  refine pf_RX8_190 dX8_readOrder_33 rfl (by assumption) ?_
  refine x_iconst dX8_readOrder_36 ?_
  refine x_aload_n dX8_readOrder_37 rfl ?_
  refine gf_RX8_203 dX8_readOrder_38 rfl (by assumption) ?_
  rw [jup_nk (show (11 : Int) ≠ 9 by decide), hk]
  refine x_imul dX8_readOrder_41 ?_
  refine x_istore_n dX8_readOrder_42 (by decide) ?_
  show JX _ _ _ _ _ _ _ _ _ _ _ [_, _, _, _] _ _
  refine x_aload_n dX8_readOrder_43 rfl ?_
  refine gf_RX8_30 dX8_readOrder_44 rfl (by assumption) ?_
  rw [m12]
  refine x_iload_n dX8_readOrder_47 rfl ?_
  refine x_iload_n dX8_readOrder_48 rfl ?_
  refine x_iast dX8_readOrder_49 (by assumption) ⟨by omega, by omega⟩ ?_
  refine x_aload_n dX8_readOrder_50 rfl ?_
  refine gf_RX8_30 dX8_readOrder_51 rfl (by assumption) ?_
  rw [m12]
  refine x_iload_n dX8_readOrder_54 rfl ?_
  refine x_iconst dX8_readOrder_55 ?_
  refine x_iadd dX8_readOrder_56 ?_
  refine x_aload_n dX8_readOrder_57 rfl ?_
  refine x_iconst dX8_readOrder_58 ?_
  refine x_iload_n dX8_readOrder_59 rfl ?_
  refine x_iconst dX8_readOrder_60 ?_
  refine x_ic_eq (tgt := 69) dX8_readOrder_61 (by decide) ⟨by omega, by omega⟩ ⟨by omega, by omega⟩ (fun hb61 => ?_) (fun h => (h (by omega)).elim)
  refine x_bipush dX8_readOrder_69 (by decide) ?_
  refine x_goto (tgt := 75) dX8_readOrder_71 (by decide) ?_
  have na : (jup (jup D M 9 (oE f n p)) (M + 7) (3 * k) 3) M 7 = n := by (repeat (first | rw [jup_eq] | rw [jup_ne (by omega)] | rw [jup_nk (by omega)])); first | exact hn | rfl
  have fa : (jup (jup D M 9 (oE f n p)) (M + 7) (3 * k) 3) (M + 6) = f := by (repeat (rw [jup_off (by omega)])); exact hf
  have pa : (jup (jup D M 9 (oE f n p)) (M + 7) (3 * k) 3) M 9 = (oE f n p) := by (repeat (first | rw [jup_eq] | rw [jup_ne (by omega)] | rw [jup_nk (by omega)]))
  have Fa : (jup (jup D M 9 (oE f n p)) (M + 7) (3 * k) 3) M 10 = F := by (repeat (first | rw [jup_eq] | rw [jup_ne (by omega)] | rw [jup_nk (by omega)])); exact hF
  have ka : (jup (jup D M 9 (oE f n p)) (M + 7) (3 * k) 3) M 11 = k := by (repeat (first | rw [jup_eq] | rw [jup_ne (by omega)] | rw [jup_nk (by omega)])); exact hk
  refine c_RX8_206p dX8_readOrder_75 rfl (kX8_number hM na fa n0 n1 fr pa (by omega) (by omega) Fa rF F0 ⟨by omega, by omega⟩ ⟨by omega, by omega⟩) (by assumption) (Nat.le_of_ble_eq_true rfl) (Nat.le_of_ble_eq_true rfl) ⟨Nat.le_refl _, Nat.le_refl _⟩ (fun w5 D5 h5 => ?_)
  obtain ⟨x1, x2, x3⟩ := h5
  rw [hx] at x3
  obtain ⟨hu, x4, x5⟩ := (x3 : w5 = .inl a ∧ D5 M 9 = q ∧ D5 M 10 = _)
  subst hu
  have qb := oNm_b eb.2 hx
  have Fb : D5 M 10 = F := by rw [x5]; exact Fa
  have nb : D5 M 7 = n := by rw [x1 M 7 (fun w => by have := w.2; omega)]; exact na
  have fb : D5 (M + 6) = f := by rw [← fa]; funext z; exact x1 _ z (fun w => by have := w.1; omega)
  have kb : D5 M 11 = k := by rw [x1 M 11 (fun w => by have := w.2; omega)]; exact ka
  refine x_iast dX8_readOrder_78 (by assumption) ⟨by omega, by omega⟩ ?_
  refine x_aload_n dX8_readOrder_79 rfl ?_
  refine gf_RX8_30 dX8_readOrder_80 rfl (by assumption) ?_
  rw [m12]
  refine x_iload_n dX8_readOrder_83 rfl ?_
  refine x_iconst dX8_readOrder_84 ?_
  refine x_iadd dX8_readOrder_85 ?_
  refine x_iload_n dX8_readOrder_86 rfl ?_
  refine x_iconst dX8_readOrder_87 ?_
  refine x_ic_ne (tgt := 95) dX8_readOrder_88 (by decide) ⟨by omega, by omega⟩ ⟨by omega, by omega⟩ (fun hb88 => ?_) (fun h => (h (by omega)).elim)
  refine x_iload_n dX8_readOrder_95 rfl ?_
  refine x_iconst dX8_readOrder_96 ?_
  refine x_ic_ne (tgt := 109) dX8_readOrder_97 (by decide) ⟨by omega, by omega⟩ ⟨by omega, by omega⟩ (fun h => absurd h (by omega)) (fun hb97 => ?_)
  refine x_aload_n dX8_readOrder_100 rfl ?_
  refine x_iconst dX8_readOrder_101 ?_
  refine x_iconst dX8_readOrder_102 ?_
  have nc : (jup D5 (M + 7) (3 * k + 1) a) M 7 = n := by (repeat (first | rw [jup_eq] | rw [jup_ne (by omega)] | rw [jup_nk (by omega)])); exact nb
  have fc : (jup D5 (M + 7) (3 * k + 1) a) (M + 6) = f := by (repeat (rw [jup_off (by omega)])); exact fb
  have pc : (jup D5 (M + 7) (3 * k + 1) a) M 9 = q := by (repeat (first | rw [jup_eq] | rw [jup_ne (by omega)] | rw [jup_nk (by omega)])); exact x4
  have Fc : (jup D5 (M + 7) (3 * k + 1) a) M 10 = F := by (repeat (first | rw [jup_eq] | rw [jup_ne (by omega)] | rw [jup_nk (by omega)])); exact Fb
  have kc : (jup D5 (M + 7) (3 * k + 1) a) M 11 = k := by (repeat (first | rw [jup_eq] | rw [jup_ne (by omega)] | rw [jup_nk (by omega)])); exact kb
  refine c_RX8_206p dX8_readOrder_103 rfl (kX8_number hM nc fc n0 n1 fr pc (by omega) (by omega) Fc rF F0 ⟨by omega, by omega⟩ ⟨by omega, by omega⟩) (by assumption) (Nat.le_of_ble_eq_true rfl) (Nat.le_of_ble_eq_true rfl) ⟨Nat.le_refl _, Nat.le_refl _⟩ (fun w6 D6 h6 => ?_)
  obtain ⟨z1, z2, z3⟩ := h6
  rw [hy] at z3
  obtain ⟨hu, z4, z5⟩ := (z3 : w6 = .inl b ∧ D6 M 9 = q5 ∧ D6 M 10 = _)
  subst hu
  have qc := oNm_b qb.2.1 hy
  have Fd : D6 M 10 = F := by rw [z5]; exact Fc
  have nd : D6 M 7 = n := by rw [z1 M 7 (fun w => by have := w.2; omega)]; exact nc
  have fd : D6 (M + 6) = f := by rw [← fc]; funext z; exact z1 _ z (fun w => by have := w.1; omega)
  have kd : D6 M 11 = k := by rw [z1 M 11 (fun w => by have := w.2; omega)]; exact kc
  refine x_goto (tgt := 131) dX8_readOrder_106 (by decide) ?_
  refine x_iast dX8_readOrder_131 (by assumption) ⟨by omega, by omega⟩ ?_
  refine (ro_tail (D := (jup D6 (M + 7) (3 * k + 2) b)) (q := q5) (F := F) (k := k) hM (by (repeat (first | rw [jup_eq] | rw [jup_ne (by omega)] | rw [jup_nk (by omega)])); exact nd) (by (repeat (rw [jup_off (by omega)])); exact fd) n0 n1 fr (by (repeat (first | rw [jup_eq] | rw [jup_ne (by omega)] | rw [jup_nk (by omega)])); exact z4) (by omega) (by omega) (by (repeat (first | rw [jup_eq] | rw [jup_ne (by omega)] | rw [jup_nk (by omega)])); exact Fd) rF (by (repeat (first | rw [jup_eq] | rw [jup_ne (by omega)] | rw [jup_nk (by omega)])); exact kd)).mono ?_
  rintro v S2 D9 ⟨rfl, rfl, t1, t2, t3⟩
  refine ⟨rfl, rfl, fun y a b => ?_, fun z a b e => ?_, fun j hj => ?_, ?_⟩
  · funext z; rw [t3 y z (fun w => a w.1)]; (repeat (first | rw [jup_eq] | rw [jup_ne (by omega)] | rw [jup_nk (by omega)])); rw [z1 y z (fun w => a w.1)]; (repeat (first | rw [jup_eq] | rw [jup_ne (by omega)] | rw [jup_nk (by omega)])); rw [x1 y z (fun w => a w.1)]; (repeat (first | rw [jup_eq] | rw [jup_ne (by omega)] | rw [jup_nk (by omega)]))
  · rw [t3 M z (fun w => by have := w.2; omega)]; (repeat (first | rw [jup_eq] | rw [jup_ne (by omega)] | rw [jup_nk (by omega)])); rw [z1 M z (fun w => by have := w.2; omega)]; (repeat (first | rw [jup_eq] | rw [jup_ne (by omega)] | rw [jup_nk (by omega)])); rw [x1 M z (fun w => by have := w.2; omega)]; (repeat (first | rw [jup_eq] | rw [jup_ne (by omega)] | rw [jup_nk (by omega)]))
  · rw [t3 _ j (fun w => by have := w.1; omega)]; (repeat (first | rw [jup_eq] | rw [jup_ne (by omega)] | rw [jup_nk (by omega)])); rw [z1 _ j (fun w => by have := w.1; omega)]; (repeat (first | rw [jup_eq] | rw [jup_ne (by omega)] | rw [jup_nk (by omega)])); rw [x1 _ j (fun w => by have := w.1; omega)]; (repeat (first | rw [jup_eq] | rw [jup_ne (by omega)] | rw [jup_nk (by omega)]))
  · refine ⟨?_, t2, ?_, ?_, ?_, ?_⟩
    · rw [t3 M 9 (fun w => by have := w.2; omega)]; (repeat (first | rw [jup_eq] | rw [jup_ne (by omega)] | rw [jup_nk (by omega)])); exact z4
    · rw [t3 _ _ (fun w => by have := w.1; omega)]; (repeat (first | rw [jup_eq] | rw [jup_ne (by omega)] | rw [jup_nk (by omega)])); rw [z1 _ _ (fun w => by have := w.1; omega)]; (repeat (first | rw [jup_eq] | rw [jup_ne (by omega)] | rw [jup_nk (by omega)])); rw [x1 _ _ (fun w => by have := w.1; omega)]; (repeat (first | rw [jup_eq] | rw [jup_ne (by omega)] | rw [jup_nk (by omega)]))
    · rw [t3 _ _ (fun w => by have := w.1; omega)]; (repeat (first | rw [jup_eq] | rw [jup_ne (by omega)] | rw [jup_nk (by omega)])); rw [z1 _ _ (fun w => by have := w.1; omega)]; (repeat (first | rw [jup_eq] | rw [jup_ne (by omega)] | rw [jup_nk (by omega)]))
    · rw [t3 _ _ (fun w => by have := w.1; omega)]; (repeat (first | rw [jup_eq] | rw [jup_ne (by omega)] | rw [jup_nk (by omega)]))
    · rw [t1]; show _ = if q5 < n ∧ f q5 ≠ 59 then q5 else F; split <;> split <;> omega
theorem ro_4_n {G : JG} {S : JS} {D : JD} {d : Nat} {M n : Int} {f : Int → Int} {p F k : Int} {q : Int} (hM : jMo S M) (hn : D M 7 = n) (hf : D (M + 6) = f) (n0 : 0 ≤ n) (n1 : n ≤ 60) (fr : ∀ z : Int, 0 ≤ f z ∧ f z ≤ 65535) (hp : D M 9 = p) (p0 : 0 ≤ p) (p1 : p ≤ n) (hF : D M 10 = F) (rF : i32 F) (F0 : F < 0) (hk : D M 11 = k) (k0 : 0 ≤ k) (k1 : k ≤ 25) (hW : oW f p (oE f n p) = 4) (hx : oNm f n (oE f n p) 0 3 = (none, q)) : JM G yX8_readOrder cX8_readOrder 4 none (d + 2) (0, 0) S D [.inr (.inr (some M))] (jnP S (fun D2 => jRx D D2 M n F k f (oRd f n p))) := by
  obtain ⟨mk, m0, m1, m2, m4, m5, m8, m12, y1, l1, y2, l2, y3, l3, y4, l4, y5, l5, y6, l6, y7, l7⟩ := id hM
  have eb := oE_b (f := f) p1
  have hres : oRd f n p = (none, q) := by
    unfold oRd
    rw [if_neg (by rw [hW]; decide), hW]
    unfold oAr
    rw [show oM1 4 = 3 from rfl, hx]
  rw [hres]
  show JX _ _ _ _ _ _ _ _ _ _ _ [_, _, _, _] _ _
  refine x_aload_n dX8_readOrder_0 rfl ?_
  refine x_aload_n dX8_readOrder_1 rfl ?_
  refine gf_RX8_190 dX8_readOrder_2 rfl (by assumption) ?_
  rw [hp]
  refine c_RX8_197d dX8_readOrder_5 rfl (kX8_endOf hM hn hf n0 n1 fr p0 p1) (by assumption) (Nat.le_of_ble_eq_true rfl) (Nat.le_of_ble_eq_true rfl) ⟨Nat.le_refl _, Nat.le_refl _⟩ ?_
  refine x_istore_n dX8_readOrder_8 (by decide) ?_
  show JX _ _ _ _ _ _ _ _ _ _ _ [_, _, _, _] _ _
  refine x_aload_n dX8_readOrder_9 rfl ?_
  refine x_aload_n dX8_readOrder_10 rfl ?_
  refine gf_RX8_190 dX8_readOrder_11 rfl (by assumption) ?_
  rw [hp]
  refine x_iload_n dX8_readOrder_14 rfl ?_
  refine c_RX8_200d dX8_readOrder_15 rfl (kX8_word hM hn hf n0 n1 fr p0 eb.1 eb.2) (by assumption) (Nat.le_of_ble_eq_true rfl) (Nat.le_of_ble_eq_true rfl) ⟨Nat.le_refl _, Nat.le_refl _⟩ ?_
  rw [hW, if_neg (show ¬ (4 : Int) < 0 by decide)]
  refine x_istore_n dX8_readOrder_18 (by decide) ?_
  show JX _ _ _ _ _ _ _ _ _ _ _ [_, _, _, _] _ _
  refine x_iload_n dX8_readOrder_19 rfl ?_
  refine x_if_ge (tgt := 31) dX8_readOrder_20 (by decide) ⟨by omega, by omega⟩ (fun hb20 => ?_) (fun h => (h (by omega)).elim)
  refine x_aload_n dX8_readOrder_31 rfl ?_
  refine x_iload_n dX8_readOrder_32 rfl ?_
  refine pf_RX8_190 dX8_readOrder_33 rfl (by assumption) ?_
  refine x_iconst dX8_readOrder_36 ?_
  refine x_aload_n dX8_readOrder_37 rfl ?_
  refine gf_RX8_203 dX8_readOrder_38 rfl (by assumption) ?_
  rw [jup_nk (show (11 : Int) ≠ 9 by decide), hk]
  refine x_imul dX8_readOrder_41 ?_
  refine x_istore_n dX8_readOrder_42 (by decide) ?_
  show JX _ _ _ _ _ _ _ _ _ _ _ [_, _, _, _] _ _
  refine x_aload_n dX8_readOrder_43 rfl ?_
  refine gf_RX8_30 dX8_readOrder_44 rfl (by assumption) ?_
  rw [m12]
  refine x_iload_n dX8_readOrder_47 rfl ?_
  refine x_iload_n dX8_readOrder_48 rfl ?_
  refine x_iast dX8_readOrder_49 (by assumption) ⟨by omega, by omega⟩ ?_
  refine x_aload_n dX8_readOrder_50 rfl ?_
  refine gf_RX8_30 dX8_readOrder_51 rfl (by assumption) ?_
  rw [m12]
  refine x_iload_n dX8_readOrder_54 rfl ?_
  refine x_iconst dX8_readOrder_55 ?_
  refine x_iadd dX8_readOrder_56 ?_
  refine x_aload_n dX8_readOrder_57 rfl ?_
  refine x_iconst dX8_readOrder_58 ?_
  refine x_iload_n dX8_readOrder_59 rfl ?_
  refine x_iconst dX8_readOrder_60 ?_
  refine x_ic_eq (tgt := 69) dX8_readOrder_61 (by decide) ⟨by omega, by omega⟩ ⟨by omega, by omega⟩ (fun h => absurd h (by omega)) (fun hb61 => ?_)
  refine x_iload_n dX8_readOrder_64 rfl ?_
  refine x_iconst dX8_readOrder_65 ?_
  refine x_ic_le (tgt := 74) dX8_readOrder_66 (by decide) ⟨by omega, by omega⟩ ⟨by omega, by omega⟩ (fun hb66 => ?_) (fun h => (h (by omega)).elim)
  refine x_iconst dX8_readOrder_74 ?_
  have na : (jup (jup D M 9 (oE f n p)) (M + 7) (3 * k) 4) M 7 = n := by (repeat (first | rw [jup_eq] | rw [jup_ne (by omega)] | rw [jup_nk (by omega)])); first | exact hn | rfl
  have fa : (jup (jup D M 9 (oE f n p)) (M + 7) (3 * k) 4) (M + 6) = f := by (repeat (rw [jup_off (by omega)])); exact hf
  have pa : (jup (jup D M 9 (oE f n p)) (M + 7) (3 * k) 4) M 9 = (oE f n p) := by (repeat (first | rw [jup_eq] | rw [jup_ne (by omega)] | rw [jup_nk (by omega)]))
  have Fa : (jup (jup D M 9 (oE f n p)) (M + 7) (3 * k) 4) M 10 = F := by (repeat (first | rw [jup_eq] | rw [jup_ne (by omega)] | rw [jup_nk (by omega)])); exact hF
  have ka : (jup (jup D M 9 (oE f n p)) (M + 7) (3 * k) 4) M 11 = k := by (repeat (first | rw [jup_eq] | rw [jup_ne (by omega)] | rw [jup_nk (by omega)])); exact hk
  refine c_RX8_206p dX8_readOrder_75 rfl (kX8_number hM na fa n0 n1 fr pa (by omega) (by omega) Fa rF F0 ⟨by omega, by omega⟩ ⟨by omega, by omega⟩) (by assumption) (Nat.le_of_ble_eq_true rfl) (Nat.le_of_ble_eq_true rfl) ⟨Nat.le_refl _, Nat.le_refl _⟩ (fun w5 D5 h5 => ?_)
  obtain ⟨x1, x2, x3⟩ := h5
  rw [hx] at x3
  obtain ⟨⟨u, hu⟩, x4⟩ := x3
  subst hu
  replace x4 : D5 M 10 = q := x4
  have qb := oNm_q (f := f) (n := n) (p := oE f n p) (least := 0) (most := 3) eb.2
  rw [hx] at qb
  replace qb : oE f n p ≤ q ∧ q ≤ n := qb
  have nb : D5 M 7 = n := by rw [x1 M 7 (fun w => by have := w.2; omega)]; exact na
  have fb : D5 (M + 6) = f := by rw [← fa]; funext z; exact x1 _ z (fun w => by have := w.1; omega)
  have kb : D5 M 11 = k := by rw [x1 M 11 (fun w => by have := w.2; omega)]; exact ka
  refine x_iast dX8_readOrder_78 (by assumption) ⟨by omega, by omega⟩ ?_
  refine x_aload_n dX8_readOrder_79 rfl ?_
  refine gf_RX8_30 dX8_readOrder_80 rfl (by assumption) ?_
  rw [m12]
  refine x_iload_n dX8_readOrder_83 rfl ?_
  refine x_iconst dX8_readOrder_84 ?_
  refine x_iadd dX8_readOrder_85 ?_
  refine x_iload_n dX8_readOrder_86 rfl ?_
  refine x_iconst dX8_readOrder_87 ?_
  refine x_ic_ne (tgt := 95) dX8_readOrder_88 (by decide) ⟨by omega, by omega⟩ ⟨by omega, by omega⟩ (fun hb88 => ?_) (fun h => (h (by omega)).elim)
  refine x_iload_n dX8_readOrder_95 rfl ?_
  refine x_iconst dX8_readOrder_96 ?_
  refine x_ic_ne (tgt := 109) dX8_readOrder_97 (by decide) ⟨by omega, by omega⟩ ⟨by omega, by omega⟩ (fun hb97 => ?_) (fun h => (h (by omega)).elim)
  refine x_iload_n dX8_readOrder_109 rfl ?_
  refine x_iconst dX8_readOrder_110 ?_
  refine x_ic_le (tgt := 125) dX8_readOrder_111 (by decide) ⟨by omega, by omega⟩ ⟨by omega, by omega⟩ (fun hb111 => ?_) (fun h => (h (by omega)).elim)
  refine x_aload_n dX8_readOrder_125 rfl ?_
  refine x_iconst dX8_readOrder_126 ?_
  refine x_iconst dX8_readOrder_127 ?_
  have nc : (jup D5 (M + 7) (3 * k + 1) u) M 7 = n := by (repeat (first | rw [jup_eq] | rw [jup_ne (by omega)] | rw [jup_nk (by omega)])); exact nb
  have fc : (jup D5 (M + 7) (3 * k + 1) u) (M + 6) = f := by (repeat (rw [jup_off (by omega)])); exact fb
  have Fc : (jup D5 (M + 7) (3 * k + 1) u) M 10 = q := by (repeat (first | rw [jup_eq] | rw [jup_ne (by omega)] | rw [jup_nk (by omega)])); exact x4
  refine c_RX8_206d dX8_readOrder_128 rfl (kX8_number_F hM nc fc n0 n1 fr Fc ⟨by omega, by omega⟩ (by omega)) (by assumption) (Nat.le_of_ble_eq_true rfl) (Nat.le_of_ble_eq_true rfl) ⟨Nat.le_refl _, Nat.le_refl _⟩ ?_
  refine x_iast dX8_readOrder_131 (by assumption) ⟨by omega, by omega⟩ ?_
  refine (ro_tail (D := (jup (jup D5 (M + 7) (3 * k + 1) u) (M + 7) (3 * k + 2) 0)) (q := D5 M 9) (F := q) (k := k) hM (by (repeat (first | rw [jup_eq] | rw [jup_ne (by omega)] | rw [jup_nk (by omega)])); exact nb) (by (repeat (rw [jup_off (by omega)])); exact fb) n0 n1 fr (by (repeat (first | rw [jup_eq] | rw [jup_ne (by omega)] | rw [jup_nk (by omega)])); try rfl) x2.1 x2.2 (by (repeat (first | rw [jup_eq] | rw [jup_ne (by omega)] | rw [jup_nk (by omega)])); exact x4) ⟨by omega, by omega⟩ (by (repeat (first | rw [jup_eq] | rw [jup_ne (by omega)] | rw [jup_nk (by omega)])); exact kb)).mono ?_
  rintro v S2 D9 ⟨rfl, rfl, t1, t2, t3⟩
  refine ⟨rfl, rfl, fun y a b => ?_, fun z a b e => ?_, fun j hj => ?_, ?_⟩
  · funext z; rw [t3 y z (fun w => a w.1)]; (repeat (first | rw [jup_eq] | rw [jup_ne (by omega)] | rw [jup_nk (by omega)])); rw [x1 y z (fun w => a w.1)]; (repeat (first | rw [jup_eq] | rw [jup_ne (by omega)] | rw [jup_nk (by omega)]))
  · rw [t3 M z (fun w => by have := w.2; omega)]; (repeat (first | rw [jup_eq] | rw [jup_ne (by omega)] | rw [jup_nk (by omega)])); rw [x1 M z (fun w => by have := w.2; omega)]; (repeat (first | rw [jup_eq] | rw [jup_ne (by omega)] | rw [jup_nk (by omega)]))
  · rw [t3 _ j (fun w => by have := w.1; omega)]; (repeat (first | rw [jup_eq] | rw [jup_ne (by omega)] | rw [jup_nk (by omega)])); rw [x1 _ j (fun w => by have := w.1; omega)]; (repeat (first | rw [jup_eq] | rw [jup_ne (by omega)] | rw [jup_nk (by omega)]))
  · rw [t1]; exact if_neg (by omega)
theorem ro_4_yn {G : JG} {S : JS} {D : JD} {d : Nat} {M n : Int} {f : Int → Int} {p F k : Int} {q a q5 : Int} (hM : jMo S M) (hn : D M 7 = n) (hf : D (M + 6) = f) (n0 : 0 ≤ n) (n1 : n ≤ 60) (fr : ∀ z : Int, 0 ≤ f z ∧ f z ≤ 65535) (hp : D M 9 = p) (p0 : 0 ≤ p) (p1 : p ≤ n) (hF : D M 10 = F) (rF : i32 F) (F0 : F < 0) (hk : D M 11 = k) (k0 : 0 ≤ k) (k1 : k ≤ 25) (hW : oW f p (oE f n p) = 4) (hx : oNm f n (oE f n p) 0 3 = (some a, q)) (hy : oNm f n q 0 1 = (none, q5)) : JM G yX8_readOrder cX8_readOrder 4 none (d + 2) (0, 0) S D [.inr (.inr (some M))] (jnP S (fun D2 => jRx D D2 M n F k f (oRd f n p))) := by
  obtain ⟨mk, m0, m1, m2, m4, m5, m8, m12, y1, l1, y2, l2, y3, l3, y4, l4, y5, l5, y6, l6, y7, l7⟩ := id hM
  have eb := oE_b (f := f) p1
  have hres : oRd f n p = (none, q5) := by
    unfold oRd
    rw [if_neg (by rw [hW]; decide), hW]
    unfold oAr
    rw [show oM1 4 = 3 from rfl, hx]
    show (if (4 : Int) = 2 then ((some (4, a, 0), q) : Option oOrd × Int) else match oNm f n q (oL2 4) (oM2 4) with | (none, q2) => (none, q2) | (some b, q2) => (some (4, a, b), q2)) = _
    rw [if_neg (by decide), show oL2 4 = 0 from rfl, show oM2 4 = 1 from rfl, hy]
  rw [hres]
  show JX _ _ _ _ _ _ _ _ _ _ _ [_, _, _, _] _ _
  refine x_aload_n dX8_readOrder_0 rfl ?_
  refine x_aload_n dX8_readOrder_1 rfl ?_
  refine gf_RX8_190 dX8_readOrder_2 rfl (by assumption) ?_
  rw [hp]
  refine c_RX8_197d dX8_readOrder_5 rfl (kX8_endOf hM hn hf n0 n1 fr p0 p1) (by assumption) (Nat.le_of_ble_eq_true rfl) (Nat.le_of_ble_eq_true rfl) ⟨Nat.le_refl _, Nat.le_refl _⟩ ?_
  refine x_istore_n dX8_readOrder_8 (by decide) ?_
  show JX _ _ _ _ _ _ _ _ _ _ _ [_, _, _, _] _ _
  refine x_aload_n dX8_readOrder_9 rfl ?_
  refine x_aload_n dX8_readOrder_10 rfl ?_
  refine gf_RX8_190 dX8_readOrder_11 rfl (by assumption) ?_
  rw [hp]
  refine x_iload_n dX8_readOrder_14 rfl ?_
  refine c_RX8_200d dX8_readOrder_15 rfl (kX8_word hM hn hf n0 n1 fr p0 eb.1 eb.2) (by assumption) (Nat.le_of_ble_eq_true rfl) (Nat.le_of_ble_eq_true rfl) ⟨Nat.le_refl _, Nat.le_refl _⟩ ?_
  rw [hW, if_neg (show ¬ (4 : Int) < 0 by decide)]
  refine x_istore_n dX8_readOrder_18 (by decide) ?_
  show JX _ _ _ _ _ _ _ _ _ _ _ [_, _, _, _] _ _
  refine x_iload_n dX8_readOrder_19 rfl ?_
  refine x_if_ge (tgt := 31) dX8_readOrder_20 (by decide) ⟨by omega, by omega⟩ (fun hb20 => ?_) (fun h => (h (by omega)).elim)
  refine x_aload_n dX8_readOrder_31 rfl ?_
  refine x_iload_n dX8_readOrder_32 rfl ?_
  refine pf_RX8_190 dX8_readOrder_33 rfl (by assumption) ?_
  refine x_iconst dX8_readOrder_36 ?_
  refine x_aload_n dX8_readOrder_37 rfl ?_
  refine gf_RX8_203 dX8_readOrder_38 rfl (by assumption) ?_
  rw [jup_nk (show (11 : Int) ≠ 9 by decide), hk]
  refine x_imul dX8_readOrder_41 ?_
  refine x_istore_n dX8_readOrder_42 (by decide) ?_
  show JX _ _ _ _ _ _ _ _ _ _ _ [_, _, _, _] _ _
  refine x_aload_n dX8_readOrder_43 rfl ?_
  refine gf_RX8_30 dX8_readOrder_44 rfl (by assumption) ?_
  rw [m12]
  refine x_iload_n dX8_readOrder_47 rfl ?_
  refine x_iload_n dX8_readOrder_48 rfl ?_
  refine x_iast dX8_readOrder_49 (by assumption) ⟨by omega, by omega⟩ ?_
  refine x_aload_n dX8_readOrder_50 rfl ?_
  refine gf_RX8_30 dX8_readOrder_51 rfl (by assumption) ?_
  rw [m12]
  refine x_iload_n dX8_readOrder_54 rfl ?_
  refine x_iconst dX8_readOrder_55 ?_
  refine x_iadd dX8_readOrder_56 ?_
  refine x_aload_n dX8_readOrder_57 rfl ?_
  refine x_iconst dX8_readOrder_58 ?_
  refine x_iload_n dX8_readOrder_59 rfl ?_
  refine x_iconst dX8_readOrder_60 ?_
  refine x_ic_eq (tgt := 69) dX8_readOrder_61 (by decide) ⟨by omega, by omega⟩ ⟨by omega, by omega⟩ (fun h => absurd h (by omega)) (fun hb61 => ?_)
  refine x_iload_n dX8_readOrder_64 rfl ?_
  refine x_iconst dX8_readOrder_65 ?_
  refine x_ic_le (tgt := 74) dX8_readOrder_66 (by decide) ⟨by omega, by omega⟩ ⟨by omega, by omega⟩ (fun hb66 => ?_) (fun h => (h (by omega)).elim)
  refine x_iconst dX8_readOrder_74 ?_
  have na : (jup (jup D M 9 (oE f n p)) (M + 7) (3 * k) 4) M 7 = n := by (repeat (first | rw [jup_eq] | rw [jup_ne (by omega)] | rw [jup_nk (by omega)])); first | exact hn | rfl
  have fa : (jup (jup D M 9 (oE f n p)) (M + 7) (3 * k) 4) (M + 6) = f := by (repeat (rw [jup_off (by omega)])); exact hf
  have pa : (jup (jup D M 9 (oE f n p)) (M + 7) (3 * k) 4) M 9 = (oE f n p) := by (repeat (first | rw [jup_eq] | rw [jup_ne (by omega)] | rw [jup_nk (by omega)]))
  have Fa : (jup (jup D M 9 (oE f n p)) (M + 7) (3 * k) 4) M 10 = F := by (repeat (first | rw [jup_eq] | rw [jup_ne (by omega)] | rw [jup_nk (by omega)])); exact hF
  have ka : (jup (jup D M 9 (oE f n p)) (M + 7) (3 * k) 4) M 11 = k := by (repeat (first | rw [jup_eq] | rw [jup_ne (by omega)] | rw [jup_nk (by omega)])); exact hk
  refine c_RX8_206p dX8_readOrder_75 rfl (kX8_number hM na fa n0 n1 fr pa (by omega) (by omega) Fa rF F0 ⟨by omega, by omega⟩ ⟨by omega, by omega⟩) (by assumption) (Nat.le_of_ble_eq_true rfl) (Nat.le_of_ble_eq_true rfl) ⟨Nat.le_refl _, Nat.le_refl _⟩ (fun w5 D5 h5 => ?_)
  obtain ⟨x1, x2, x3⟩ := h5
  rw [hx] at x3
  obtain ⟨hu, x4, x5⟩ := (x3 : w5 = .inl a ∧ D5 M 9 = q ∧ D5 M 10 = _)
  subst hu
  have qb := oNm_b eb.2 hx
  have Fb : D5 M 10 = F := by rw [x5]; exact Fa
  have nb : D5 M 7 = n := by rw [x1 M 7 (fun w => by have := w.2; omega)]; exact na
  have fb : D5 (M + 6) = f := by rw [← fa]; funext z; exact x1 _ z (fun w => by have := w.1; omega)
  have kb : D5 M 11 = k := by rw [x1 M 11 (fun w => by have := w.2; omega)]; exact ka
  refine x_iast dX8_readOrder_78 (by assumption) ⟨by omega, by omega⟩ ?_
  refine x_aload_n dX8_readOrder_79 rfl ?_
  refine gf_RX8_30 dX8_readOrder_80 rfl (by assumption) ?_
  rw [m12]
  refine x_iload_n dX8_readOrder_83 rfl ?_
  refine x_iconst dX8_readOrder_84 ?_
  refine x_iadd dX8_readOrder_85 ?_
  refine x_iload_n dX8_readOrder_86 rfl ?_
  refine x_iconst dX8_readOrder_87 ?_
  refine x_ic_ne (tgt := 95) dX8_readOrder_88 (by decide) ⟨by omega, by omega⟩ ⟨by omega, by omega⟩ (fun hb88 => ?_) (fun h => (h (by omega)).elim)
  refine x_iload_n dX8_readOrder_95 rfl ?_
  refine x_iconst dX8_readOrder_96 ?_
  refine x_ic_ne (tgt := 109) dX8_readOrder_97 (by decide) ⟨by omega, by omega⟩ ⟨by omega, by omega⟩ (fun hb97 => ?_) (fun h => (h (by omega)).elim)
  refine x_iload_n dX8_readOrder_109 rfl ?_
  refine x_iconst dX8_readOrder_110 ?_
  refine x_ic_le (tgt := 125) dX8_readOrder_111 (by decide) ⟨by omega, by omega⟩ ⟨by omega, by omega⟩ (fun hb111 => ?_) (fun h => (h (by omega)).elim)
  refine x_aload_n dX8_readOrder_125 rfl ?_
  refine x_iconst dX8_readOrder_126 ?_
  refine x_iconst dX8_readOrder_127 ?_
  have nc : (jup D5 (M + 7) (3 * k + 1) a) M 7 = n := by (repeat (first | rw [jup_eq] | rw [jup_ne (by omega)] | rw [jup_nk (by omega)])); exact nb
  have fc : (jup D5 (M + 7) (3 * k + 1) a) (M + 6) = f := by (repeat (rw [jup_off (by omega)])); exact fb
  have pc : (jup D5 (M + 7) (3 * k + 1) a) M 9 = q := by (repeat (first | rw [jup_eq] | rw [jup_ne (by omega)] | rw [jup_nk (by omega)])); exact x4
  have Fc : (jup D5 (M + 7) (3 * k + 1) a) M 10 = F := by (repeat (first | rw [jup_eq] | rw [jup_ne (by omega)] | rw [jup_nk (by omega)])); exact Fb
  have kc : (jup D5 (M + 7) (3 * k + 1) a) M 11 = k := by (repeat (first | rw [jup_eq] | rw [jup_ne (by omega)] | rw [jup_nk (by omega)])); exact kb
  refine c_RX8_206p dX8_readOrder_128 rfl (kX8_number hM nc fc n0 n1 fr pc (by omega) (by omega) Fc rF F0 ⟨by omega, by omega⟩ ⟨by omega, by omega⟩) (by assumption) (Nat.le_of_ble_eq_true rfl) (Nat.le_of_ble_eq_true rfl) ⟨Nat.le_refl _, Nat.le_refl _⟩ (fun w6 D6 h6 => ?_)
  obtain ⟨z1, z2, z3⟩ := h6
  rw [hy] at z3
  obtain ⟨⟨u, hu⟩, z4⟩ := z3
  subst hu
  replace z4 : D6 M 10 = q5 := z4
  have qc := oNm_q (f := f) (n := n) (p := q) (least := 0) (most := 1) qb.2.1
  rw [hy] at qc
  replace qc : q ≤ q5 ∧ q5 ≤ n := qc
  have nd : D6 M 7 = n := by rw [z1 M 7 (fun w => by have := w.2; omega)]; exact nc
  have fd : D6 (M + 6) = f := by rw [← fc]; funext z; exact z1 _ z (fun w => by have := w.1; omega)
  have kd : D6 M 11 = k := by rw [z1 M 11 (fun w => by have := w.2; omega)]; exact kc
  refine x_iast dX8_readOrder_131 (by assumption) ⟨by omega, by omega⟩ ?_
  refine (ro_tail (D := (jup D6 (M + 7) (3 * k + 2) u)) (q := D6 M 9) (F := q5) (k := k) hM (by (repeat (first | rw [jup_eq] | rw [jup_ne (by omega)] | rw [jup_nk (by omega)])); exact nd) (by (repeat (rw [jup_off (by omega)])); exact fd) n0 n1 fr (by (repeat (first | rw [jup_eq] | rw [jup_ne (by omega)] | rw [jup_nk (by omega)])); try rfl) z2.1 z2.2 (by (repeat (first | rw [jup_eq] | rw [jup_ne (by omega)] | rw [jup_nk (by omega)])); exact z4) ⟨by omega, by omega⟩ (by (repeat (first | rw [jup_eq] | rw [jup_ne (by omega)] | rw [jup_nk (by omega)])); exact kd)).mono ?_
  rintro v S2 D9 ⟨rfl, rfl, t1, t2, t3⟩
  refine ⟨rfl, rfl, fun y a b => ?_, fun z a b e => ?_, fun j hj => ?_, ?_⟩
  · funext z; rw [t3 y z (fun w => a w.1)]; (repeat (first | rw [jup_eq] | rw [jup_ne (by omega)] | rw [jup_nk (by omega)])); rw [z1 y z (fun w => a w.1)]; (repeat (first | rw [jup_eq] | rw [jup_ne (by omega)] | rw [jup_nk (by omega)])); rw [x1 y z (fun w => a w.1)]; (repeat (first | rw [jup_eq] | rw [jup_ne (by omega)] | rw [jup_nk (by omega)]))
  · rw [t3 M z (fun w => by have := w.2; omega)]; (repeat (first | rw [jup_eq] | rw [jup_ne (by omega)] | rw [jup_nk (by omega)])); rw [z1 M z (fun w => by have := w.2; omega)]; (repeat (first | rw [jup_eq] | rw [jup_ne (by omega)] | rw [jup_nk (by omega)])); rw [x1 M z (fun w => by have := w.2; omega)]; (repeat (first | rw [jup_eq] | rw [jup_ne (by omega)] | rw [jup_nk (by omega)]))
  · rw [t3 _ j (fun w => by have := w.1; omega)]; (repeat (first | rw [jup_eq] | rw [jup_ne (by omega)] | rw [jup_nk (by omega)])); rw [z1 _ j (fun w => by have := w.1; omega)]; (repeat (first | rw [jup_eq] | rw [jup_ne (by omega)] | rw [jup_nk (by omega)])); rw [x1 _ j (fun w => by have := w.1; omega)]; (repeat (first | rw [jup_eq] | rw [jup_ne (by omega)] | rw [jup_nk (by omega)]))
  · rw [t1]; exact if_neg (by omega)
theorem ro_4_yy {G : JG} {S : JS} {D : JD} {d : Nat} {M n : Int} {f : Int → Int} {p F k : Int} {q a q5 b : Int} (hM : jMo S M) (hn : D M 7 = n) (hf : D (M + 6) = f) (n0 : 0 ≤ n) (n1 : n ≤ 60) (fr : ∀ z : Int, 0 ≤ f z ∧ f z ≤ 65535) (hp : D M 9 = p) (p0 : 0 ≤ p) (p1 : p ≤ n) (hF : D M 10 = F) (rF : i32 F) (F0 : F < 0) (hk : D M 11 = k) (k0 : 0 ≤ k) (k1 : k ≤ 25) (hW : oW f p (oE f n p) = 4) (hx : oNm f n (oE f n p) 0 3 = (some a, q)) (hy : oNm f n q 0 1 = (some b, q5)) : JM G yX8_readOrder cX8_readOrder 4 none (d + 2) (0, 0) S D [.inr (.inr (some M))] (jnP S (fun D2 => jRx D D2 M n F k f (oRd f n p))) := by
  obtain ⟨mk, m0, m1, m2, m4, m5, m8, m12, y1, l1, y2, l2, y3, l3, y4, l4, y5, l5, y6, l6, y7, l7⟩ := id hM
  have eb := oE_b (f := f) p1
  have hres : oRd f n p = (some (4, a, b), q5) := by
    unfold oRd
    rw [if_neg (by rw [hW]; decide), hW]
    unfold oAr
    rw [show oM1 4 = 3 from rfl, hx]
    show (if (4 : Int) = 2 then ((some (4, a, 0), q) : Option oOrd × Int) else match oNm f n q (oL2 4) (oM2 4) with | (none, q2) => (none, q2) | (some b, q2) => (some (4, a, b), q2)) = _
    rw [if_neg (by decide), show oL2 4 = 0 from rfl, show oM2 4 = 1 from rfl, hy]
  rw [hres]
  show JX _ _ _ _ _ _ _ _ _ _ _ [_, _, _, _] _ _
  refine x_aload_n dX8_readOrder_0 rfl ?_
  refine x_aload_n dX8_readOrder_1 rfl ?_
  refine gf_RX8_190 dX8_readOrder_2 rfl (by assumption) ?_
  rw [hp]
  refine c_RX8_197d dX8_readOrder_5 rfl (kX8_endOf hM hn hf n0 n1 fr p0 p1) (by assumption) (Nat.le_of_ble_eq_true rfl) (Nat.le_of_ble_eq_true rfl) ⟨Nat.le_refl _, Nat.le_refl _⟩ ?_
  refine x_istore_n dX8_readOrder_8 (by decide) ?_
  show JX _ _ _ _ _ _ _ _ _ _ _ [_, _, _, _] _ _
  refine x_aload_n dX8_readOrder_9 rfl ?_
  refine x_aload_n dX8_readOrder_10 rfl ?_
  refine gf_RX8_190 dX8_readOrder_11 rfl (by assumption) ?_
  rw [hp]
  refine x_iload_n dX8_readOrder_14 rfl ?_
  refine c_RX8_200d dX8_readOrder_15 rfl (kX8_word hM hn hf n0 n1 fr p0 eb.1 eb.2) (by assumption) (Nat.le_of_ble_eq_true rfl) (Nat.le_of_ble_eq_true rfl) ⟨Nat.le_refl _, Nat.le_refl _⟩ ?_
  rw [hW, if_neg (show ¬ (4 : Int) < 0 by decide)]
  refine x_istore_n dX8_readOrder_18 (by decide) ?_
  show JX _ _ _ _ _ _ _ _ _ _ _ [_, _, _, _] _ _
  refine x_iload_n dX8_readOrder_19 rfl ?_
  refine x_if_ge (tgt := 31) dX8_readOrder_20 (by decide) ⟨by omega, by omega⟩ (fun hb20 => ?_) (fun h => (h (by omega)).elim)
  refine x_aload_n dX8_readOrder_31 rfl ?_
  refine x_iload_n dX8_readOrder_32 rfl ?_
  refine pf_RX8_190 dX8_readOrder_33 rfl (by assumption) ?_
  refine x_iconst dX8_readOrder_36 ?_
  refine x_aload_n dX8_readOrder_37 rfl ?_
  refine gf_RX8_203 dX8_readOrder_38 rfl (by assumption) ?_
  rw [jup_nk (show (11 : Int) ≠ 9 by decide), hk]
  refine x_imul dX8_readOrder_41 ?_
  refine x_istore_n dX8_readOrder_42 (by decide) ?_
  show JX _ _ _ _ _ _ _ _ _ _ _ [_, _, _, _] _ _
  refine x_aload_n dX8_readOrder_43 rfl ?_
  refine gf_RX8_30 dX8_readOrder_44 rfl (by assumption) ?_
  rw [m12]
  refine x_iload_n dX8_readOrder_47 rfl ?_
  refine x_iload_n dX8_readOrder_48 rfl ?_
  refine x_iast dX8_readOrder_49 (by assumption) ⟨by omega, by omega⟩ ?_
  refine x_aload_n dX8_readOrder_50 rfl ?_
  refine gf_RX8_30 dX8_readOrder_51 rfl (by assumption) ?_
  rw [m12]
  refine x_iload_n dX8_readOrder_54 rfl ?_
  refine x_iconst dX8_readOrder_55 ?_
  refine x_iadd dX8_readOrder_56 ?_
  refine x_aload_n dX8_readOrder_57 rfl ?_
  refine x_iconst dX8_readOrder_58 ?_
  refine x_iload_n dX8_readOrder_59 rfl ?_
  refine x_iconst dX8_readOrder_60 ?_
  refine x_ic_eq (tgt := 69) dX8_readOrder_61 (by decide) ⟨by omega, by omega⟩ ⟨by omega, by omega⟩ (fun h => absurd h (by omega)) (fun hb61 => ?_)
  refine x_iload_n dX8_readOrder_64 rfl ?_
  refine x_iconst dX8_readOrder_65 ?_
  refine x_ic_le (tgt := 74) dX8_readOrder_66 (by decide) ⟨by omega, by omega⟩ ⟨by omega, by omega⟩ (fun hb66 => ?_) (fun h => (h (by omega)).elim)
  refine x_iconst dX8_readOrder_74 ?_
  have na : (jup (jup D M 9 (oE f n p)) (M + 7) (3 * k) 4) M 7 = n := by (repeat (first | rw [jup_eq] | rw [jup_ne (by omega)] | rw [jup_nk (by omega)])); first | exact hn | rfl
  have fa : (jup (jup D M 9 (oE f n p)) (M + 7) (3 * k) 4) (M + 6) = f := by (repeat (rw [jup_off (by omega)])); exact hf
  have pa : (jup (jup D M 9 (oE f n p)) (M + 7) (3 * k) 4) M 9 = (oE f n p) := by (repeat (first | rw [jup_eq] | rw [jup_ne (by omega)] | rw [jup_nk (by omega)]))
  have Fa : (jup (jup D M 9 (oE f n p)) (M + 7) (3 * k) 4) M 10 = F := by (repeat (first | rw [jup_eq] | rw [jup_ne (by omega)] | rw [jup_nk (by omega)])); exact hF
  have ka : (jup (jup D M 9 (oE f n p)) (M + 7) (3 * k) 4) M 11 = k := by (repeat (first | rw [jup_eq] | rw [jup_ne (by omega)] | rw [jup_nk (by omega)])); exact hk
  refine c_RX8_206p dX8_readOrder_75 rfl (kX8_number hM na fa n0 n1 fr pa (by omega) (by omega) Fa rF F0 ⟨by omega, by omega⟩ ⟨by omega, by omega⟩) (by assumption) (Nat.le_of_ble_eq_true rfl) (Nat.le_of_ble_eq_true rfl) ⟨Nat.le_refl _, Nat.le_refl _⟩ (fun w5 D5 h5 => ?_)
  obtain ⟨x1, x2, x3⟩ := h5
  rw [hx] at x3
  obtain ⟨hu, x4, x5⟩ := (x3 : w5 = .inl a ∧ D5 M 9 = q ∧ D5 M 10 = _)
  subst hu
  have qb := oNm_b eb.2 hx
  have Fb : D5 M 10 = F := by rw [x5]; exact Fa
  have nb : D5 M 7 = n := by rw [x1 M 7 (fun w => by have := w.2; omega)]; exact na
  have fb : D5 (M + 6) = f := by rw [← fa]; funext z; exact x1 _ z (fun w => by have := w.1; omega)
  have kb : D5 M 11 = k := by rw [x1 M 11 (fun w => by have := w.2; omega)]; exact ka
  refine x_iast dX8_readOrder_78 (by assumption) ⟨by omega, by omega⟩ ?_
  refine x_aload_n dX8_readOrder_79 rfl ?_
  refine gf_RX8_30 dX8_readOrder_80 rfl (by assumption) ?_
  rw [m12]
  refine x_iload_n dX8_readOrder_83 rfl ?_
  refine x_iconst dX8_readOrder_84 ?_
  refine x_iadd dX8_readOrder_85 ?_
  refine x_iload_n dX8_readOrder_86 rfl ?_
  refine x_iconst dX8_readOrder_87 ?_
  refine x_ic_ne (tgt := 95) dX8_readOrder_88 (by decide) ⟨by omega, by omega⟩ ⟨by omega, by omega⟩ (fun hb88 => ?_) (fun h => (h (by omega)).elim)
  refine x_iload_n dX8_readOrder_95 rfl ?_
  refine x_iconst dX8_readOrder_96 ?_
  refine x_ic_ne (tgt := 109) dX8_readOrder_97 (by decide) ⟨by omega, by omega⟩ ⟨by omega, by omega⟩ (fun hb97 => ?_) (fun h => (h (by omega)).elim)
  refine x_iload_n dX8_readOrder_109 rfl ?_
  refine x_iconst dX8_readOrder_110 ?_
  refine x_ic_le (tgt := 125) dX8_readOrder_111 (by decide) ⟨by omega, by omega⟩ ⟨by omega, by omega⟩ (fun hb111 => ?_) (fun h => (h (by omega)).elim)
  refine x_aload_n dX8_readOrder_125 rfl ?_
  refine x_iconst dX8_readOrder_126 ?_
  refine x_iconst dX8_readOrder_127 ?_
  have nc : (jup D5 (M + 7) (3 * k + 1) a) M 7 = n := by (repeat (first | rw [jup_eq] | rw [jup_ne (by omega)] | rw [jup_nk (by omega)])); exact nb
  have fc : (jup D5 (M + 7) (3 * k + 1) a) (M + 6) = f := by (repeat (rw [jup_off (by omega)])); exact fb
  have pc : (jup D5 (M + 7) (3 * k + 1) a) M 9 = q := by (repeat (first | rw [jup_eq] | rw [jup_ne (by omega)] | rw [jup_nk (by omega)])); exact x4
  have Fc : (jup D5 (M + 7) (3 * k + 1) a) M 10 = F := by (repeat (first | rw [jup_eq] | rw [jup_ne (by omega)] | rw [jup_nk (by omega)])); exact Fb
  have kc : (jup D5 (M + 7) (3 * k + 1) a) M 11 = k := by (repeat (first | rw [jup_eq] | rw [jup_ne (by omega)] | rw [jup_nk (by omega)])); exact kb
  refine c_RX8_206p dX8_readOrder_128 rfl (kX8_number hM nc fc n0 n1 fr pc (by omega) (by omega) Fc rF F0 ⟨by omega, by omega⟩ ⟨by omega, by omega⟩) (by assumption) (Nat.le_of_ble_eq_true rfl) (Nat.le_of_ble_eq_true rfl) ⟨Nat.le_refl _, Nat.le_refl _⟩ (fun w6 D6 h6 => ?_)
  obtain ⟨z1, z2, z3⟩ := h6
  rw [hy] at z3
  obtain ⟨hu, z4, z5⟩ := (z3 : w6 = .inl b ∧ D6 M 9 = q5 ∧ D6 M 10 = _)
  subst hu
  have qc := oNm_b qb.2.1 hy
  have Fd : D6 M 10 = F := by rw [z5]; exact Fc
  have nd : D6 M 7 = n := by rw [z1 M 7 (fun w => by have := w.2; omega)]; exact nc
  have fd : D6 (M + 6) = f := by rw [← fc]; funext z; exact z1 _ z (fun w => by have := w.1; omega)
  have kd : D6 M 11 = k := by rw [z1 M 11 (fun w => by have := w.2; omega)]; exact kc
  refine x_iast dX8_readOrder_131 (by assumption) ⟨by omega, by omega⟩ ?_
  refine (ro_tail (D := (jup D6 (M + 7) (3 * k + 2) b)) (q := q5) (F := F) (k := k) hM (by (repeat (first | rw [jup_eq] | rw [jup_ne (by omega)] | rw [jup_nk (by omega)])); exact nd) (by (repeat (rw [jup_off (by omega)])); exact fd) n0 n1 fr (by (repeat (first | rw [jup_eq] | rw [jup_ne (by omega)] | rw [jup_nk (by omega)])); exact z4) (by omega) (by omega) (by (repeat (first | rw [jup_eq] | rw [jup_ne (by omega)] | rw [jup_nk (by omega)])); exact Fd) rF (by (repeat (first | rw [jup_eq] | rw [jup_ne (by omega)] | rw [jup_nk (by omega)])); exact kd)).mono ?_
  rintro v S2 D9 ⟨rfl, rfl, t1, t2, t3⟩
  refine ⟨rfl, rfl, fun y a b => ?_, fun z a b e => ?_, fun j hj => ?_, ?_⟩
  · funext z; rw [t3 y z (fun w => a w.1)]; (repeat (first | rw [jup_eq] | rw [jup_ne (by omega)] | rw [jup_nk (by omega)])); rw [z1 y z (fun w => a w.1)]; (repeat (first | rw [jup_eq] | rw [jup_ne (by omega)] | rw [jup_nk (by omega)])); rw [x1 y z (fun w => a w.1)]; (repeat (first | rw [jup_eq] | rw [jup_ne (by omega)] | rw [jup_nk (by omega)]))
  · rw [t3 M z (fun w => by have := w.2; omega)]; (repeat (first | rw [jup_eq] | rw [jup_ne (by omega)] | rw [jup_nk (by omega)])); rw [z1 M z (fun w => by have := w.2; omega)]; (repeat (first | rw [jup_eq] | rw [jup_ne (by omega)] | rw [jup_nk (by omega)])); rw [x1 M z (fun w => by have := w.2; omega)]; (repeat (first | rw [jup_eq] | rw [jup_ne (by omega)] | rw [jup_nk (by omega)]))
  · rw [t3 _ j (fun w => by have := w.1; omega)]; (repeat (first | rw [jup_eq] | rw [jup_ne (by omega)] | rw [jup_nk (by omega)])); rw [z1 _ j (fun w => by have := w.1; omega)]; (repeat (first | rw [jup_eq] | rw [jup_ne (by omega)] | rw [jup_nk (by omega)])); rw [x1 _ j (fun w => by have := w.1; omega)]; (repeat (first | rw [jup_eq] | rw [jup_ne (by omega)] | rw [jup_nk (by omega)]))
  · refine ⟨?_, t2, ?_, ?_, ?_, ?_⟩
    · rw [t3 M 9 (fun w => by have := w.2; omega)]; (repeat (first | rw [jup_eq] | rw [jup_ne (by omega)] | rw [jup_nk (by omega)])); exact z4
    · rw [t3 _ _ (fun w => by have := w.1; omega)]; (repeat (first | rw [jup_eq] | rw [jup_ne (by omega)] | rw [jup_nk (by omega)])); rw [z1 _ _ (fun w => by have := w.1; omega)]; (repeat (first | rw [jup_eq] | rw [jup_ne (by omega)] | rw [jup_nk (by omega)])); rw [x1 _ _ (fun w => by have := w.1; omega)]; (repeat (first | rw [jup_eq] | rw [jup_ne (by omega)] | rw [jup_nk (by omega)]))
    · rw [t3 _ _ (fun w => by have := w.1; omega)]; (repeat (first | rw [jup_eq] | rw [jup_ne (by omega)] | rw [jup_nk (by omega)])); rw [z1 _ _ (fun w => by have := w.1; omega)]; (repeat (first | rw [jup_eq] | rw [jup_ne (by omega)] | rw [jup_nk (by omega)]))
    · rw [t3 _ _ (fun w => by have := w.1; omega)]; (repeat (first | rw [jup_eq] | rw [jup_ne (by omega)] | rw [jup_nk (by omega)]))
    · rw [t1]; show _ = if q5 < n ∧ f q5 ≠ 59 then q5 else F; split <;> split <;> omega
theorem ro_5_n {G : JG} {S : JS} {D : JD} {d : Nat} {M n : Int} {f : Int → Int} {p F k : Int} {q : Int} (hM : jMo S M) (hn : D M 7 = n) (hf : D (M + 6) = f) (n0 : 0 ≤ n) (n1 : n ≤ 60) (fr : ∀ z : Int, 0 ≤ f z ∧ f z ≤ 65535) (hp : D M 9 = p) (p0 : 0 ≤ p) (p1 : p ≤ n) (hF : D M 10 = F) (rF : i32 F) (F0 : F < 0) (hk : D M 11 = k) (k0 : 0 ≤ k) (k1 : k ≤ 25) (hW : oW f p (oE f n p) = 5) (hx : oNm f n (oE f n p) 0 11 = (none, q)) : JM G yX8_readOrder cX8_readOrder 4 none (d + 2) (0, 0) S D [.inr (.inr (some M))] (jnP S (fun D2 => jRx D D2 M n F k f (oRd f n p))) := by
  obtain ⟨mk, m0, m1, m2, m4, m5, m8, m12, y1, l1, y2, l2, y3, l3, y4, l4, y5, l5, y6, l6, y7, l7⟩ := id hM
  have eb := oE_b (f := f) p1
  have hres : oRd f n p = (none, q) := by
    unfold oRd
    rw [if_neg (by rw [hW]; decide), hW]
    unfold oAr
    rw [show oM1 5 = 11 from rfl, hx]
  rw [hres]
  show JX _ _ _ _ _ _ _ _ _ _ _ [_, _, _, _] _ _
  refine x_aload_n dX8_readOrder_0 rfl ?_
  refine x_aload_n dX8_readOrder_1 rfl ?_
  refine gf_RX8_190 dX8_readOrder_2 rfl (by assumption) ?_
  rw [hp]
  refine c_RX8_197d dX8_readOrder_5 rfl (kX8_endOf hM hn hf n0 n1 fr p0 p1) (by assumption) (Nat.le_of_ble_eq_true rfl) (Nat.le_of_ble_eq_true rfl) ⟨Nat.le_refl _, Nat.le_refl _⟩ ?_
  refine x_istore_n dX8_readOrder_8 (by decide) ?_
  show JX _ _ _ _ _ _ _ _ _ _ _ [_, _, _, _] _ _
  refine x_aload_n dX8_readOrder_9 rfl ?_
  refine x_aload_n dX8_readOrder_10 rfl ?_
  refine gf_RX8_190 dX8_readOrder_11 rfl (by assumption) ?_
  rw [hp]
  refine x_iload_n dX8_readOrder_14 rfl ?_
  refine c_RX8_200d dX8_readOrder_15 rfl (kX8_word hM hn hf n0 n1 fr p0 eb.1 eb.2) (by assumption) (Nat.le_of_ble_eq_true rfl) (Nat.le_of_ble_eq_true rfl) ⟨Nat.le_refl _, Nat.le_refl _⟩ ?_
  rw [hW, if_neg (show ¬ (5 : Int) < 0 by decide)]
  refine x_istore_n dX8_readOrder_18 (by decide) ?_
  show JX _ _ _ _ _ _ _ _ _ _ _ [_, _, _, _] _ _
  refine x_iload_n dX8_readOrder_19 rfl ?_
  refine x_if_ge (tgt := 31) dX8_readOrder_20 (by decide) ⟨by omega, by omega⟩ (fun hb20 => ?_) (fun h => (h (by omega)).elim)
  refine x_aload_n dX8_readOrder_31 rfl ?_
  refine x_iload_n dX8_readOrder_32 rfl ?_
  refine pf_RX8_190 dX8_readOrder_33 rfl (by assumption) ?_
  refine x_iconst dX8_readOrder_36 ?_
  refine x_aload_n dX8_readOrder_37 rfl ?_
  refine gf_RX8_203 dX8_readOrder_38 rfl (by assumption) ?_
  rw [jup_nk (show (11 : Int) ≠ 9 by decide), hk]
  refine x_imul dX8_readOrder_41 ?_
  refine x_istore_n dX8_readOrder_42 (by decide) ?_
  show JX _ _ _ _ _ _ _ _ _ _ _ [_, _, _, _] _ _
  refine x_aload_n dX8_readOrder_43 rfl ?_
  refine gf_RX8_30 dX8_readOrder_44 rfl (by assumption) ?_
  rw [m12]
  refine x_iload_n dX8_readOrder_47 rfl ?_
  refine x_iload_n dX8_readOrder_48 rfl ?_
  refine x_iast dX8_readOrder_49 (by assumption) ⟨by omega, by omega⟩ ?_
  refine x_aload_n dX8_readOrder_50 rfl ?_
  refine gf_RX8_30 dX8_readOrder_51 rfl (by assumption) ?_
  rw [m12]
  refine x_iload_n dX8_readOrder_54 rfl ?_
  refine x_iconst dX8_readOrder_55 ?_
  refine x_iadd dX8_readOrder_56 ?_
  refine x_aload_n dX8_readOrder_57 rfl ?_
  refine x_iconst dX8_readOrder_58 ?_
  refine x_iload_n dX8_readOrder_59 rfl ?_
  refine x_iconst dX8_readOrder_60 ?_
  refine x_ic_eq (tgt := 69) dX8_readOrder_61 (by decide) ⟨by omega, by omega⟩ ⟨by omega, by omega⟩ (fun h => absurd h (by omega)) (fun hb61 => ?_)
  refine x_iload_n dX8_readOrder_64 rfl ?_
  refine x_iconst dX8_readOrder_65 ?_
  refine x_ic_le (tgt := 74) dX8_readOrder_66 (by decide) ⟨by omega, by omega⟩ ⟨by omega, by omega⟩ (fun h => absurd h (by omega)) (fun hb66 => ?_)
  refine x_bipush dX8_readOrder_69 (by decide) ?_
  refine x_goto (tgt := 75) dX8_readOrder_71 (by decide) ?_
  have na : (jup (jup D M 9 (oE f n p)) (M + 7) (3 * k) 5) M 7 = n := by (repeat (first | rw [jup_eq] | rw [jup_ne (by omega)] | rw [jup_nk (by omega)])); first | exact hn | rfl
  have fa : (jup (jup D M 9 (oE f n p)) (M + 7) (3 * k) 5) (M + 6) = f := by (repeat (rw [jup_off (by omega)])); exact hf
  have pa : (jup (jup D M 9 (oE f n p)) (M + 7) (3 * k) 5) M 9 = (oE f n p) := by (repeat (first | rw [jup_eq] | rw [jup_ne (by omega)] | rw [jup_nk (by omega)]))
  have Fa : (jup (jup D M 9 (oE f n p)) (M + 7) (3 * k) 5) M 10 = F := by (repeat (first | rw [jup_eq] | rw [jup_ne (by omega)] | rw [jup_nk (by omega)])); exact hF
  have ka : (jup (jup D M 9 (oE f n p)) (M + 7) (3 * k) 5) M 11 = k := by (repeat (first | rw [jup_eq] | rw [jup_ne (by omega)] | rw [jup_nk (by omega)])); exact hk
  refine c_RX8_206p dX8_readOrder_75 rfl (kX8_number hM na fa n0 n1 fr pa (by omega) (by omega) Fa rF F0 ⟨by omega, by omega⟩ ⟨by omega, by omega⟩) (by assumption) (Nat.le_of_ble_eq_true rfl) (Nat.le_of_ble_eq_true rfl) ⟨Nat.le_refl _, Nat.le_refl _⟩ (fun w5 D5 h5 => ?_)
  obtain ⟨x1, x2, x3⟩ := h5
  rw [hx] at x3
  obtain ⟨⟨u, hu⟩, x4⟩ := x3
  subst hu
  replace x4 : D5 M 10 = q := x4
  have qb := oNm_q (f := f) (n := n) (p := oE f n p) (least := 0) (most := 11) eb.2
  rw [hx] at qb
  replace qb : oE f n p ≤ q ∧ q ≤ n := qb
  have nb : D5 M 7 = n := by rw [x1 M 7 (fun w => by have := w.2; omega)]; exact na
  have fb : D5 (M + 6) = f := by rw [← fa]; funext z; exact x1 _ z (fun w => by have := w.1; omega)
  have kb : D5 M 11 = k := by rw [x1 M 11 (fun w => by have := w.2; omega)]; exact ka
  refine x_iast dX8_readOrder_78 (by assumption) ⟨by omega, by omega⟩ ?_
  refine x_aload_n dX8_readOrder_79 rfl ?_
  refine gf_RX8_30 dX8_readOrder_80 rfl (by assumption) ?_
  rw [m12]
  refine x_iload_n dX8_readOrder_83 rfl ?_
  refine x_iconst dX8_readOrder_84 ?_
  refine x_iadd dX8_readOrder_85 ?_
  refine x_iload_n dX8_readOrder_86 rfl ?_
  refine x_iconst dX8_readOrder_87 ?_
  refine x_ic_ne (tgt := 95) dX8_readOrder_88 (by decide) ⟨by omega, by omega⟩ ⟨by omega, by omega⟩ (fun hb88 => ?_) (fun h => (h (by omega)).elim)
  refine x_iload_n dX8_readOrder_95 rfl ?_
  refine x_iconst dX8_readOrder_96 ?_
  refine x_ic_ne (tgt := 109) dX8_readOrder_97 (by decide) ⟨by omega, by omega⟩ ⟨by omega, by omega⟩ (fun hb97 => ?_) (fun h => (h (by omega)).elim)
  refine x_iload_n dX8_readOrder_109 rfl ?_
  refine x_iconst dX8_readOrder_110 ?_
  refine x_ic_le (tgt := 125) dX8_readOrder_111 (by decide) ⟨by omega, by omega⟩ ⟨by omega, by omega⟩ (fun h => absurd h (by omega)) (fun hb111 => ?_)
  refine x_aload_n dX8_readOrder_114 rfl ?_
  refine x_iconst dX8_readOrder_115 ?_
  refine x_sipush dX8_readOrder_116 (by decide) ?_
  have nc : (jup D5 (M + 7) (3 * k + 1) u) M 7 = n := by (repeat (first | rw [jup_eq] | rw [jup_ne (by omega)] | rw [jup_nk (by omega)])); exact nb
  have fc : (jup D5 (M + 7) (3 * k + 1) u) (M + 6) = f := by (repeat (rw [jup_off (by omega)])); exact fb
  have Fc : (jup D5 (M + 7) (3 * k + 1) u) M 10 = q := by (repeat (first | rw [jup_eq] | rw [jup_ne (by omega)] | rw [jup_nk (by omega)])); exact x4
  refine c_RX8_206d dX8_readOrder_119 rfl (kX8_number_F hM nc fc n0 n1 fr Fc ⟨by omega, by omega⟩ (by omega)) (by assumption) (Nat.le_of_ble_eq_true rfl) (Nat.le_of_ble_eq_true rfl) ⟨Nat.le_refl _, Nat.le_refl _⟩ ?_
  refine x_goto (tgt := 131) dX8_readOrder_122 (by decide) ?_
  refine x_iast dX8_readOrder_131 (by assumption) ⟨by omega, by omega⟩ ?_
  refine (ro_tail (D := (jup (jup D5 (M + 7) (3 * k + 1) u) (M + 7) (3 * k + 2) 0)) (q := D5 M 9) (F := q) (k := k) hM (by (repeat (first | rw [jup_eq] | rw [jup_ne (by omega)] | rw [jup_nk (by omega)])); exact nb) (by (repeat (rw [jup_off (by omega)])); exact fb) n0 n1 fr (by (repeat (first | rw [jup_eq] | rw [jup_ne (by omega)] | rw [jup_nk (by omega)])); try rfl) x2.1 x2.2 (by (repeat (first | rw [jup_eq] | rw [jup_ne (by omega)] | rw [jup_nk (by omega)])); exact x4) ⟨by omega, by omega⟩ (by (repeat (first | rw [jup_eq] | rw [jup_ne (by omega)] | rw [jup_nk (by omega)])); exact kb)).mono ?_
  rintro v S2 D9 ⟨rfl, rfl, t1, t2, t3⟩
  refine ⟨rfl, rfl, fun y a b => ?_, fun z a b e => ?_, fun j hj => ?_, ?_⟩
  · funext z; rw [t3 y z (fun w => a w.1)]; (repeat (first | rw [jup_eq] | rw [jup_ne (by omega)] | rw [jup_nk (by omega)])); rw [x1 y z (fun w => a w.1)]; (repeat (first | rw [jup_eq] | rw [jup_ne (by omega)] | rw [jup_nk (by omega)]))
  · rw [t3 M z (fun w => by have := w.2; omega)]; (repeat (first | rw [jup_eq] | rw [jup_ne (by omega)] | rw [jup_nk (by omega)])); rw [x1 M z (fun w => by have := w.2; omega)]; (repeat (first | rw [jup_eq] | rw [jup_ne (by omega)] | rw [jup_nk (by omega)]))
  · rw [t3 _ j (fun w => by have := w.1; omega)]; (repeat (first | rw [jup_eq] | rw [jup_ne (by omega)] | rw [jup_nk (by omega)])); rw [x1 _ j (fun w => by have := w.1; omega)]; (repeat (first | rw [jup_eq] | rw [jup_ne (by omega)] | rw [jup_nk (by omega)]))
  · rw [t1]; exact if_neg (by omega)
theorem ro_5_yn {G : JG} {S : JS} {D : JD} {d : Nat} {M n : Int} {f : Int → Int} {p F k : Int} {q a q5 : Int} (hM : jMo S M) (hn : D M 7 = n) (hf : D (M + 6) = f) (n0 : 0 ≤ n) (n1 : n ≤ 60) (fr : ∀ z : Int, 0 ≤ f z ∧ f z ≤ 65535) (hp : D M 9 = p) (p0 : 0 ≤ p) (p1 : p ≤ n) (hF : D M 10 = F) (rF : i32 F) (F0 : F < 0) (hk : D M 11 = k) (k0 : 0 ≤ k) (k1 : k ≤ 25) (hW : oW f p (oE f n p) = 5) (hx : oNm f n (oE f n p) 0 11 = (some a, q)) (hy : oNm f n q 1 999 = (none, q5)) : JM G yX8_readOrder cX8_readOrder 4 none (d + 2) (0, 0) S D [.inr (.inr (some M))] (jnP S (fun D2 => jRx D D2 M n F k f (oRd f n p))) := by
  obtain ⟨mk, m0, m1, m2, m4, m5, m8, m12, y1, l1, y2, l2, y3, l3, y4, l4, y5, l5, y6, l6, y7, l7⟩ := id hM
  have eb := oE_b (f := f) p1
  have hres : oRd f n p = (none, q5) := by
    unfold oRd
    rw [if_neg (by rw [hW]; decide), hW]
    unfold oAr
    rw [show oM1 5 = 11 from rfl, hx]
    show (if (5 : Int) = 2 then ((some (5, a, 0), q) : Option oOrd × Int) else match oNm f n q (oL2 5) (oM2 5) with | (none, q2) => (none, q2) | (some b, q2) => (some (5, a, b), q2)) = _
    rw [if_neg (by decide), show oL2 5 = 1 from rfl, show oM2 5 = 999 from rfl, hy]
  rw [hres]
  show JX _ _ _ _ _ _ _ _ _ _ _ [_, _, _, _] _ _
  refine x_aload_n dX8_readOrder_0 rfl ?_
  refine x_aload_n dX8_readOrder_1 rfl ?_
  refine gf_RX8_190 dX8_readOrder_2 rfl (by assumption) ?_
  rw [hp]
  refine c_RX8_197d dX8_readOrder_5 rfl (kX8_endOf hM hn hf n0 n1 fr p0 p1) (by assumption) (Nat.le_of_ble_eq_true rfl) (Nat.le_of_ble_eq_true rfl) ⟨Nat.le_refl _, Nat.le_refl _⟩ ?_
  refine x_istore_n dX8_readOrder_8 (by decide) ?_
  show JX _ _ _ _ _ _ _ _ _ _ _ [_, _, _, _] _ _
  refine x_aload_n dX8_readOrder_9 rfl ?_
  refine x_aload_n dX8_readOrder_10 rfl ?_
  refine gf_RX8_190 dX8_readOrder_11 rfl (by assumption) ?_
  rw [hp]
  refine x_iload_n dX8_readOrder_14 rfl ?_
  refine c_RX8_200d dX8_readOrder_15 rfl (kX8_word hM hn hf n0 n1 fr p0 eb.1 eb.2) (by assumption) (Nat.le_of_ble_eq_true rfl) (Nat.le_of_ble_eq_true rfl) ⟨Nat.le_refl _, Nat.le_refl _⟩ ?_
  rw [hW, if_neg (show ¬ (5 : Int) < 0 by decide)]
  refine x_istore_n dX8_readOrder_18 (by decide) ?_
  show JX _ _ _ _ _ _ _ _ _ _ _ [_, _, _, _] _ _
  refine x_iload_n dX8_readOrder_19 rfl ?_
  refine x_if_ge (tgt := 31) dX8_readOrder_20 (by decide) ⟨by omega, by omega⟩ (fun hb20 => ?_) (fun h => (h (by omega)).elim)
  refine x_aload_n dX8_readOrder_31 rfl ?_
  refine x_iload_n dX8_readOrder_32 rfl ?_
  refine pf_RX8_190 dX8_readOrder_33 rfl (by assumption) ?_
  refine x_iconst dX8_readOrder_36 ?_
  refine x_aload_n dX8_readOrder_37 rfl ?_
  refine gf_RX8_203 dX8_readOrder_38 rfl (by assumption) ?_
  rw [jup_nk (show (11 : Int) ≠ 9 by decide), hk]
  refine x_imul dX8_readOrder_41 ?_
  refine x_istore_n dX8_readOrder_42 (by decide) ?_
  show JX _ _ _ _ _ _ _ _ _ _ _ [_, _, _, _] _ _
  refine x_aload_n dX8_readOrder_43 rfl ?_
  refine gf_RX8_30 dX8_readOrder_44 rfl (by assumption) ?_
  rw [m12]
  refine x_iload_n dX8_readOrder_47 rfl ?_
  refine x_iload_n dX8_readOrder_48 rfl ?_
  refine x_iast dX8_readOrder_49 (by assumption) ⟨by omega, by omega⟩ ?_
  refine x_aload_n dX8_readOrder_50 rfl ?_
  refine gf_RX8_30 dX8_readOrder_51 rfl (by assumption) ?_
  rw [m12]
  refine x_iload_n dX8_readOrder_54 rfl ?_
  refine x_iconst dX8_readOrder_55 ?_
  refine x_iadd dX8_readOrder_56 ?_
  refine x_aload_n dX8_readOrder_57 rfl ?_
  refine x_iconst dX8_readOrder_58 ?_
  refine x_iload_n dX8_readOrder_59 rfl ?_
  refine x_iconst dX8_readOrder_60 ?_
  refine x_ic_eq (tgt := 69) dX8_readOrder_61 (by decide) ⟨by omega, by omega⟩ ⟨by omega, by omega⟩ (fun h => absurd h (by omega)) (fun hb61 => ?_)
  refine x_iload_n dX8_readOrder_64 rfl ?_
  refine x_iconst dX8_readOrder_65 ?_
  refine x_ic_le (tgt := 74) dX8_readOrder_66 (by decide) ⟨by omega, by omega⟩ ⟨by omega, by omega⟩ (fun h => absurd h (by omega)) (fun hb66 => ?_)
  refine x_bipush dX8_readOrder_69 (by decide) ?_
  refine x_goto (tgt := 75) dX8_readOrder_71 (by decide) ?_
  have na : (jup (jup D M 9 (oE f n p)) (M + 7) (3 * k) 5) M 7 = n := by (repeat (first | rw [jup_eq] | rw [jup_ne (by omega)] | rw [jup_nk (by omega)])); first | exact hn | rfl
  have fa : (jup (jup D M 9 (oE f n p)) (M + 7) (3 * k) 5) (M + 6) = f := by (repeat (rw [jup_off (by omega)])); exact hf
  have pa : (jup (jup D M 9 (oE f n p)) (M + 7) (3 * k) 5) M 9 = (oE f n p) := by (repeat (first | rw [jup_eq] | rw [jup_ne (by omega)] | rw [jup_nk (by omega)]))
  have Fa : (jup (jup D M 9 (oE f n p)) (M + 7) (3 * k) 5) M 10 = F := by (repeat (first | rw [jup_eq] | rw [jup_ne (by omega)] | rw [jup_nk (by omega)])); exact hF
  have ka : (jup (jup D M 9 (oE f n p)) (M + 7) (3 * k) 5) M 11 = k := by (repeat (first | rw [jup_eq] | rw [jup_ne (by omega)] | rw [jup_nk (by omega)])); exact hk
  refine c_RX8_206p dX8_readOrder_75 rfl (kX8_number hM na fa n0 n1 fr pa (by omega) (by omega) Fa rF F0 ⟨by omega, by omega⟩ ⟨by omega, by omega⟩) (by assumption) (Nat.le_of_ble_eq_true rfl) (Nat.le_of_ble_eq_true rfl) ⟨Nat.le_refl _, Nat.le_refl _⟩ (fun w5 D5 h5 => ?_)
  obtain ⟨x1, x2, x3⟩ := h5
  rw [hx] at x3
  obtain ⟨hu, x4, x5⟩ := (x3 : w5 = .inl a ∧ D5 M 9 = q ∧ D5 M 10 = _)
  subst hu
  have qb := oNm_b eb.2 hx
  have Fb : D5 M 10 = F := by rw [x5]; exact Fa
  have nb : D5 M 7 = n := by rw [x1 M 7 (fun w => by have := w.2; omega)]; exact na
  have fb : D5 (M + 6) = f := by rw [← fa]; funext z; exact x1 _ z (fun w => by have := w.1; omega)
  have kb : D5 M 11 = k := by rw [x1 M 11 (fun w => by have := w.2; omega)]; exact ka
  refine x_iast dX8_readOrder_78 (by assumption) ⟨by omega, by omega⟩ ?_
  refine x_aload_n dX8_readOrder_79 rfl ?_
  refine gf_RX8_30 dX8_readOrder_80 rfl (by assumption) ?_
  rw [m12]
  refine x_iload_n dX8_readOrder_83 rfl ?_
  refine x_iconst dX8_readOrder_84 ?_
  refine x_iadd dX8_readOrder_85 ?_
  refine x_iload_n dX8_readOrder_86 rfl ?_
  refine x_iconst dX8_readOrder_87 ?_
  refine x_ic_ne (tgt := 95) dX8_readOrder_88 (by decide) ⟨by omega, by omega⟩ ⟨by omega, by omega⟩ (fun hb88 => ?_) (fun h => (h (by omega)).elim)
  refine x_iload_n dX8_readOrder_95 rfl ?_
  refine x_iconst dX8_readOrder_96 ?_
  refine x_ic_ne (tgt := 109) dX8_readOrder_97 (by decide) ⟨by omega, by omega⟩ ⟨by omega, by omega⟩ (fun hb97 => ?_) (fun h => (h (by omega)).elim)
  refine x_iload_n dX8_readOrder_109 rfl ?_
  refine x_iconst dX8_readOrder_110 ?_
  refine x_ic_le (tgt := 125) dX8_readOrder_111 (by decide) ⟨by omega, by omega⟩ ⟨by omega, by omega⟩ (fun h => absurd h (by omega)) (fun hb111 => ?_)
  refine x_aload_n dX8_readOrder_114 rfl ?_
  refine x_iconst dX8_readOrder_115 ?_
  refine x_sipush dX8_readOrder_116 (by decide) ?_
  have nc : (jup D5 (M + 7) (3 * k + 1) a) M 7 = n := by (repeat (first | rw [jup_eq] | rw [jup_ne (by omega)] | rw [jup_nk (by omega)])); exact nb
  have fc : (jup D5 (M + 7) (3 * k + 1) a) (M + 6) = f := by (repeat (rw [jup_off (by omega)])); exact fb
  have pc : (jup D5 (M + 7) (3 * k + 1) a) M 9 = q := by (repeat (first | rw [jup_eq] | rw [jup_ne (by omega)] | rw [jup_nk (by omega)])); exact x4
  have Fc : (jup D5 (M + 7) (3 * k + 1) a) M 10 = F := by (repeat (first | rw [jup_eq] | rw [jup_ne (by omega)] | rw [jup_nk (by omega)])); exact Fb
  have kc : (jup D5 (M + 7) (3 * k + 1) a) M 11 = k := by (repeat (first | rw [jup_eq] | rw [jup_ne (by omega)] | rw [jup_nk (by omega)])); exact kb
  refine c_RX8_206p dX8_readOrder_119 rfl (kX8_number hM nc fc n0 n1 fr pc (by omega) (by omega) Fc rF F0 ⟨by omega, by omega⟩ ⟨by omega, by omega⟩) (by assumption) (Nat.le_of_ble_eq_true rfl) (Nat.le_of_ble_eq_true rfl) ⟨Nat.le_refl _, Nat.le_refl _⟩ (fun w6 D6 h6 => ?_)
  obtain ⟨z1, z2, z3⟩ := h6
  rw [hy] at z3
  obtain ⟨⟨u, hu⟩, z4⟩ := z3
  subst hu
  replace z4 : D6 M 10 = q5 := z4
  have qc := oNm_q (f := f) (n := n) (p := q) (least := 1) (most := 999) qb.2.1
  rw [hy] at qc
  replace qc : q ≤ q5 ∧ q5 ≤ n := qc
  have nd : D6 M 7 = n := by rw [z1 M 7 (fun w => by have := w.2; omega)]; exact nc
  have fd : D6 (M + 6) = f := by rw [← fc]; funext z; exact z1 _ z (fun w => by have := w.1; omega)
  have kd : D6 M 11 = k := by rw [z1 M 11 (fun w => by have := w.2; omega)]; exact kc
  refine x_goto (tgt := 131) dX8_readOrder_122 (by decide) ?_
  refine x_iast dX8_readOrder_131 (by assumption) ⟨by omega, by omega⟩ ?_
  refine (ro_tail (D := (jup D6 (M + 7) (3 * k + 2) u)) (q := D6 M 9) (F := q5) (k := k) hM (by (repeat (first | rw [jup_eq] | rw [jup_ne (by omega)] | rw [jup_nk (by omega)])); exact nd) (by (repeat (rw [jup_off (by omega)])); exact fd) n0 n1 fr (by (repeat (first | rw [jup_eq] | rw [jup_ne (by omega)] | rw [jup_nk (by omega)])); try rfl) z2.1 z2.2 (by (repeat (first | rw [jup_eq] | rw [jup_ne (by omega)] | rw [jup_nk (by omega)])); exact z4) ⟨by omega, by omega⟩ (by (repeat (first | rw [jup_eq] | rw [jup_ne (by omega)] | rw [jup_nk (by omega)])); exact kd)).mono ?_
  rintro v S2 D9 ⟨rfl, rfl, t1, t2, t3⟩
  refine ⟨rfl, rfl, fun y a b => ?_, fun z a b e => ?_, fun j hj => ?_, ?_⟩
  · funext z; rw [t3 y z (fun w => a w.1)]; (repeat (first | rw [jup_eq] | rw [jup_ne (by omega)] | rw [jup_nk (by omega)])); rw [z1 y z (fun w => a w.1)]; (repeat (first | rw [jup_eq] | rw [jup_ne (by omega)] | rw [jup_nk (by omega)])); rw [x1 y z (fun w => a w.1)]; (repeat (first | rw [jup_eq] | rw [jup_ne (by omega)] | rw [jup_nk (by omega)]))
  · rw [t3 M z (fun w => by have := w.2; omega)]; (repeat (first | rw [jup_eq] | rw [jup_ne (by omega)] | rw [jup_nk (by omega)])); rw [z1 M z (fun w => by have := w.2; omega)]; (repeat (first | rw [jup_eq] | rw [jup_ne (by omega)] | rw [jup_nk (by omega)])); rw [x1 M z (fun w => by have := w.2; omega)]; (repeat (first | rw [jup_eq] | rw [jup_ne (by omega)] | rw [jup_nk (by omega)]))
  · rw [t3 _ j (fun w => by have := w.1; omega)]; (repeat (first | rw [jup_eq] | rw [jup_ne (by omega)] | rw [jup_nk (by omega)])); rw [z1 _ j (fun w => by have := w.1; omega)]; (repeat (first | rw [jup_eq] | rw [jup_ne (by omega)] | rw [jup_nk (by omega)])); rw [x1 _ j (fun w => by have := w.1; omega)]; (repeat (first | rw [jup_eq] | rw [jup_ne (by omega)] | rw [jup_nk (by omega)]))
  · rw [t1]; exact if_neg (by omega)
theorem ro_5_yy {G : JG} {S : JS} {D : JD} {d : Nat} {M n : Int} {f : Int → Int} {p F k : Int} {q a q5 b : Int} (hM : jMo S M) (hn : D M 7 = n) (hf : D (M + 6) = f) (n0 : 0 ≤ n) (n1 : n ≤ 60) (fr : ∀ z : Int, 0 ≤ f z ∧ f z ≤ 65535) (hp : D M 9 = p) (p0 : 0 ≤ p) (p1 : p ≤ n) (hF : D M 10 = F) (rF : i32 F) (F0 : F < 0) (hk : D M 11 = k) (k0 : 0 ≤ k) (k1 : k ≤ 25) (hW : oW f p (oE f n p) = 5) (hx : oNm f n (oE f n p) 0 11 = (some a, q)) (hy : oNm f n q 1 999 = (some b, q5)) : JM G yX8_readOrder cX8_readOrder 4 none (d + 2) (0, 0) S D [.inr (.inr (some M))] (jnP S (fun D2 => jRx D D2 M n F k f (oRd f n p))) := by
  obtain ⟨mk, m0, m1, m2, m4, m5, m8, m12, y1, l1, y2, l2, y3, l3, y4, l4, y5, l5, y6, l6, y7, l7⟩ := id hM
  have eb := oE_b (f := f) p1
  have hres : oRd f n p = (some (5, a, b), q5) := by
    unfold oRd
    rw [if_neg (by rw [hW]; decide), hW]
    unfold oAr
    rw [show oM1 5 = 11 from rfl, hx]
    show (if (5 : Int) = 2 then ((some (5, a, 0), q) : Option oOrd × Int) else match oNm f n q (oL2 5) (oM2 5) with | (none, q2) => (none, q2) | (some b, q2) => (some (5, a, b), q2)) = _
    rw [if_neg (by decide), show oL2 5 = 1 from rfl, show oM2 5 = 999 from rfl, hy]
  rw [hres]
  show JX _ _ _ _ _ _ _ _ _ _ _ [_, _, _, _] _ _
  refine x_aload_n dX8_readOrder_0 rfl ?_
  refine x_aload_n dX8_readOrder_1 rfl ?_
  refine gf_RX8_190 dX8_readOrder_2 rfl (by assumption) ?_
  rw [hp]
  refine c_RX8_197d dX8_readOrder_5 rfl (kX8_endOf hM hn hf n0 n1 fr p0 p1) (by assumption) (Nat.le_of_ble_eq_true rfl) (Nat.le_of_ble_eq_true rfl) ⟨Nat.le_refl _, Nat.le_refl _⟩ ?_
  refine x_istore_n dX8_readOrder_8 (by decide) ?_
  show JX _ _ _ _ _ _ _ _ _ _ _ [_, _, _, _] _ _
  refine x_aload_n dX8_readOrder_9 rfl ?_
  refine x_aload_n dX8_readOrder_10 rfl ?_
  refine gf_RX8_190 dX8_readOrder_11 rfl (by assumption) ?_
  rw [hp]
  refine x_iload_n dX8_readOrder_14 rfl ?_
  refine c_RX8_200d dX8_readOrder_15 rfl (kX8_word hM hn hf n0 n1 fr p0 eb.1 eb.2) (by assumption) (Nat.le_of_ble_eq_true rfl) (Nat.le_of_ble_eq_true rfl) ⟨Nat.le_refl _, Nat.le_refl _⟩ ?_
  rw [hW, if_neg (show ¬ (5 : Int) < 0 by decide)]
  refine x_istore_n dX8_readOrder_18 (by decide) ?_
  show JX _ _ _ _ _ _ _ _ _ _ _ [_, _, _, _] _ _
  refine x_iload_n dX8_readOrder_19 rfl ?_
  refine x_if_ge (tgt := 31) dX8_readOrder_20 (by decide) ⟨by omega, by omega⟩ (fun hb20 => ?_) (fun h => (h (by omega)).elim)
  refine x_aload_n dX8_readOrder_31 rfl ?_
  refine x_iload_n dX8_readOrder_32 rfl ?_
  refine pf_RX8_190 dX8_readOrder_33 rfl (by assumption) ?_
  refine x_iconst dX8_readOrder_36 ?_
  refine x_aload_n dX8_readOrder_37 rfl ?_
  refine gf_RX8_203 dX8_readOrder_38 rfl (by assumption) ?_
  rw [jup_nk (show (11 : Int) ≠ 9 by decide), hk]
  refine x_imul dX8_readOrder_41 ?_
  refine x_istore_n dX8_readOrder_42 (by decide) ?_
  show JX _ _ _ _ _ _ _ _ _ _ _ [_, _, _, _] _ _
  refine x_aload_n dX8_readOrder_43 rfl ?_
  refine gf_RX8_30 dX8_readOrder_44 rfl (by assumption) ?_
  rw [m12]
  refine x_iload_n dX8_readOrder_47 rfl ?_
  refine x_iload_n dX8_readOrder_48 rfl ?_
  refine x_iast dX8_readOrder_49 (by assumption) ⟨by omega, by omega⟩ ?_
  refine x_aload_n dX8_readOrder_50 rfl ?_
  refine gf_RX8_30 dX8_readOrder_51 rfl (by assumption) ?_
  rw [m12]
  refine x_iload_n dX8_readOrder_54 rfl ?_
  refine x_iconst dX8_readOrder_55 ?_
  refine x_iadd dX8_readOrder_56 ?_
  refine x_aload_n dX8_readOrder_57 rfl ?_
  refine x_iconst dX8_readOrder_58 ?_
  refine x_iload_n dX8_readOrder_59 rfl ?_
  refine x_iconst dX8_readOrder_60 ?_
  refine x_ic_eq (tgt := 69) dX8_readOrder_61 (by decide) ⟨by omega, by omega⟩ ⟨by omega, by omega⟩ (fun h => absurd h (by omega)) (fun hb61 => ?_)
  refine x_iload_n dX8_readOrder_64 rfl ?_
  refine x_iconst dX8_readOrder_65 ?_
  refine x_ic_le (tgt := 74) dX8_readOrder_66 (by decide) ⟨by omega, by omega⟩ ⟨by omega, by omega⟩ (fun h => absurd h (by omega)) (fun hb66 => ?_)
  refine x_bipush dX8_readOrder_69 (by decide) ?_
  refine x_goto (tgt := 75) dX8_readOrder_71 (by decide) ?_
  have na : (jup (jup D M 9 (oE f n p)) (M + 7) (3 * k) 5) M 7 = n := by (repeat (first | rw [jup_eq] | rw [jup_ne (by omega)] | rw [jup_nk (by omega)])); first | exact hn | rfl
  have fa : (jup (jup D M 9 (oE f n p)) (M + 7) (3 * k) 5) (M + 6) = f := by (repeat (rw [jup_off (by omega)])); exact hf
  have pa : (jup (jup D M 9 (oE f n p)) (M + 7) (3 * k) 5) M 9 = (oE f n p) := by (repeat (first | rw [jup_eq] | rw [jup_ne (by omega)] | rw [jup_nk (by omega)]))
  have Fa : (jup (jup D M 9 (oE f n p)) (M + 7) (3 * k) 5) M 10 = F := by (repeat (first | rw [jup_eq] | rw [jup_ne (by omega)] | rw [jup_nk (by omega)])); exact hF
  have ka : (jup (jup D M 9 (oE f n p)) (M + 7) (3 * k) 5) M 11 = k := by (repeat (first | rw [jup_eq] | rw [jup_ne (by omega)] | rw [jup_nk (by omega)])); exact hk
  refine c_RX8_206p dX8_readOrder_75 rfl (kX8_number hM na fa n0 n1 fr pa (by omega) (by omega) Fa rF F0 ⟨by omega, by omega⟩ ⟨by omega, by omega⟩) (by assumption) (Nat.le_of_ble_eq_true rfl) (Nat.le_of_ble_eq_true rfl) ⟨Nat.le_refl _, Nat.le_refl _⟩ (fun w5 D5 h5 => ?_)
  obtain ⟨x1, x2, x3⟩ := h5
  rw [hx] at x3
  obtain ⟨hu, x4, x5⟩ := (x3 : w5 = .inl a ∧ D5 M 9 = q ∧ D5 M 10 = _)
  subst hu
  have qb := oNm_b eb.2 hx
  have Fb : D5 M 10 = F := by rw [x5]; exact Fa
  have nb : D5 M 7 = n := by rw [x1 M 7 (fun w => by have := w.2; omega)]; exact na
  have fb : D5 (M + 6) = f := by rw [← fa]; funext z; exact x1 _ z (fun w => by have := w.1; omega)
  have kb : D5 M 11 = k := by rw [x1 M 11 (fun w => by have := w.2; omega)]; exact ka
  refine x_iast dX8_readOrder_78 (by assumption) ⟨by omega, by omega⟩ ?_
  refine x_aload_n dX8_readOrder_79 rfl ?_
  refine gf_RX8_30 dX8_readOrder_80 rfl (by assumption) ?_
  rw [m12]
  refine x_iload_n dX8_readOrder_83 rfl ?_
  refine x_iconst dX8_readOrder_84 ?_
  refine x_iadd dX8_readOrder_85 ?_
  refine x_iload_n dX8_readOrder_86 rfl ?_
  refine x_iconst dX8_readOrder_87 ?_
  refine x_ic_ne (tgt := 95) dX8_readOrder_88 (by decide) ⟨by omega, by omega⟩ ⟨by omega, by omega⟩ (fun hb88 => ?_) (fun h => (h (by omega)).elim)
  refine x_iload_n dX8_readOrder_95 rfl ?_
  refine x_iconst dX8_readOrder_96 ?_
  refine x_ic_ne (tgt := 109) dX8_readOrder_97 (by decide) ⟨by omega, by omega⟩ ⟨by omega, by omega⟩ (fun hb97 => ?_) (fun h => (h (by omega)).elim)
  refine x_iload_n dX8_readOrder_109 rfl ?_
  refine x_iconst dX8_readOrder_110 ?_
  refine x_ic_le (tgt := 125) dX8_readOrder_111 (by decide) ⟨by omega, by omega⟩ ⟨by omega, by omega⟩ (fun h => absurd h (by omega)) (fun hb111 => ?_)
  refine x_aload_n dX8_readOrder_114 rfl ?_
  refine x_iconst dX8_readOrder_115 ?_
  refine x_sipush dX8_readOrder_116 (by decide) ?_
  have nc : (jup D5 (M + 7) (3 * k + 1) a) M 7 = n := by (repeat (first | rw [jup_eq] | rw [jup_ne (by omega)] | rw [jup_nk (by omega)])); exact nb
  have fc : (jup D5 (M + 7) (3 * k + 1) a) (M + 6) = f := by (repeat (rw [jup_off (by omega)])); exact fb
  have pc : (jup D5 (M + 7) (3 * k + 1) a) M 9 = q := by (repeat (first | rw [jup_eq] | rw [jup_ne (by omega)] | rw [jup_nk (by omega)])); exact x4
  have Fc : (jup D5 (M + 7) (3 * k + 1) a) M 10 = F := by (repeat (first | rw [jup_eq] | rw [jup_ne (by omega)] | rw [jup_nk (by omega)])); exact Fb
  have kc : (jup D5 (M + 7) (3 * k + 1) a) M 11 = k := by (repeat (first | rw [jup_eq] | rw [jup_ne (by omega)] | rw [jup_nk (by omega)])); exact kb
  refine c_RX8_206p dX8_readOrder_119 rfl (kX8_number hM nc fc n0 n1 fr pc (by omega) (by omega) Fc rF F0 ⟨by omega, by omega⟩ ⟨by omega, by omega⟩) (by assumption) (Nat.le_of_ble_eq_true rfl) (Nat.le_of_ble_eq_true rfl) ⟨Nat.le_refl _, Nat.le_refl _⟩ (fun w6 D6 h6 => ?_)
  obtain ⟨z1, z2, z3⟩ := h6
  rw [hy] at z3
  obtain ⟨hu, z4, z5⟩ := (z3 : w6 = .inl b ∧ D6 M 9 = q5 ∧ D6 M 10 = _)
  subst hu
  have qc := oNm_b qb.2.1 hy
  have Fd : D6 M 10 = F := by rw [z5]; exact Fc
  have nd : D6 M 7 = n := by rw [z1 M 7 (fun w => by have := w.2; omega)]; exact nc
  have fd : D6 (M + 6) = f := by rw [← fc]; funext z; exact z1 _ z (fun w => by have := w.1; omega)
  have kd : D6 M 11 = k := by rw [z1 M 11 (fun w => by have := w.2; omega)]; exact kc
  refine x_goto (tgt := 131) dX8_readOrder_122 (by decide) ?_
  refine x_iast dX8_readOrder_131 (by assumption) ⟨by omega, by omega⟩ ?_
  refine (ro_tail (D := (jup D6 (M + 7) (3 * k + 2) b)) (q := q5) (F := F) (k := k) hM (by (repeat (first | rw [jup_eq] | rw [jup_ne (by omega)] | rw [jup_nk (by omega)])); exact nd) (by (repeat (rw [jup_off (by omega)])); exact fd) n0 n1 fr (by (repeat (first | rw [jup_eq] | rw [jup_ne (by omega)] | rw [jup_nk (by omega)])); exact z4) (by omega) (by omega) (by (repeat (first | rw [jup_eq] | rw [jup_ne (by omega)] | rw [jup_nk (by omega)])); exact Fd) rF (by (repeat (first | rw [jup_eq] | rw [jup_ne (by omega)] | rw [jup_nk (by omega)])); exact kd)).mono ?_
  rintro v S2 D9 ⟨rfl, rfl, t1, t2, t3⟩
  refine ⟨rfl, rfl, fun y a b => ?_, fun z a b e => ?_, fun j hj => ?_, ?_⟩
  · funext z; rw [t3 y z (fun w => a w.1)]; (repeat (first | rw [jup_eq] | rw [jup_ne (by omega)] | rw [jup_nk (by omega)])); rw [z1 y z (fun w => a w.1)]; (repeat (first | rw [jup_eq] | rw [jup_ne (by omega)] | rw [jup_nk (by omega)])); rw [x1 y z (fun w => a w.1)]; (repeat (first | rw [jup_eq] | rw [jup_ne (by omega)] | rw [jup_nk (by omega)]))
  · rw [t3 M z (fun w => by have := w.2; omega)]; (repeat (first | rw [jup_eq] | rw [jup_ne (by omega)] | rw [jup_nk (by omega)])); rw [z1 M z (fun w => by have := w.2; omega)]; (repeat (first | rw [jup_eq] | rw [jup_ne (by omega)] | rw [jup_nk (by omega)])); rw [x1 M z (fun w => by have := w.2; omega)]; (repeat (first | rw [jup_eq] | rw [jup_ne (by omega)] | rw [jup_nk (by omega)]))
  · rw [t3 _ j (fun w => by have := w.1; omega)]; (repeat (first | rw [jup_eq] | rw [jup_ne (by omega)] | rw [jup_nk (by omega)])); rw [z1 _ j (fun w => by have := w.1; omega)]; (repeat (first | rw [jup_eq] | rw [jup_ne (by omega)] | rw [jup_nk (by omega)])); rw [x1 _ j (fun w => by have := w.1; omega)]; (repeat (first | rw [jup_eq] | rw [jup_ne (by omega)] | rw [jup_nk (by omega)]))
  · refine ⟨?_, t2, ?_, ?_, ?_, ?_⟩
    · rw [t3 M 9 (fun w => by have := w.2; omega)]; (repeat (first | rw [jup_eq] | rw [jup_ne (by omega)] | rw [jup_nk (by omega)])); exact z4
    · rw [t3 _ _ (fun w => by have := w.1; omega)]; (repeat (first | rw [jup_eq] | rw [jup_ne (by omega)] | rw [jup_nk (by omega)])); rw [z1 _ _ (fun w => by have := w.1; omega)]; (repeat (first | rw [jup_eq] | rw [jup_ne (by omega)] | rw [jup_nk (by omega)])); rw [x1 _ _ (fun w => by have := w.1; omega)]; (repeat (first | rw [jup_eq] | rw [jup_ne (by omega)] | rw [jup_nk (by omega)]))
    · rw [t3 _ _ (fun w => by have := w.1; omega)]; (repeat (first | rw [jup_eq] | rw [jup_ne (by omega)] | rw [jup_nk (by omega)])); rw [z1 _ _ (fun w => by have := w.1; omega)]; (repeat (first | rw [jup_eq] | rw [jup_ne (by omega)] | rw [jup_nk (by omega)]))
    · rw [t3 _ _ (fun w => by have := w.1; omega)]; (repeat (first | rw [jup_eq] | rw [jup_ne (by omega)] | rw [jup_nk (by omega)]))
    · rw [t1]; show _ = if q5 < n ∧ f q5 ≠ 59 then q5 else F; split <;> split <;> omega
theorem ro_6_n {G : JG} {S : JS} {D : JD} {d : Nat} {M n : Int} {f : Int → Int} {p F k : Int} {q : Int} (hM : jMo S M) (hn : D M 7 = n) (hf : D (M + 6) = f) (n0 : 0 ≤ n) (n1 : n ≤ 60) (fr : ∀ z : Int, 0 ≤ f z ∧ f z ≤ 65535) (hp : D M 9 = p) (p0 : 0 ≤ p) (p1 : p ≤ n) (hF : D M 10 = F) (rF : i32 F) (F0 : F < 0) (hk : D M 11 = k) (k0 : 0 ≤ k) (k1 : k ≤ 25) (hW : oW f p (oE f n p) = 6) (hx : oNm f n (oE f n p) 0 11 = (none, q)) : JM G yX8_readOrder cX8_readOrder 4 none (d + 2) (0, 0) S D [.inr (.inr (some M))] (jnP S (fun D2 => jRx D D2 M n F k f (oRd f n p))) := by
  obtain ⟨mk, m0, m1, m2, m4, m5, m8, m12, y1, l1, y2, l2, y3, l3, y4, l4, y5, l5, y6, l6, y7, l7⟩ := id hM
  have eb := oE_b (f := f) p1
  have hres : oRd f n p = (none, q) := by
    unfold oRd
    rw [if_neg (by rw [hW]; decide), hW]
    unfold oAr
    rw [show oM1 6 = 11 from rfl, hx]
  rw [hres]
  show JX _ _ _ _ _ _ _ _ _ _ _ [_, _, _, _] _ _
  refine x_aload_n dX8_readOrder_0 rfl ?_
  refine x_aload_n dX8_readOrder_1 rfl ?_
  refine gf_RX8_190 dX8_readOrder_2 rfl (by assumption) ?_
  rw [hp]
  refine c_RX8_197d dX8_readOrder_5 rfl (kX8_endOf hM hn hf n0 n1 fr p0 p1) (by assumption) (Nat.le_of_ble_eq_true rfl) (Nat.le_of_ble_eq_true rfl) ⟨Nat.le_refl _, Nat.le_refl _⟩ ?_
  refine x_istore_n dX8_readOrder_8 (by decide) ?_
  show JX _ _ _ _ _ _ _ _ _ _ _ [_, _, _, _] _ _
  refine x_aload_n dX8_readOrder_9 rfl ?_
  refine x_aload_n dX8_readOrder_10 rfl ?_
  refine gf_RX8_190 dX8_readOrder_11 rfl (by assumption) ?_
  rw [hp]
  refine x_iload_n dX8_readOrder_14 rfl ?_
  refine c_RX8_200d dX8_readOrder_15 rfl (kX8_word hM hn hf n0 n1 fr p0 eb.1 eb.2) (by assumption) (Nat.le_of_ble_eq_true rfl) (Nat.le_of_ble_eq_true rfl) ⟨Nat.le_refl _, Nat.le_refl _⟩ ?_
  rw [hW, if_neg (show ¬ (6 : Int) < 0 by decide)]
  refine x_istore_n dX8_readOrder_18 (by decide) ?_
  show JX _ _ _ _ _ _ _ _ _ _ _ [_, _, _, _] _ _
  refine x_iload_n dX8_readOrder_19 rfl ?_
  refine x_if_ge (tgt := 31) dX8_readOrder_20 (by decide) ⟨by omega, by omega⟩ (fun hb20 => ?_) (fun h => (h (by omega)).elim)
  refine x_aload_n dX8_readOrder_31 rfl ?_
  refine x_iload_n dX8_readOrder_32 rfl ?_
  refine pf_RX8_190 dX8_readOrder_33 rfl (by assumption) ?_
  refine x_iconst dX8_readOrder_36 ?_
  refine x_aload_n dX8_readOrder_37 rfl ?_
  refine gf_RX8_203 dX8_readOrder_38 rfl (by assumption) ?_
  rw [jup_nk (show (11 : Int) ≠ 9 by decide), hk]
  refine x_imul dX8_readOrder_41 ?_
  refine x_istore_n dX8_readOrder_42 (by decide) ?_
  show JX _ _ _ _ _ _ _ _ _ _ _ [_, _, _, _] _ _
  refine x_aload_n dX8_readOrder_43 rfl ?_
  refine gf_RX8_30 dX8_readOrder_44 rfl (by assumption) ?_
  rw [m12]
  refine x_iload_n dX8_readOrder_47 rfl ?_
  refine x_iload_n dX8_readOrder_48 rfl ?_
  refine x_iast dX8_readOrder_49 (by assumption) ⟨by omega, by omega⟩ ?_
  refine x_aload_n dX8_readOrder_50 rfl ?_
  refine gf_RX8_30 dX8_readOrder_51 rfl (by assumption) ?_
  rw [m12]
  refine x_iload_n dX8_readOrder_54 rfl ?_
  refine x_iconst dX8_readOrder_55 ?_
  refine x_iadd dX8_readOrder_56 ?_
  refine x_aload_n dX8_readOrder_57 rfl ?_
  refine x_iconst dX8_readOrder_58 ?_
  refine x_iload_n dX8_readOrder_59 rfl ?_
  refine x_iconst dX8_readOrder_60 ?_
  refine x_ic_eq (tgt := 69) dX8_readOrder_61 (by decide) ⟨by omega, by omega⟩ ⟨by omega, by omega⟩ (fun h => absurd h (by omega)) (fun hb61 => ?_)
  refine x_iload_n dX8_readOrder_64 rfl ?_
  refine x_iconst dX8_readOrder_65 ?_
  refine x_ic_le (tgt := 74) dX8_readOrder_66 (by decide) ⟨by omega, by omega⟩ ⟨by omega, by omega⟩ (fun h => absurd h (by omega)) (fun hb66 => ?_)
  refine x_bipush dX8_readOrder_69 (by decide) ?_
  refine x_goto (tgt := 75) dX8_readOrder_71 (by decide) ?_
  have na : (jup (jup D M 9 (oE f n p)) (M + 7) (3 * k) 6) M 7 = n := by (repeat (first | rw [jup_eq] | rw [jup_ne (by omega)] | rw [jup_nk (by omega)])); first | exact hn | rfl
  have fa : (jup (jup D M 9 (oE f n p)) (M + 7) (3 * k) 6) (M + 6) = f := by (repeat (rw [jup_off (by omega)])); exact hf
  have pa : (jup (jup D M 9 (oE f n p)) (M + 7) (3 * k) 6) M 9 = (oE f n p) := by (repeat (first | rw [jup_eq] | rw [jup_ne (by omega)] | rw [jup_nk (by omega)]))
  have Fa : (jup (jup D M 9 (oE f n p)) (M + 7) (3 * k) 6) M 10 = F := by (repeat (first | rw [jup_eq] | rw [jup_ne (by omega)] | rw [jup_nk (by omega)])); exact hF
  have ka : (jup (jup D M 9 (oE f n p)) (M + 7) (3 * k) 6) M 11 = k := by (repeat (first | rw [jup_eq] | rw [jup_ne (by omega)] | rw [jup_nk (by omega)])); exact hk
  refine c_RX8_206p dX8_readOrder_75 rfl (kX8_number hM na fa n0 n1 fr pa (by omega) (by omega) Fa rF F0 ⟨by omega, by omega⟩ ⟨by omega, by omega⟩) (by assumption) (Nat.le_of_ble_eq_true rfl) (Nat.le_of_ble_eq_true rfl) ⟨Nat.le_refl _, Nat.le_refl _⟩ (fun w5 D5 h5 => ?_)
  obtain ⟨x1, x2, x3⟩ := h5
  rw [hx] at x3
  obtain ⟨⟨u, hu⟩, x4⟩ := x3
  subst hu
  replace x4 : D5 M 10 = q := x4
  have qb := oNm_q (f := f) (n := n) (p := oE f n p) (least := 0) (most := 11) eb.2
  rw [hx] at qb
  replace qb : oE f n p ≤ q ∧ q ≤ n := qb
  have nb : D5 M 7 = n := by rw [x1 M 7 (fun w => by have := w.2; omega)]; exact na
  have fb : D5 (M + 6) = f := by rw [← fa]; funext z; exact x1 _ z (fun w => by have := w.1; omega)
  have kb : D5 M 11 = k := by rw [x1 M 11 (fun w => by have := w.2; omega)]; exact ka
  refine x_iast dX8_readOrder_78 (by assumption) ⟨by omega, by omega⟩ ?_
  refine x_aload_n dX8_readOrder_79 rfl ?_
  refine gf_RX8_30 dX8_readOrder_80 rfl (by assumption) ?_
  rw [m12]
  refine x_iload_n dX8_readOrder_83 rfl ?_
  refine x_iconst dX8_readOrder_84 ?_
  refine x_iadd dX8_readOrder_85 ?_
  refine x_iload_n dX8_readOrder_86 rfl ?_
  refine x_iconst dX8_readOrder_87 ?_
  refine x_ic_ne (tgt := 95) dX8_readOrder_88 (by decide) ⟨by omega, by omega⟩ ⟨by omega, by omega⟩ (fun hb88 => ?_) (fun h => (h (by omega)).elim)
  refine x_iload_n dX8_readOrder_95 rfl ?_
  refine x_iconst dX8_readOrder_96 ?_
  refine x_ic_ne (tgt := 109) dX8_readOrder_97 (by decide) ⟨by omega, by omega⟩ ⟨by omega, by omega⟩ (fun hb97 => ?_) (fun h => (h (by omega)).elim)
  refine x_iload_n dX8_readOrder_109 rfl ?_
  refine x_iconst dX8_readOrder_110 ?_
  refine x_ic_le (tgt := 125) dX8_readOrder_111 (by decide) ⟨by omega, by omega⟩ ⟨by omega, by omega⟩ (fun h => absurd h (by omega)) (fun hb111 => ?_)
  refine x_aload_n dX8_readOrder_114 rfl ?_
  refine x_iconst dX8_readOrder_115 ?_
  refine x_sipush dX8_readOrder_116 (by decide) ?_
  have nc : (jup D5 (M + 7) (3 * k + 1) u) M 7 = n := by (repeat (first | rw [jup_eq] | rw [jup_ne (by omega)] | rw [jup_nk (by omega)])); exact nb
  have fc : (jup D5 (M + 7) (3 * k + 1) u) (M + 6) = f := by (repeat (rw [jup_off (by omega)])); exact fb
  have Fc : (jup D5 (M + 7) (3 * k + 1) u) M 10 = q := by (repeat (first | rw [jup_eq] | rw [jup_ne (by omega)] | rw [jup_nk (by omega)])); exact x4
  refine c_RX8_206d dX8_readOrder_119 rfl (kX8_number_F hM nc fc n0 n1 fr Fc ⟨by omega, by omega⟩ (by omega)) (by assumption) (Nat.le_of_ble_eq_true rfl) (Nat.le_of_ble_eq_true rfl) ⟨Nat.le_refl _, Nat.le_refl _⟩ ?_
  refine x_goto (tgt := 131) dX8_readOrder_122 (by decide) ?_
  refine x_iast dX8_readOrder_131 (by assumption) ⟨by omega, by omega⟩ ?_
  refine (ro_tail (D := (jup (jup D5 (M + 7) (3 * k + 1) u) (M + 7) (3 * k + 2) 0)) (q := D5 M 9) (F := q) (k := k) hM (by (repeat (first | rw [jup_eq] | rw [jup_ne (by omega)] | rw [jup_nk (by omega)])); exact nb) (by (repeat (rw [jup_off (by omega)])); exact fb) n0 n1 fr (by (repeat (first | rw [jup_eq] | rw [jup_ne (by omega)] | rw [jup_nk (by omega)])); try rfl) x2.1 x2.2 (by (repeat (first | rw [jup_eq] | rw [jup_ne (by omega)] | rw [jup_nk (by omega)])); exact x4) ⟨by omega, by omega⟩ (by (repeat (first | rw [jup_eq] | rw [jup_ne (by omega)] | rw [jup_nk (by omega)])); exact kb)).mono ?_
  rintro v S2 D9 ⟨rfl, rfl, t1, t2, t3⟩
  refine ⟨rfl, rfl, fun y a b => ?_, fun z a b e => ?_, fun j hj => ?_, ?_⟩
  · funext z; rw [t3 y z (fun w => a w.1)]; (repeat (first | rw [jup_eq] | rw [jup_ne (by omega)] | rw [jup_nk (by omega)])); rw [x1 y z (fun w => a w.1)]; (repeat (first | rw [jup_eq] | rw [jup_ne (by omega)] | rw [jup_nk (by omega)]))
  · rw [t3 M z (fun w => by have := w.2; omega)]; (repeat (first | rw [jup_eq] | rw [jup_ne (by omega)] | rw [jup_nk (by omega)])); rw [x1 M z (fun w => by have := w.2; omega)]; (repeat (first | rw [jup_eq] | rw [jup_ne (by omega)] | rw [jup_nk (by omega)]))
  · rw [t3 _ j (fun w => by have := w.1; omega)]; (repeat (first | rw [jup_eq] | rw [jup_ne (by omega)] | rw [jup_nk (by omega)])); rw [x1 _ j (fun w => by have := w.1; omega)]; (repeat (first | rw [jup_eq] | rw [jup_ne (by omega)] | rw [jup_nk (by omega)]))
  · rw [t1]; exact if_neg (by omega)
theorem ro_6_yn {G : JG} {S : JS} {D : JD} {d : Nat} {M n : Int} {f : Int → Int} {p F k : Int} {q a q5 : Int} (hM : jMo S M) (hn : D M 7 = n) (hf : D (M + 6) = f) (n0 : 0 ≤ n) (n1 : n ≤ 60) (fr : ∀ z : Int, 0 ≤ f z ∧ f z ≤ 65535) (hp : D M 9 = p) (p0 : 0 ≤ p) (p1 : p ≤ n) (hF : D M 10 = F) (rF : i32 F) (F0 : F < 0) (hk : D M 11 = k) (k0 : 0 ≤ k) (k1 : k ≤ 25) (hW : oW f p (oE f n p) = 6) (hx : oNm f n (oE f n p) 0 11 = (some a, q)) (hy : oNm f n q 1 999 = (none, q5)) : JM G yX8_readOrder cX8_readOrder 4 none (d + 2) (0, 0) S D [.inr (.inr (some M))] (jnP S (fun D2 => jRx D D2 M n F k f (oRd f n p))) := by
  obtain ⟨mk, m0, m1, m2, m4, m5, m8, m12, y1, l1, y2, l2, y3, l3, y4, l4, y5, l5, y6, l6, y7, l7⟩ := id hM
  have eb := oE_b (f := f) p1
  have hres : oRd f n p = (none, q5) := by
    unfold oRd
    rw [if_neg (by rw [hW]; decide), hW]
    unfold oAr
    rw [show oM1 6 = 11 from rfl, hx]
    show (if (6 : Int) = 2 then ((some (6, a, 0), q) : Option oOrd × Int) else match oNm f n q (oL2 6) (oM2 6) with | (none, q2) => (none, q2) | (some b, q2) => (some (6, a, b), q2)) = _
    rw [if_neg (by decide), show oL2 6 = 1 from rfl, show oM2 6 = 999 from rfl, hy]
  rw [hres]
  show JX _ _ _ _ _ _ _ _ _ _ _ [_, _, _, _] _ _
  refine x_aload_n dX8_readOrder_0 rfl ?_
  refine x_aload_n dX8_readOrder_1 rfl ?_
  refine gf_RX8_190 dX8_readOrder_2 rfl (by assumption) ?_
  rw [hp]
  refine c_RX8_197d dX8_readOrder_5 rfl (kX8_endOf hM hn hf n0 n1 fr p0 p1) (by assumption) (Nat.le_of_ble_eq_true rfl) (Nat.le_of_ble_eq_true rfl) ⟨Nat.le_refl _, Nat.le_refl _⟩ ?_
  refine x_istore_n dX8_readOrder_8 (by decide) ?_
  show JX _ _ _ _ _ _ _ _ _ _ _ [_, _, _, _] _ _
  refine x_aload_n dX8_readOrder_9 rfl ?_
  refine x_aload_n dX8_readOrder_10 rfl ?_
  refine gf_RX8_190 dX8_readOrder_11 rfl (by assumption) ?_
  rw [hp]
  refine x_iload_n dX8_readOrder_14 rfl ?_
  refine c_RX8_200d dX8_readOrder_15 rfl (kX8_word hM hn hf n0 n1 fr p0 eb.1 eb.2) (by assumption) (Nat.le_of_ble_eq_true rfl) (Nat.le_of_ble_eq_true rfl) ⟨Nat.le_refl _, Nat.le_refl _⟩ ?_
  rw [hW, if_neg (show ¬ (6 : Int) < 0 by decide)]
  refine x_istore_n dX8_readOrder_18 (by decide) ?_
  show JX _ _ _ _ _ _ _ _ _ _ _ [_, _, _, _] _ _
  refine x_iload_n dX8_readOrder_19 rfl ?_
  refine x_if_ge (tgt := 31) dX8_readOrder_20 (by decide) ⟨by omega, by omega⟩ (fun hb20 => ?_) (fun h => (h (by omega)).elim)
  refine x_aload_n dX8_readOrder_31 rfl ?_
  refine x_iload_n dX8_readOrder_32 rfl ?_
  refine pf_RX8_190 dX8_readOrder_33 rfl (by assumption) ?_
  refine x_iconst dX8_readOrder_36 ?_
  refine x_aload_n dX8_readOrder_37 rfl ?_
  refine gf_RX8_203 dX8_readOrder_38 rfl (by assumption) ?_
  rw [jup_nk (show (11 : Int) ≠ 9 by decide), hk]
  refine x_imul dX8_readOrder_41 ?_
  refine x_istore_n dX8_readOrder_42 (by decide) ?_
  show JX _ _ _ _ _ _ _ _ _ _ _ [_, _, _, _] _ _
  refine x_aload_n dX8_readOrder_43 rfl ?_
  refine gf_RX8_30 dX8_readOrder_44 rfl (by assumption) ?_
  rw [m12]
  refine x_iload_n dX8_readOrder_47 rfl ?_
  refine x_iload_n dX8_readOrder_48 rfl ?_
  refine x_iast dX8_readOrder_49 (by assumption) ⟨by omega, by omega⟩ ?_
  refine x_aload_n dX8_readOrder_50 rfl ?_
  refine gf_RX8_30 dX8_readOrder_51 rfl (by assumption) ?_
  rw [m12]
  refine x_iload_n dX8_readOrder_54 rfl ?_
  refine x_iconst dX8_readOrder_55 ?_
  refine x_iadd dX8_readOrder_56 ?_
  refine x_aload_n dX8_readOrder_57 rfl ?_
  refine x_iconst dX8_readOrder_58 ?_
  refine x_iload_n dX8_readOrder_59 rfl ?_
  refine x_iconst dX8_readOrder_60 ?_
  refine x_ic_eq (tgt := 69) dX8_readOrder_61 (by decide) ⟨by omega, by omega⟩ ⟨by omega, by omega⟩ (fun h => absurd h (by omega)) (fun hb61 => ?_)
  refine x_iload_n dX8_readOrder_64 rfl ?_
  refine x_iconst dX8_readOrder_65 ?_
  refine x_ic_le (tgt := 74) dX8_readOrder_66 (by decide) ⟨by omega, by omega⟩ ⟨by omega, by omega⟩ (fun h => absurd h (by omega)) (fun hb66 => ?_)
  refine x_bipush dX8_readOrder_69 (by decide) ?_
  refine x_goto (tgt := 75) dX8_readOrder_71 (by decide) ?_
  have na : (jup (jup D M 9 (oE f n p)) (M + 7) (3 * k) 6) M 7 = n := by (repeat (first | rw [jup_eq] | rw [jup_ne (by omega)] | rw [jup_nk (by omega)])); first | exact hn | rfl
  have fa : (jup (jup D M 9 (oE f n p)) (M + 7) (3 * k) 6) (M + 6) = f := by (repeat (rw [jup_off (by omega)])); exact hf
  have pa : (jup (jup D M 9 (oE f n p)) (M + 7) (3 * k) 6) M 9 = (oE f n p) := by (repeat (first | rw [jup_eq] | rw [jup_ne (by omega)] | rw [jup_nk (by omega)]))
  have Fa : (jup (jup D M 9 (oE f n p)) (M + 7) (3 * k) 6) M 10 = F := by (repeat (first | rw [jup_eq] | rw [jup_ne (by omega)] | rw [jup_nk (by omega)])); exact hF
  have ka : (jup (jup D M 9 (oE f n p)) (M + 7) (3 * k) 6) M 11 = k := by (repeat (first | rw [jup_eq] | rw [jup_ne (by omega)] | rw [jup_nk (by omega)])); exact hk
  refine c_RX8_206p dX8_readOrder_75 rfl (kX8_number hM na fa n0 n1 fr pa (by omega) (by omega) Fa rF F0 ⟨by omega, by omega⟩ ⟨by omega, by omega⟩) (by assumption) (Nat.le_of_ble_eq_true rfl) (Nat.le_of_ble_eq_true rfl) ⟨Nat.le_refl _, Nat.le_refl _⟩ (fun w5 D5 h5 => ?_)
  obtain ⟨x1, x2, x3⟩ := h5
  rw [hx] at x3
  obtain ⟨hu, x4, x5⟩ := (x3 : w5 = .inl a ∧ D5 M 9 = q ∧ D5 M 10 = _)
  subst hu
  have qb := oNm_b eb.2 hx
  have Fb : D5 M 10 = F := by rw [x5]; exact Fa
  have nb : D5 M 7 = n := by rw [x1 M 7 (fun w => by have := w.2; omega)]; exact na
  have fb : D5 (M + 6) = f := by rw [← fa]; funext z; exact x1 _ z (fun w => by have := w.1; omega)
  have kb : D5 M 11 = k := by rw [x1 M 11 (fun w => by have := w.2; omega)]; exact ka
  refine x_iast dX8_readOrder_78 (by assumption) ⟨by omega, by omega⟩ ?_
  refine x_aload_n dX8_readOrder_79 rfl ?_
  refine gf_RX8_30 dX8_readOrder_80 rfl (by assumption) ?_
  rw [m12]
  refine x_iload_n dX8_readOrder_83 rfl ?_
  refine x_iconst dX8_readOrder_84 ?_
  refine x_iadd dX8_readOrder_85 ?_
  refine x_iload_n dX8_readOrder_86 rfl ?_
  refine x_iconst dX8_readOrder_87 ?_
  refine x_ic_ne (tgt := 95) dX8_readOrder_88 (by decide) ⟨by omega, by omega⟩ ⟨by omega, by omega⟩ (fun hb88 => ?_) (fun h => (h (by omega)).elim)
  refine x_iload_n dX8_readOrder_95 rfl ?_
  refine x_iconst dX8_readOrder_96 ?_
  refine x_ic_ne (tgt := 109) dX8_readOrder_97 (by decide) ⟨by omega, by omega⟩ ⟨by omega, by omega⟩ (fun hb97 => ?_) (fun h => (h (by omega)).elim)
  refine x_iload_n dX8_readOrder_109 rfl ?_
  refine x_iconst dX8_readOrder_110 ?_
  refine x_ic_le (tgt := 125) dX8_readOrder_111 (by decide) ⟨by omega, by omega⟩ ⟨by omega, by omega⟩ (fun h => absurd h (by omega)) (fun hb111 => ?_)
  refine x_aload_n dX8_readOrder_114 rfl ?_
  refine x_iconst dX8_readOrder_115 ?_
  refine x_sipush dX8_readOrder_116 (by decide) ?_
  have nc : (jup D5 (M + 7) (3 * k + 1) a) M 7 = n := by (repeat (first | rw [jup_eq] | rw [jup_ne (by omega)] | rw [jup_nk (by omega)])); exact nb
  have fc : (jup D5 (M + 7) (3 * k + 1) a) (M + 6) = f := by (repeat (rw [jup_off (by omega)])); exact fb
  have pc : (jup D5 (M + 7) (3 * k + 1) a) M 9 = q := by (repeat (first | rw [jup_eq] | rw [jup_ne (by omega)] | rw [jup_nk (by omega)])); exact x4
  have Fc : (jup D5 (M + 7) (3 * k + 1) a) M 10 = F := by (repeat (first | rw [jup_eq] | rw [jup_ne (by omega)] | rw [jup_nk (by omega)])); exact Fb
  have kc : (jup D5 (M + 7) (3 * k + 1) a) M 11 = k := by (repeat (first | rw [jup_eq] | rw [jup_ne (by omega)] | rw [jup_nk (by omega)])); exact kb
  refine c_RX8_206p dX8_readOrder_119 rfl (kX8_number hM nc fc n0 n1 fr pc (by omega) (by omega) Fc rF F0 ⟨by omega, by omega⟩ ⟨by omega, by omega⟩) (by assumption) (Nat.le_of_ble_eq_true rfl) (Nat.le_of_ble_eq_true rfl) ⟨Nat.le_refl _, Nat.le_refl _⟩ (fun w6 D6 h6 => ?_)
  obtain ⟨z1, z2, z3⟩ := h6
  rw [hy] at z3
  obtain ⟨⟨u, hu⟩, z4⟩ := z3
  subst hu
  replace z4 : D6 M 10 = q5 := z4
  have qc := oNm_q (f := f) (n := n) (p := q) (least := 1) (most := 999) qb.2.1
  rw [hy] at qc
  replace qc : q ≤ q5 ∧ q5 ≤ n := qc
  have nd : D6 M 7 = n := by rw [z1 M 7 (fun w => by have := w.2; omega)]; exact nc
  have fd : D6 (M + 6) = f := by rw [← fc]; funext z; exact z1 _ z (fun w => by have := w.1; omega)
  have kd : D6 M 11 = k := by rw [z1 M 11 (fun w => by have := w.2; omega)]; exact kc
  refine x_goto (tgt := 131) dX8_readOrder_122 (by decide) ?_
  refine x_iast dX8_readOrder_131 (by assumption) ⟨by omega, by omega⟩ ?_
  refine (ro_tail (D := (jup D6 (M + 7) (3 * k + 2) u)) (q := D6 M 9) (F := q5) (k := k) hM (by (repeat (first | rw [jup_eq] | rw [jup_ne (by omega)] | rw [jup_nk (by omega)])); exact nd) (by (repeat (rw [jup_off (by omega)])); exact fd) n0 n1 fr (by (repeat (first | rw [jup_eq] | rw [jup_ne (by omega)] | rw [jup_nk (by omega)])); try rfl) z2.1 z2.2 (by (repeat (first | rw [jup_eq] | rw [jup_ne (by omega)] | rw [jup_nk (by omega)])); exact z4) ⟨by omega, by omega⟩ (by (repeat (first | rw [jup_eq] | rw [jup_ne (by omega)] | rw [jup_nk (by omega)])); exact kd)).mono ?_
  rintro v S2 D9 ⟨rfl, rfl, t1, t2, t3⟩
  refine ⟨rfl, rfl, fun y a b => ?_, fun z a b e => ?_, fun j hj => ?_, ?_⟩
  · funext z; rw [t3 y z (fun w => a w.1)]; (repeat (first | rw [jup_eq] | rw [jup_ne (by omega)] | rw [jup_nk (by omega)])); rw [z1 y z (fun w => a w.1)]; (repeat (first | rw [jup_eq] | rw [jup_ne (by omega)] | rw [jup_nk (by omega)])); rw [x1 y z (fun w => a w.1)]; (repeat (first | rw [jup_eq] | rw [jup_ne (by omega)] | rw [jup_nk (by omega)]))
  · rw [t3 M z (fun w => by have := w.2; omega)]; (repeat (first | rw [jup_eq] | rw [jup_ne (by omega)] | rw [jup_nk (by omega)])); rw [z1 M z (fun w => by have := w.2; omega)]; (repeat (first | rw [jup_eq] | rw [jup_ne (by omega)] | rw [jup_nk (by omega)])); rw [x1 M z (fun w => by have := w.2; omega)]; (repeat (first | rw [jup_eq] | rw [jup_ne (by omega)] | rw [jup_nk (by omega)]))
  · rw [t3 _ j (fun w => by have := w.1; omega)]; (repeat (first | rw [jup_eq] | rw [jup_ne (by omega)] | rw [jup_nk (by omega)])); rw [z1 _ j (fun w => by have := w.1; omega)]; (repeat (first | rw [jup_eq] | rw [jup_ne (by omega)] | rw [jup_nk (by omega)])); rw [x1 _ j (fun w => by have := w.1; omega)]; (repeat (first | rw [jup_eq] | rw [jup_ne (by omega)] | rw [jup_nk (by omega)]))
  · rw [t1]; exact if_neg (by omega)
theorem ro_6_yy {G : JG} {S : JS} {D : JD} {d : Nat} {M n : Int} {f : Int → Int} {p F k : Int} {q a q5 b : Int} (hM : jMo S M) (hn : D M 7 = n) (hf : D (M + 6) = f) (n0 : 0 ≤ n) (n1 : n ≤ 60) (fr : ∀ z : Int, 0 ≤ f z ∧ f z ≤ 65535) (hp : D M 9 = p) (p0 : 0 ≤ p) (p1 : p ≤ n) (hF : D M 10 = F) (rF : i32 F) (F0 : F < 0) (hk : D M 11 = k) (k0 : 0 ≤ k) (k1 : k ≤ 25) (hW : oW f p (oE f n p) = 6) (hx : oNm f n (oE f n p) 0 11 = (some a, q)) (hy : oNm f n q 1 999 = (some b, q5)) : JM G yX8_readOrder cX8_readOrder 4 none (d + 2) (0, 0) S D [.inr (.inr (some M))] (jnP S (fun D2 => jRx D D2 M n F k f (oRd f n p))) := by
  obtain ⟨mk, m0, m1, m2, m4, m5, m8, m12, y1, l1, y2, l2, y3, l3, y4, l4, y5, l5, y6, l6, y7, l7⟩ := id hM
  have eb := oE_b (f := f) p1
  have hres : oRd f n p = (some (6, a, b), q5) := by
    unfold oRd
    rw [if_neg (by rw [hW]; decide), hW]
    unfold oAr
    rw [show oM1 6 = 11 from rfl, hx]
    show (if (6 : Int) = 2 then ((some (6, a, 0), q) : Option oOrd × Int) else match oNm f n q (oL2 6) (oM2 6) with | (none, q2) => (none, q2) | (some b, q2) => (some (6, a, b), q2)) = _
    rw [if_neg (by decide), show oL2 6 = 1 from rfl, show oM2 6 = 999 from rfl, hy]
  rw [hres]
  show JX _ _ _ _ _ _ _ _ _ _ _ [_, _, _, _] _ _
  refine x_aload_n dX8_readOrder_0 rfl ?_
  refine x_aload_n dX8_readOrder_1 rfl ?_
  refine gf_RX8_190 dX8_readOrder_2 rfl (by assumption) ?_
  rw [hp]
  refine c_RX8_197d dX8_readOrder_5 rfl (kX8_endOf hM hn hf n0 n1 fr p0 p1) (by assumption) (Nat.le_of_ble_eq_true rfl) (Nat.le_of_ble_eq_true rfl) ⟨Nat.le_refl _, Nat.le_refl _⟩ ?_
  refine x_istore_n dX8_readOrder_8 (by decide) ?_
  show JX _ _ _ _ _ _ _ _ _ _ _ [_, _, _, _] _ _
  refine x_aload_n dX8_readOrder_9 rfl ?_
  refine x_aload_n dX8_readOrder_10 rfl ?_
  refine gf_RX8_190 dX8_readOrder_11 rfl (by assumption) ?_
  rw [hp]
  refine x_iload_n dX8_readOrder_14 rfl ?_
  refine c_RX8_200d dX8_readOrder_15 rfl (kX8_word hM hn hf n0 n1 fr p0 eb.1 eb.2) (by assumption) (Nat.le_of_ble_eq_true rfl) (Nat.le_of_ble_eq_true rfl) ⟨Nat.le_refl _, Nat.le_refl _⟩ ?_
  rw [hW, if_neg (show ¬ (6 : Int) < 0 by decide)]
  refine x_istore_n dX8_readOrder_18 (by decide) ?_
  show JX _ _ _ _ _ _ _ _ _ _ _ [_, _, _, _] _ _
  refine x_iload_n dX8_readOrder_19 rfl ?_
  refine x_if_ge (tgt := 31) dX8_readOrder_20 (by decide) ⟨by omega, by omega⟩ (fun hb20 => ?_) (fun h => (h (by omega)).elim)
  refine x_aload_n dX8_readOrder_31 rfl ?_
  refine x_iload_n dX8_readOrder_32 rfl ?_
  refine pf_RX8_190 dX8_readOrder_33 rfl (by assumption) ?_
  refine x_iconst dX8_readOrder_36 ?_
  refine x_aload_n dX8_readOrder_37 rfl ?_
  refine gf_RX8_203 dX8_readOrder_38 rfl (by assumption) ?_
  rw [jup_nk (show (11 : Int) ≠ 9 by decide), hk]
  refine x_imul dX8_readOrder_41 ?_
  refine x_istore_n dX8_readOrder_42 (by decide) ?_
  show JX _ _ _ _ _ _ _ _ _ _ _ [_, _, _, _] _ _
  refine x_aload_n dX8_readOrder_43 rfl ?_
  refine gf_RX8_30 dX8_readOrder_44 rfl (by assumption) ?_
  rw [m12]
  refine x_iload_n dX8_readOrder_47 rfl ?_
  refine x_iload_n dX8_readOrder_48 rfl ?_
  refine x_iast dX8_readOrder_49 (by assumption) ⟨by omega, by omega⟩ ?_
  refine x_aload_n dX8_readOrder_50 rfl ?_
  refine gf_RX8_30 dX8_readOrder_51 rfl (by assumption) ?_
  rw [m12]
  refine x_iload_n dX8_readOrder_54 rfl ?_
  refine x_iconst dX8_readOrder_55 ?_
  refine x_iadd dX8_readOrder_56 ?_
  refine x_aload_n dX8_readOrder_57 rfl ?_
  refine x_iconst dX8_readOrder_58 ?_
  refine x_iload_n dX8_readOrder_59 rfl ?_
  refine x_iconst dX8_readOrder_60 ?_
  refine x_ic_eq (tgt := 69) dX8_readOrder_61 (by decide) ⟨by omega, by omega⟩ ⟨by omega, by omega⟩ (fun h => absurd h (by omega)) (fun hb61 => ?_)
  refine x_iload_n dX8_readOrder_64 rfl ?_
  refine x_iconst dX8_readOrder_65 ?_
  refine x_ic_le (tgt := 74) dX8_readOrder_66 (by decide) ⟨by omega, by omega⟩ ⟨by omega, by omega⟩ (fun h => absurd h (by omega)) (fun hb66 => ?_)
  refine x_bipush dX8_readOrder_69 (by decide) ?_
  refine x_goto (tgt := 75) dX8_readOrder_71 (by decide) ?_
  have na : (jup (jup D M 9 (oE f n p)) (M + 7) (3 * k) 6) M 7 = n := by (repeat (first | rw [jup_eq] | rw [jup_ne (by omega)] | rw [jup_nk (by omega)])); first | exact hn | rfl
  have fa : (jup (jup D M 9 (oE f n p)) (M + 7) (3 * k) 6) (M + 6) = f := by (repeat (rw [jup_off (by omega)])); exact hf
  have pa : (jup (jup D M 9 (oE f n p)) (M + 7) (3 * k) 6) M 9 = (oE f n p) := by (repeat (first | rw [jup_eq] | rw [jup_ne (by omega)] | rw [jup_nk (by omega)]))
  have Fa : (jup (jup D M 9 (oE f n p)) (M + 7) (3 * k) 6) M 10 = F := by (repeat (first | rw [jup_eq] | rw [jup_ne (by omega)] | rw [jup_nk (by omega)])); exact hF
  have ka : (jup (jup D M 9 (oE f n p)) (M + 7) (3 * k) 6) M 11 = k := by (repeat (first | rw [jup_eq] | rw [jup_ne (by omega)] | rw [jup_nk (by omega)])); exact hk
  refine c_RX8_206p dX8_readOrder_75 rfl (kX8_number hM na fa n0 n1 fr pa (by omega) (by omega) Fa rF F0 ⟨by omega, by omega⟩ ⟨by omega, by omega⟩) (by assumption) (Nat.le_of_ble_eq_true rfl) (Nat.le_of_ble_eq_true rfl) ⟨Nat.le_refl _, Nat.le_refl _⟩ (fun w5 D5 h5 => ?_)
  obtain ⟨x1, x2, x3⟩ := h5
  rw [hx] at x3
  obtain ⟨hu, x4, x5⟩ := (x3 : w5 = .inl a ∧ D5 M 9 = q ∧ D5 M 10 = _)
  subst hu
  have qb := oNm_b eb.2 hx
  have Fb : D5 M 10 = F := by rw [x5]; exact Fa
  have nb : D5 M 7 = n := by rw [x1 M 7 (fun w => by have := w.2; omega)]; exact na
  have fb : D5 (M + 6) = f := by rw [← fa]; funext z; exact x1 _ z (fun w => by have := w.1; omega)
  have kb : D5 M 11 = k := by rw [x1 M 11 (fun w => by have := w.2; omega)]; exact ka
  refine x_iast dX8_readOrder_78 (by assumption) ⟨by omega, by omega⟩ ?_
  refine x_aload_n dX8_readOrder_79 rfl ?_
  refine gf_RX8_30 dX8_readOrder_80 rfl (by assumption) ?_
  rw [m12]
  refine x_iload_n dX8_readOrder_83 rfl ?_
  refine x_iconst dX8_readOrder_84 ?_
  refine x_iadd dX8_readOrder_85 ?_
  refine x_iload_n dX8_readOrder_86 rfl ?_
  refine x_iconst dX8_readOrder_87 ?_
  refine x_ic_ne (tgt := 95) dX8_readOrder_88 (by decide) ⟨by omega, by omega⟩ ⟨by omega, by omega⟩ (fun hb88 => ?_) (fun h => (h (by omega)).elim)
  refine x_iload_n dX8_readOrder_95 rfl ?_
  refine x_iconst dX8_readOrder_96 ?_
  refine x_ic_ne (tgt := 109) dX8_readOrder_97 (by decide) ⟨by omega, by omega⟩ ⟨by omega, by omega⟩ (fun hb97 => ?_) (fun h => (h (by omega)).elim)
  refine x_iload_n dX8_readOrder_109 rfl ?_
  refine x_iconst dX8_readOrder_110 ?_
  refine x_ic_le (tgt := 125) dX8_readOrder_111 (by decide) ⟨by omega, by omega⟩ ⟨by omega, by omega⟩ (fun h => absurd h (by omega)) (fun hb111 => ?_)
  refine x_aload_n dX8_readOrder_114 rfl ?_
  refine x_iconst dX8_readOrder_115 ?_
  refine x_sipush dX8_readOrder_116 (by decide) ?_
  have nc : (jup D5 (M + 7) (3 * k + 1) a) M 7 = n := by (repeat (first | rw [jup_eq] | rw [jup_ne (by omega)] | rw [jup_nk (by omega)])); exact nb
  have fc : (jup D5 (M + 7) (3 * k + 1) a) (M + 6) = f := by (repeat (rw [jup_off (by omega)])); exact fb
  have pc : (jup D5 (M + 7) (3 * k + 1) a) M 9 = q := by (repeat (first | rw [jup_eq] | rw [jup_ne (by omega)] | rw [jup_nk (by omega)])); exact x4
  have Fc : (jup D5 (M + 7) (3 * k + 1) a) M 10 = F := by (repeat (first | rw [jup_eq] | rw [jup_ne (by omega)] | rw [jup_nk (by omega)])); exact Fb
  have kc : (jup D5 (M + 7) (3 * k + 1) a) M 11 = k := by (repeat (first | rw [jup_eq] | rw [jup_ne (by omega)] | rw [jup_nk (by omega)])); exact kb
  refine c_RX8_206p dX8_readOrder_119 rfl (kX8_number hM nc fc n0 n1 fr pc (by omega) (by omega) Fc rF F0 ⟨by omega, by omega⟩ ⟨by omega, by omega⟩) (by assumption) (Nat.le_of_ble_eq_true rfl) (Nat.le_of_ble_eq_true rfl) ⟨Nat.le_refl _, Nat.le_refl _⟩ (fun w6 D6 h6 => ?_)
  obtain ⟨z1, z2, z3⟩ := h6
  rw [hy] at z3
  obtain ⟨hu, z4, z5⟩ := (z3 : w6 = .inl b ∧ D6 M 9 = q5 ∧ D6 M 10 = _)
  subst hu
  have qc := oNm_b qb.2.1 hy
  have Fd : D6 M 10 = F := by rw [z5]; exact Fc
  have nd : D6 M 7 = n := by rw [z1 M 7 (fun w => by have := w.2; omega)]; exact nc
  have fd : D6 (M + 6) = f := by rw [← fc]; funext z; exact z1 _ z (fun w => by have := w.1; omega)
  have kd : D6 M 11 = k := by rw [z1 M 11 (fun w => by have := w.2; omega)]; exact kc
  refine x_goto (tgt := 131) dX8_readOrder_122 (by decide) ?_
  refine x_iast dX8_readOrder_131 (by assumption) ⟨by omega, by omega⟩ ?_
  refine (ro_tail (D := (jup D6 (M + 7) (3 * k + 2) b)) (q := q5) (F := F) (k := k) hM (by (repeat (first | rw [jup_eq] | rw [jup_ne (by omega)] | rw [jup_nk (by omega)])); exact nd) (by (repeat (rw [jup_off (by omega)])); exact fd) n0 n1 fr (by (repeat (first | rw [jup_eq] | rw [jup_ne (by omega)] | rw [jup_nk (by omega)])); exact z4) (by omega) (by omega) (by (repeat (first | rw [jup_eq] | rw [jup_ne (by omega)] | rw [jup_nk (by omega)])); exact Fd) rF (by (repeat (first | rw [jup_eq] | rw [jup_ne (by omega)] | rw [jup_nk (by omega)])); exact kd)).mono ?_
  rintro v S2 D9 ⟨rfl, rfl, t1, t2, t3⟩
  refine ⟨rfl, rfl, fun y a b => ?_, fun z a b e => ?_, fun j hj => ?_, ?_⟩
  · funext z; rw [t3 y z (fun w => a w.1)]; (repeat (first | rw [jup_eq] | rw [jup_ne (by omega)] | rw [jup_nk (by omega)])); rw [z1 y z (fun w => a w.1)]; (repeat (first | rw [jup_eq] | rw [jup_ne (by omega)] | rw [jup_nk (by omega)])); rw [x1 y z (fun w => a w.1)]; (repeat (first | rw [jup_eq] | rw [jup_ne (by omega)] | rw [jup_nk (by omega)]))
  · rw [t3 M z (fun w => by have := w.2; omega)]; (repeat (first | rw [jup_eq] | rw [jup_ne (by omega)] | rw [jup_nk (by omega)])); rw [z1 M z (fun w => by have := w.2; omega)]; (repeat (first | rw [jup_eq] | rw [jup_ne (by omega)] | rw [jup_nk (by omega)])); rw [x1 M z (fun w => by have := w.2; omega)]; (repeat (first | rw [jup_eq] | rw [jup_ne (by omega)] | rw [jup_nk (by omega)]))
  · rw [t3 _ j (fun w => by have := w.1; omega)]; (repeat (first | rw [jup_eq] | rw [jup_ne (by omega)] | rw [jup_nk (by omega)])); rw [z1 _ j (fun w => by have := w.1; omega)]; (repeat (first | rw [jup_eq] | rw [jup_ne (by omega)] | rw [jup_nk (by omega)])); rw [x1 _ j (fun w => by have := w.1; omega)]; (repeat (first | rw [jup_eq] | rw [jup_ne (by omega)] | rw [jup_nk (by omega)]))
  · refine ⟨?_, t2, ?_, ?_, ?_, ?_⟩
    · rw [t3 M 9 (fun w => by have := w.2; omega)]; (repeat (first | rw [jup_eq] | rw [jup_ne (by omega)] | rw [jup_nk (by omega)])); exact z4
    · rw [t3 _ _ (fun w => by have := w.1; omega)]; (repeat (first | rw [jup_eq] | rw [jup_ne (by omega)] | rw [jup_nk (by omega)])); rw [z1 _ _ (fun w => by have := w.1; omega)]; (repeat (first | rw [jup_eq] | rw [jup_ne (by omega)] | rw [jup_nk (by omega)])); rw [x1 _ _ (fun w => by have := w.1; omega)]; (repeat (first | rw [jup_eq] | rw [jup_ne (by omega)] | rw [jup_nk (by omega)]))
    · rw [t3 _ _ (fun w => by have := w.1; omega)]; (repeat (first | rw [jup_eq] | rw [jup_ne (by omega)] | rw [jup_nk (by omega)])); rw [z1 _ _ (fun w => by have := w.1; omega)]; (repeat (first | rw [jup_eq] | rw [jup_ne (by omega)] | rw [jup_nk (by omega)]))
    · rw [t3 _ _ (fun w => by have := w.1; omega)]; (repeat (first | rw [jup_eq] | rw [jup_ne (by omega)] | rw [jup_nk (by omega)]))
    · rw [t1]; show _ = if q5 < n ∧ f q5 ≠ 59 then q5 else F; split <;> split <;> omega
theorem kX8_readOrder {G : JG} {S : JS} {D : JD} {d : Nat} {M n : Int} {f : Int → Int} {p F k : Int} (hM : jMo S M) (hn : D M 7 = n) (hf : D (M + 6) = f) (n0 : 0 ≤ n) (n1 : n ≤ 60) (fr : ∀ z : Int, 0 ≤ f z ∧ f z ≤ 65535) (hp : D M 9 = p) (p0 : 0 ≤ p) (p1 : p ≤ n) (hF : D M 10 = F) (rF : i32 F) (F0 : F < 0) (hk : D M 11 = k) (k0 : 0 ≤ k) (k1 : k ≤ 25) : JM G yX8_readOrder cX8_readOrder 4 none (d + 2) (0, 0) S D [.inr (.inr (some M))] (jnP S (fun D2 => jRx D D2 M n F k f (oRd f n p))) := by
  have wr := oW_r f p (oE f n p)
  by_cases h0 : oW f p (oE f n p) = 0
  · cases hx : oNm f n (oE f n p) 0 3 with
    | mk x q =>
      cases x with
      | none => exact ro_0_n hM hn hf n0 n1 fr hp p0 p1 hF rF F0 hk k0 k1 h0 hx
      | some a =>
        cases hy : oNm f n q 0 1 with
        | mk x5 q5 =>
          cases x5 with
          | none => exact ro_0_yn hM hn hf n0 n1 fr hp p0 p1 hF rF F0 hk k0 k1 h0 hx hy
          | some b => exact ro_0_yy hM hn hf n0 n1 fr hp p0 p1 hF rF F0 hk k0 k1 h0 hx hy
  by_cases h1 : oW f p (oE f n p) = 1
  · cases hx : oNm f n (oE f n p) 0 3 with
    | mk x q =>
      cases x with
      | none => exact ro_1_n hM hn hf n0 n1 fr hp p0 p1 hF rF F0 hk k0 k1 h1 hx
      | some a =>
        cases hy : oNm f n q 0 1 with
        | mk x5 q5 =>
          cases x5 with
          | none => exact ro_1_yn hM hn hf n0 n1 fr hp p0 p1 hF rF F0 hk k0 k1 h1 hx hy
          | some b => exact ro_1_yy hM hn hf n0 n1 fr hp p0 p1 hF rF F0 hk k0 k1 h1 hx hy
  by_cases h2 : oW f p (oE f n p) = 2
  · cases hx : oNm f n (oE f n p) 0 3 with
    | mk x q =>
      cases x with
      | none => exact ro_2_n hM hn hf n0 n1 fr hp p0 p1 hF rF F0 hk k0 k1 h2 hx
      | some a =>
        exact ro_2_y hM hn hf n0 n1 fr hp p0 p1 hF rF F0 hk k0 k1 h2 hx
  by_cases h3 : oW f p (oE f n p) = 3
  · cases hx : oNm f n (oE f n p) 0 11 with
    | mk x q =>
      cases x with
      | none => exact ro_3_n hM hn hf n0 n1 fr hp p0 p1 hF rF F0 hk k0 k1 h3 hx
      | some a =>
        cases hy : oNm f n q 0 3 with
        | mk x5 q5 =>
          cases x5 with
          | none => exact ro_3_yn hM hn hf n0 n1 fr hp p0 p1 hF rF F0 hk k0 k1 h3 hx hy
          | some b => exact ro_3_yy hM hn hf n0 n1 fr hp p0 p1 hF rF F0 hk k0 k1 h3 hx hy
  by_cases h4 : oW f p (oE f n p) = 4
  · cases hx : oNm f n (oE f n p) 0 3 with
    | mk x q =>
      cases x with
      | none => exact ro_4_n hM hn hf n0 n1 fr hp p0 p1 hF rF F0 hk k0 k1 h4 hx
      | some a =>
        cases hy : oNm f n q 0 1 with
        | mk x5 q5 =>
          cases x5 with
          | none => exact ro_4_yn hM hn hf n0 n1 fr hp p0 p1 hF rF F0 hk k0 k1 h4 hx hy
          | some b => exact ro_4_yy hM hn hf n0 n1 fr hp p0 p1 hF rF F0 hk k0 k1 h4 hx hy
  by_cases h5 : oW f p (oE f n p) = 5
  · cases hx : oNm f n (oE f n p) 0 11 with
    | mk x q =>
      cases x with
      | none => exact ro_5_n hM hn hf n0 n1 fr hp p0 p1 hF rF F0 hk k0 k1 h5 hx
      | some a =>
        cases hy : oNm f n q 1 999 with
        | mk x5 q5 =>
          cases x5 with
          | none => exact ro_5_yn hM hn hf n0 n1 fr hp p0 p1 hF rF F0 hk k0 k1 h5 hx hy
          | some b => exact ro_5_yy hM hn hf n0 n1 fr hp p0 p1 hF rF F0 hk k0 k1 h5 hx hy
  by_cases h6 : oW f p (oE f n p) = 6
  · cases hx : oNm f n (oE f n p) 0 11 with
    | mk x q =>
      cases x with
      | none => exact ro_6_n hM hn hf n0 n1 fr hp p0 p1 hF rF F0 hk k0 k1 h6 hx
      | some a =>
        cases hy : oNm f n q 1 999 with
        | mk x5 q5 =>
          cases x5 with
          | none => exact ro_6_yn hM hn hf n0 n1 fr hp p0 p1 hF rF F0 hk k0 k1 h6 hx hy
          | some b => exact ro_6_yy hM hn hf n0 n1 fr hp p0 p1 hF rF F0 hk k0 k1 h6 hx hy
  exact ro_no hM hn hf n0 n1 fr hp p0 p1 hF rF F0 hk k0 k1 (by omega)
