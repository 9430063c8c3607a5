/-! CONSTRUCTORS of the history, of the orders, of the class and of the reference; what stands apart stays -/
abbrev jSm (S S2 : JS) (x : Int) : Prop := jK S2 x = jK S x ∧ jL S2 x = jL S x ∧ ∀ z : Int, jR S2 x z = jR S x z
theorem jFl.ext {S S2 : JS} {b : Int} (h : jFl S b) (e : ∀ x : Int, b ≤ x → x < b + 41 → jSm S S2 x) : jFl S2 b :=
  jFi.ag (N := b + 41) (i1 := 5) (i2 := 4) (i3 := 12) h (by omega) (by omega) (by omega) (by omega) (fun x p q => ⟨(e x p q).1, (e x p q).2.1⟩) (fun x z p q _ _ _ => (e x p q).2.2 z) (fun z _ _ => (e _ (by omega) (by omega)).2.2 z) (fun z _ _ => (e _ (by omega) (by omega)).2.2 z) (fun z _ _ => (e _ (by omega) (by omega)).2.2 z)
theorem jHs.ext {S S2 : JS} {b : Int} (h : jHs S b) (e : ∀ x : Int, b ≤ x → x < b + 207 → jSm S S2 x) : jHs S2 b := by
  obtain ⟨a0, a1, a2, a3, a4⟩ := h
  have e0 := e b (by omega) (by omega)
  have e1 := e (b + 1) (by omega) (by omega)
  refine ⟨by rw [e0.1]; exact a0, by rw [e0.2.2]; exact a1, by rw [e1.1]; exact a2, by rw [e1.2.1]; exact a3, fun i x y => ?_⟩
  rw [e1.2.2]
  exact ⟨(a4 i x y).1, (a4 i x y).2.ext (fun z p q => e z (by omega) (by omega))⟩
theorem jBL.ext {S S2 : JS} {X : Int} (h : jBL S X) (e : ∀ x : Int, X ≤ x → x < X + 252 → x ≠ X + 249 → jSm S S2 x) (e1 : jK S2 (X + 249) = jK S (X + 249)) (e2 : jL S2 (X + 249) = jL S (X + 249)) : jBL S2 X := by
  obtain ⟨bk, bf, bh, bs, bo, hF, hH, sk, sl, ok, ot, tk, tl⟩ := h
  have e0 := e X (by omega) (by omega) (by omega)
  have e5 := e (X + 250) (by omega) (by omega) (by omega)
  have e6 := e (X + 251) (by omega) (by omega) (by omega)
  exact ⟨by rw [e0.1]; exact bk, by rw [e0.2.2]; exact bf, by rw [e0.2.2]; exact bh, by rw [e0.2.2]; exact bs, by rw [e0.2.2]; exact bo, hF.ext (fun x p q => e x (by omega) (by omega) (by omega)), hH.ext (fun x p q => e x (by omega) (by omega) (by omega)), by rw [e1]; exact sk, by rw [e2]; exact sl, by rw [e5.1]; exact ok, by rw [e5.2.2]; exact ot, by rw [e6.1]; exact tk, by rw [e6.2.1]; exact tl⟩
theorem jMo.ext {S S2 : JS} {M : Int} (h : jMo S M) (e : ∀ x : Int, M ≤ x → x < M + 8 → jSm S S2 x) : jMo S2 M := by
  obtain ⟨mk, m0, m1, m2, m4, m5, m8, m12, y1, l1, y2, l2, y3, l3, y4, l4, y5, l5, y6, l6, y7, l7⟩ := h
  have e0 := e M (by omega) (by omega)
  have e1 := e (M + 1) (by omega) (by omega)
  have e2 := e (M + 2) (by omega) (by omega)
  have e3 := e (M + 3) (by omega) (by omega)
  have e4 := e (M + 4) (by omega) (by omega)
  have e5 := e (M + 5) (by omega) (by omega)
  have e6 := e (M + 6) (by omega) (by omega)
  have e7 := e (M + 7) (by omega) (by omega)
  exact ⟨by rw [e0.1]; exact mk, by rw [e0.2.2]; exact m0, by rw [e0.2.2]; exact m1, by rw [e0.2.2]; exact m2, by rw [e0.2.2]; exact m4, by rw [e0.2.2]; exact m5, by rw [e0.2.2]; exact m8, by rw [e0.2.2]; exact m12,
    by rw [e1.1]; exact y1, by rw [e1.2.1]; exact l1, by rw [e2.1]; exact y2, by rw [e2.2.1]; exact l2, by rw [e3.1]; exact y3, by rw [e3.2.1]; exact l3, by rw [e4.1]; exact y4, by rw [e4.2.1]; exact l4, by rw [e5.1]; exact y5, by rw [e5.2.1]; exact l5, by rw [e6.1]; exact y6, by rw [e6.2.1]; exact l6, by rw [e7.1]; exact y7, by rw [e7.2.1]; exact l7⟩
def jHx (S : JS) (hh i : Int) : Prop := jK S hh = 3 ∧ jR S hh 0 = some (hh + 1) ∧ jK S (hh + 1) = 15 ∧ jL S (hh + 1) = 5 ∧ ∀ k : Int, 0 ≤ k → k < i → jR S (hh + 1) k = some (hh + 2 + 41 * k) ∧ jFl S (hh + 2 + 41 * k)
theorem hist_loop {G : JG} {S0 : JS} {D0 : JD} {d : Nat} {b : Int} : ∀ (n i : Nat) (S : JS) (D : JD), (i : Int) + n = 5 → jHx S b i → S.1 = b + 2 + 41 * i → jOld S0 S b → jOlD D0 D b → JX G yX3_init cX3_init 2 none (d + 4) (206, 1380) (1 + i * 41, 5 + i * 275) S D 14 [some (.inr (.inr (some b))), some (.inl i)] [] (fun v S2 D2 => v = none ∧ S2.1 = b + 207 ∧ jHs S2 b ∧ jOld S0 S2 b ∧ jOlD D0 D2 b ∧ D2 b 1 = 0 ∧ D2 b 2 = 0) := by
  intro n
  induction n with
  | zero =>
    intro i S D hn hF hs ho hd
    have ei : i = 5 := by omega
    subst ei
    obtain ⟨f0, fr, f1, f2, g⟩ := id hF
    refine x_iload_n dX3_init_14 rfl ?_
    refine x_aload_n dX3_init_15 rfl ?_
    refine gf_RX3_11 dX3_init_16 rfl (by assumption) ?_
    rw [fr]
    refine x_alen (c := 15) dX3_init_19 (by decide) (by assumption) ?_
    rw [f2]
    refine x_ic_ge (tgt := 42) dX3_init_20 (by decide) ⟨by omega, by omega⟩ ⟨by omega, by omega⟩ (fun hb20 => ?_) (fun h => (h (by omega)).elim)
    refine x_aload_n dX3_init_42 rfl ?_
    refine x_iconst dX3_init_43 ?_
    refine pf_RX3_18 dX3_init_44 rfl (by assumption) ?_
    refine x_aload_n dX3_init_47 rfl ?_
    refine x_iconst dX3_init_48 ?_
    refine pf_RX3_22 dX3_init_49 rfl (by assumption) ?_
    exact x_return dX3_init_52 rfl ⟨by show 1 + 5 * 41 ≤ 206; omega, by show 5 + 5 * 275 ≤ 1380; omega⟩ ⟨rfl, by omega, hF, ho, fun x z hx => by rw [jup_ne (by omega), jup_ne (by omega)]; exact hd x z hx, by rw [jup_nk (by omega), jup_eq], jup_eq⟩
  | succ n ih =>
    intro i S D hn hF hs ho hd
    obtain ⟨f0, fr, f1, f2, g⟩ := id hF
    refine x_iload_n dX3_init_14 rfl ?_
    refine x_aload_n dX3_init_15 rfl ?_
    refine gf_RX3_11 dX3_init_16 rfl (by assumption) ?_
    rw [fr]
    refine x_alen (c := 15) dX3_init_19 (by decide) (by assumption) ?_
    rw [f2]
    refine x_ic_ge (tgt := 42) dX3_init_20 (by decide) ⟨by omega, by omega⟩ ⟨by omega, by omega⟩ (fun h => absurd h (by omega)) (fun hb20 => ?_)
    refine x_aload_n dX3_init_23 rfl ?_
    refine gf_RX3_11 dX3_init_24 rfl (by assumption) ?_
    rw [fr]
    refine x_iload_n dX3_init_27 rfl ?_
    refine x_new (c := 2) dX3_init_28 rfl (by decide) cl_RX3_9 ins_RX2 ini_RX2 (by show 1 + i * 41 + 1 ≤ 206 ∧ 5 + i * 275 + 9 ≤ 1380; exact ⟨by omega, by omega⟩) ?_
    refine x_dup dX3_init_31 (fun _ h => by cases h) ?_
    refine c_RX3_17 dX3_init_32 rfl (kX2_init (b := S.1) (jnw_K (n := 0)) rfl) (Nat.le_of_ble_eq_true rfl) (Nat.le_of_ble_eq_true rfl) (by show 1 + i * 41 + 1 + 40 ≤ 206 ∧ 5 + i * 275 + 9 + 266 ≤ 1380; exact ⟨by omega, by omega⟩) ?_
    rintro v9 S9 D9 ⟨rfl, q1, q2, q3, q4, q5⟩
    dsimp only [Option.toList, List.nil_append]
    have o2 : jOld S S9 S.1 := (jOld.new (S := S) (c := 2) (n := 0) (b := S.1) (Int.le_refl _)).trans q3 (Int.le_refl _)
    refine x_aast (c := 15) (k := 2) dX3_init_35 (by decide) rfl rfl (by decide) (by rw [(o2 _ (by omega)).1]; exact f1) q2.1 ⟨by omega, by rw [(o2 _ (by omega)).2.1, f2]; omega⟩ ?_
    refine x_iinc dX3_init_36 rfl (by decide) ?_
    show JX _ _ _ _ _ _ _ _ _ _ _ [_, _] _ _
    refine x_goto (tgt := 14) dX3_init_39 (by decide) ?_
    have ho2 : jOld S0 (jur S9 (b + 1) i (some S.1)) b := (ho.trans o2 (by omega)).trans (jOld.ref (by omega)) (Int.le_refl _)
    have hF2 : jHx (jur S9 (b + 1) i (some S.1)) b ((i + 1 : Nat) : Int) := by
      refine ⟨by show jK S9 b = 3; rw [(o2 b (by omega)).1]; exact f0, by rw [jur_ne (by omega), (o2 b (by omega)).2.2]; exact fr, by show jK S9 (b + 1) = 15; rw [(o2 _ (by omega)).1]; exact f1, by show jL S9 (b + 1) = 5; rw [(o2 _ (by omega)).2.1]; exact f2, fun k x y => ?_⟩
      by_cases q : k = i
      · rw [q, jur_eq, hs]
        exact ⟨rfl, by rw [← hs]; exact q2.ext (fun x p q => ⟨rfl, rfl, fun z => jur_ne (by omega)⟩)⟩
      · rw [jur_ne (by omega), (o2 _ (by omega)).2.2]
        obtain ⟨w1, w2⟩ := g k x (by omega)
        exact ⟨w1, w2.ext (fun x p q => ⟨(o2 x (by omega)).1, (o2 x (by omega)).2.1, fun z => by rw [jur_ne (by omega)]; exact (o2 x (by omega)).2.2 z⟩)⟩
    refine JX.widen (kc2 := (1 + (i + 1) * 41, 5 + (i + 1) * 275)) ⟨?_, ?_⟩ (ih (i + 1) _ _ (by omega) hF2 ?_ ho2 ((hd.trans (jOlD.new (by omega)) (Int.le_refl _)).trans q4 (by omega)))
    · show 1 + i * 41 + 1 + 40 ≤ 1 + (i + 1) * 41; omega
    · show 5 + i * 275 + 9 + 266 ≤ 5 + (i + 1) * 275; omega
    · show S9.1 = b + 2 + 41 * ((i + 1 : Nat) : Int); omega
theorem kX3_init {G : JG} {S : JS} {D : JD} {d : Nat} {b : Int} (hk0 : jK S b = 3) (hs : S.1 = b + 1) : JM G yX3_init cX3_init 2 none (d + 4) (206, 1380) S D [.inr (.inr (some b))] (fun v S2 D2 => v = none ∧ S2.1 = b + 207 ∧ jHs S2 b ∧ jOld S S2 b ∧ jOlD D D2 b ∧ D2 b 1 = 0 ∧ D2 b 2 = 0) := by
  show JX _ _ _ _ _ _ _ _ _ _ _ [_, _] _ _
  refine x_aload_n dX3_init_0 rfl ?_
  refine x_object dX3_init_1 ml_RX3_3 rfl (by omega) (Nat.le_of_ble_eq_true rfl) ?_
  refine x_aload_n dX3_init_4 rfl ?_
  refine x_iconst dX3_init_5 ?_
  refine x_anew (c := 15) dX3_init_6 (by decide) rfl cl_RX3_9 (by decide) (by decide) (by decide) ?_
  refine pf_RX3_11 dX3_init_9 rfl rfl (by show jK (jnw S _ _) b = 3; rw [jnw_Ko (by omega)]; exact hk0) ?_
  generalize hg1 : jur (jnw S 15 5) b 0 (some S.1) = S1
  have st1 : jStp S S1 (b + 1) b 0 15 5 := by rw [← hg1]; exact jStp.mk (by omega) (by omega)
  obtain ⟨n1, k1, l1, r1, o1, u1⟩ := st1
  have hk1 : jK S1 b = 3 := by rw [(o1 b (by omega)).1]; exact hk0
  clear hg1
  refine x_iconst dX3_init_12 ?_
  refine x_istore_n dX3_init_13 (by decide) ?_
  show JX _ _ _ _ _ _ _ _ _ _ _ [_, _] _ _
  exact hist_loop 5 0 S1 _ (by omega) ⟨hk1, r1, k1, l1, fun k x y => by omega⟩ (by omega) (fun x hx => ⟨by rw [(o1 x (by omega)).1], by rw [(o1 x (by omega)).2], fun z => by rw [u1 x z (by omega) (by omega)]⟩) (jOlD.new (by omega))
theorem kX4_init {G : JG} {S : JS} {D : JD} {d : Nat} {b : Int} (hk0 : jK S b = 4) (hs : S.1 = b + 1) : JM G yX4_init cX4_init 1 none (d + 1) (1, 60) S D [.inr (.inr (some b))] (fun v S2 D2 => v = none ∧ S2.1 = b + 2 ∧ jOr S2 b ∧ jOld S S2 b ∧ jOlD D D2 b ∧ D2 b 1 = 0) := by
  show JX _ _ _ _ _ _ _ _ _ _ _ [_] _ _
  refine x_aload_n dX4_init_0 rfl ?_
  refine x_object dX4_init_1 ml_RX4_3 rfl (by omega) (Nat.le_of_ble_eq_true rfl) ?_
  refine x_aload_n dX4_init_4 rfl ?_
  refine x_bipush dX4_init_5 (by decide) ?_
  refine x_newarr (c := 10) dX4_init_7 (by decide) rfl ac_char (by decide) (by decide) (by decide) ?_
  refine pf_RX4_9 dX4_init_9 rfl rfl (by show jK (jnw S _ _) b = 4; rw [jnw_Ko (by omega)]; exact hk0) ?_
  generalize hg1 : jur (jnw S 10 60) b 0 (some S.1) = S1
  have st1 : jStp S S1 (b + 1) b 0 10 60 := by rw [← hg1]; exact jStp.mk (by omega) (by omega)
  obtain ⟨n1, k1, l1, r1, o1, u1⟩ := st1
  have hk1 : jK S1 b = 4 := by rw [(o1 b (by omega)).1]; exact hk0
  clear hg1
  refine x_aload_n dX4_init_12 rfl ?_
  refine x_iconst dX4_init_13 ?_
  refine pf_RX4_15 dX4_init_14 rfl (by assumption) ?_
  refine x_aload_n dX4_init_17 rfl ?_
  refine x_iconst dX4_init_18 ?_
  refine pf_RX4_19 dX4_init_19 rfl (by assumption) ?_
  refine x_aload_n dX4_init_22 rfl ?_
  refine x_iconst dX4_init_23 ?_
  refine pf_RX4_22 dX4_init_24 rfl (by assumption) ?_
  refine x_aload_n dX4_init_27 rfl ?_
  refine x_iconst dX4_init_28 ?_
  refine pf_RX4_25 dX4_init_29 rfl (by assumption) ?_
  refine x_aload_n dX4_init_32 rfl ?_
  refine x_iconst dX4_init_33 ?_
  refine pf_RX4_28 dX4_init_34 rfl (by assumption) ?_
  exact x_return dX4_init_37 rfl ⟨by decide, by decide⟩ ⟨rfl, by omega, ⟨hk1, r1, k1, l1⟩, (fun x hx => ⟨by rw [(o1 x (by omega)).1], by rw [(o1 x (by omega)).2], fun z => by rw [u1 x z (by omega) (by omega)]⟩), fun x z hx => by rw [jup_ne (by omega), jup_ne (by omega), jup_ne (by omega), jup_ne (by omega), jup_ne (by omega)]; exact (jOlD.new (b := b) (by omega)) x z hx, by rw [jup_nk (by omega), jup_nk (by omega), jup_nk (by omega), jup_nk (by omega), jup_eq]⟩
theorem kX7_init {G : JG} {S : JS} {D : JD} {d : Nat} {X : Int} (hk0 : jK S X = 7) (hs : S.1 = X + 1) : JM G yX7_init cX7_init 1 none (d + 5) (251, 1726) S D [.inr (.inr (some X))] (fun v S2 D2 => v = none ∧ S2.1 = X + 252 ∧ jBL S2 X ∧ jOld S S2 X ∧ jOlD D D2 X ∧ jFz D2 (X + 1) ∧ (D2 (X + 42) 1 = 0 ∧ D2 (X + 42) 2 = 0) ∧ D2 (X + 250) 1 = 0 ∧ D2 X 4 = 0 ∧ D2 X 5 = 0 ∧ ∀ i : Int, jR S2 (X + 249) i = none) := by
  show JX _ _ _ _ _ _ _ _ _ _ _ [_] _ _
  refine x_aload_n dX7_init_0 rfl ?_
  refine x_object dX7_init_1 ml_RX7_1 rfl (by omega) (Nat.le_of_ble_eq_true rfl) ?_
  refine x_aload_n dX7_init_4 rfl ?_
  refine x_new (c := 2) dX7_init_5 rfl (by decide) cl_RX7_7 ins_RX2 ini_RX2 (by decide) ?_
  refine x_dup dX7_init_8 (fun _ h => by cases h) ?_
  refine c_RX7_9 dX7_init_9 rfl (kX2_init (b := S.1) (jnw_K (n := 0)) rfl) (Nat.le_of_ble_eq_true rfl) (Nat.le_of_ble_eq_true rfl) (by decide) ?_
  rintro v9 S9 D9 ⟨rfl, q1, q2, q3, q4, q5⟩
  dsimp only [Option.toList, List.nil_append]
  have p1 : jOld S S9 (X + 1) := (jOld.new (S := S) (c := 2) (n := 0) (b := X + 1) (by omega)).trans q3 (by omega)
  have d1 : jOlD D D9 (X + 1) := (jOlD.new (by omega)).trans q4 (by omega)
  rw [hs] at q1 q2 q5
  refine pf_RX7_10 dX7_init_12 rfl rfl (by rw [(p1 X (by omega)).1]; exact hk0) ?_
  generalize hg1 : jur S9 X 0 (some S.1) = T1
  have hkT1 : jK T1 X = 7 := by rw [← hg1]; show jK S9 X = 7; rw [(p1 X (by omega)).1]; exact hk0
  have nT1 : T1.1 = X + 42 := by rw [← hg1]; show S9.1 = _; omega
  have rT1 : jR T1 X 0 = some (X + 1) := by rw [← hg1, jur_eq, hs]
  have fT1 : jFl T1 (X + 1) := by rw [← hg1]; exact q2.ext (fun x p q => ⟨rfl, rfl, fun z => jur_ne (by omega)⟩)
  have oT1 : jOld S T1 X := by rw [← hg1]; exact (p1.trans (jOld.ref (by omega)) (Int.le_refl _) : jOld S _ X) |> fun h => (fun x hx => by have := p1 x (by omega); exact ⟨this.1, this.2.1, fun z => by rw [jur_ne (by omega)]; exact this.2.2 z⟩)
  clear hg1
  refine x_aload_n dX7_init_15 rfl ?_
  refine x_new (c := 3) dX7_init_16 rfl (by decide) cl_RX7_16 ins_RX3 ini_RX3 (by decide) ?_
  refine x_dup dX7_init_19 (fun _ h => by cases h) ?_
  refine c_RX7_18 dX7_init_20 rfl (kX3_init (b := T1.1) (jnw_K (n := 0)) rfl) (Nat.le_of_ble_eq_true rfl) (Nat.le_of_ble_eq_true rfl) (by decide) ?_
  rintro v9 S9 D9 ⟨rfl, w1, w2, w3, w4, w5, w6⟩
  dsimp only [Option.toList, List.nil_append]
  rename_i S8 D8
  have p2 : jOld T1 S8 (X + 42) := (jOld.new (S := T1) (c := 3) (n := 0) (b := X + 42) (by omega)).trans w3 (by omega)
  have d2 : jOlD D9 D8 (X + 42) := (jOlD.new (by omega)).trans w4 (by omega)
  refine pf_RX7_19 dX7_init_23 rfl rfl (by rw [(p2 X (by omega)).1]; exact hkT1) ?_
  refine x_aload_n dX7_init_26 rfl ?_
  refine x_iconst dX7_init_27 ?_
  refine x_anew (c := 15) dX7_init_28 (by decide) rfl cl_RX7_7 (by decide) (by decide) (by decide) ?_
  refine pf_RX7_23 dX7_init_31 rfl rfl (by rw [jnw_Ko (by omega)]; exact hkT2) ?_
  refine x_aload_n dX7_init_34 rfl ?_
  refine x_new (c := 4) dX7_init_35 rfl (by decide) cl_RX7_27 ins_RX4 ini_RX4 (by decide) ?_
  refine x_dup dX7_init_38 (fun _ h => by cases h) ?_
  refine c_RX7_29 dX7_init_39 rfl (kX4_init (b := T3.1) (jnw_K (n := 0)) rfl) (Nat.le_of_ble_eq_true rfl) (Nat.le_of_ble_eq_true rfl) (by decide) ?_
  rintro v9 S9 D9 ⟨rfl, v1, v2, v3, v4, v5⟩
  dsimp only [Option.toList, List.nil_append]
  refine pf_RX7_30 dX7_init_42 rfl rfl (by rw [(p4 X (by omega)).1]; exact hkT3) ?_
  refine x_aload_n dX7_init_45 rfl ?_
  refine x_iconst dX7_init_46 ?_
  refine pf_RX7_34 dX7_init_47 rfl hkT4 ?_
  refine x_aload_n dX7_init_50 rfl ?_
  refine x_iconst dX7_init_51 ?_
  refine pf_RX7_38 dX7_init_52 rfl hkT4 ?_
  exact x_return dX7_init_55 rfl ⟨Nat.le_refl _, Nat.le_refl _⟩ sorry
