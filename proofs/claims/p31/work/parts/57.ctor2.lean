theorem jnd_o {S : JS} {D : JD} {x z : Int} (h : x ≠ S.1) : jnd S D x z = D x z := by show (if x = S.1 then 0 else D x z) = _; rw [if_neg h]
theorem jnd_z {S : JS} {D : JD} {x z : Int} (h : x = S.1) : jnd S D x z = 0 := by show (if x = S.1 then 0 else D x z) = (0 : Int); rw [if_pos h]
/-! CONSTRUCTORS of the history, of the orders, of the class and of the reference; what stands apart stays -/
abbrev jSm (S S2 : JS) (x : Int) : Prop := jK S2 x = jK S x ∧ jL S2 x = jL S x ∧ ∀ z : Int, jR S2 x z = jR S x z
theorem jFl.ext {S S2 : JS} {b : Int} (h : jFl S b) (e : ∀ x : Int, b ≤ x → x < b + 41 → jSm S S2 x) : jFl S2 b :=
  jFi.ag (N := b + 41) (i1 := 5) (i2 := 4) (i3 := 12) h (by omega) (by omega) (by omega) (by omega) (fun x p q => ⟨(e x p q).1, (e x p q).2.1⟩) (fun x z p q _ _ _ => (e x p q).2.2 z) (fun z _ _ => (e _ (by omega) (by omega)).2.2 z) (fun z _ _ => (e _ (by omega) (by omega)).2.2 z) (fun z _ _ => (e _ (by omega) (by omega)).2.2 z)
theorem jHs.ext {S S2 : JS} {b : Int} (h : jHs S b) (e : ∀ x : Int, b ≤ x → x < b + 207 → jSm S S2 x) : jHs S2 b := by
  obtain ⟨a0, a1, a2, a3, a4⟩ := h
  have e0 := e b (by omega) (by omega)
  have e1 := e (b + 1) (by omega) (by omega)
  refine ⟨by rw [e0.1]; exact a0, by rw [e0.2.2]; exact a1, by rw [e1.1]; exact a2, by rw [e1.2.1]; exact a3, fun i x y => ?_⟩
  rw [e1.2.2]
  exact ⟨(a4 i x y).1, (a4 i x y).2.ext (fun z p q => e z (by omega) (by omega))⟩
theorem jBL.ext {S S2 : JS} {X : Int} (h : jBL S X) (e : ∀ x : Int, X ≤ x → x < X + 252 → x ≠ X + 249 → jSm S S2 x) (e1 : jK S2 (X + 249) = jK S (X + 249)) (e2 : jL S2 (X + 249) = jL S (X + 249)) : jBL S2 X := by
  obtain ⟨bk, bf, bh, bs, bo, hF, hH, sk, sl, ok, ot, tk, tl⟩ := h
  have e0 := e X (by omega) (by omega) (by omega)
  have e5 := e (X + 250) (by omega) (by omega) (by omega)
  have e6 := e (X + 251) (by omega) (by omega) (by omega)
  exact ⟨by rw [e0.1]; exact bk, by rw [e0.2.2]; exact bf, by rw [e0.2.2]; exact bh, by rw [e0.2.2]; exact bs, by rw [e0.2.2]; exact bo, hF.ext (fun x p q => e x (by omega) (by omega) (by omega)), hH.ext (fun x p q => e x (by omega) (by omega) (by omega)), by rw [e1]; exact sk, by rw [e2]; exact sl, by rw [e5.1]; exact ok, by rw [e5.2.2]; exact ot, by rw [e6.1]; exact tk, by rw [e6.2.1]; exact tl⟩
def jHx (S : JS) (hh i : Int) : Prop := jK S hh = 3 ∧ jR S hh 0 = some (hh + 1) ∧ jK S (hh + 1) = 15 ∧ jL S (hh + 1) = 5 ∧ ∀ k : Int, 0 ≤ k → k < i → jR S (hh + 1) k = some (hh + 2 + 41 * k) ∧ jFl S (hh + 2 + 41 * k)
theorem hist_loop {G : JG} {S0 : JS} {D0 : JD} {d : Nat} {b : Int} : ∀ (n i : Nat) (S : JS) (D : JD), (i : Int) + n = 5 → jHx S b i → S.1 = b + 2 + 41 * i → jOld S0 S b → jOlD D0 D b → JX G yX3_init cX3_init 2 none (d + 4) (206, 1380) (1 + i * 41, 5 + i * 275) S D 14 [some (.inr (.inr (some b))), some (.inl i)] [] (fun v S2 D2 => v = none ∧ S2.1 = b + 207 ∧ jHs S2 b ∧ jOld S0 S2 b ∧ jOlD D0 D2 b ∧ D2 b 1 = 0 ∧ D2 b 2 = 0) := by
  intro n
  induction n with
  | zero =>
    intro i S D hn hF hs ho hd
    have ei : i = 5 := by omega
    subst ei
    obtain ⟨f0, fr, f1, f2, g⟩ := id hF
    refine x_iload_n dX3_init_14 rfl ?_
    refine x_aload_n dX3_init_15 rfl ?_
    refine gf_RX3_11 dX3_init_16 rfl (by assumption) ?_
    rw [fr]
    refine x_alen (c := 15) dX3_init_19 (by decide) (by assumption) ?_
    rw [f2]
    refine x_ic_ge (tgt := 42) dX3_init_20 (by decide) ⟨by omega, by omega⟩ ⟨by omega, by omega⟩ (fun hb20 => ?_) (fun h => (h (by omega)).elim)
    refine x_aload_n dX3_init_42 rfl ?_
    refine x_iconst dX3_init_43 ?_
    refine pf_RX3_18 dX3_init_44 rfl (by assumption) ?_
    refine x_aload_n dX3_init_47 rfl ?_
    refine x_iconst dX3_init_48 ?_
    refine pf_RX3_22 dX3_init_49 rfl (by assumption) ?_
    exact x_return dX3_init_52 rfl ⟨by show 1 + 5 * 41 ≤ 206; omega, by show 5 + 5 * 275 ≤ 1380; omega⟩ ⟨rfl, by omega, hF, ho, fun x z hx => by rw [jup_ne (by omega), jup_ne (by omega)]; exact hd x z hx, by rw [jup_nk (by omega), jup_eq], jup_eq⟩
  | succ n ih =>
    intro i S D hn hF hs ho hd
    obtain ⟨f0, fr, f1, f2, g⟩ := id hF
    refine x_iload_n dX3_init_14 rfl ?_
    refine x_aload_n dX3_init_15 rfl ?_
    refine gf_RX3_11 dX3_init_16 rfl (by assumption) ?_
    rw [fr]
    refine x_alen (c := 15) dX3_init_19 (by decide) (by assumption) ?_
    rw [f2]
    refine x_ic_ge (tgt := 42) dX3_init_20 (by decide) ⟨by omega, by omega⟩ ⟨by omega, by omega⟩ (fun h => absurd h (by omega)) (fun hb20 => ?_)
    refine x_aload_n dX3_init_23 rfl ?_
    refine gf_RX3_11 dX3_init_24 rfl (by assumption) ?_
    rw [fr]
    refine x_iload_n dX3_init_27 rfl ?_
    refine x_new (c := 2) dX3_init_28 rfl (by decide) cl_RX3_9 ins_RX2 ini_RX2 (by show 1 + i * 41 + 1 ≤ 206 ∧ 5 + i * 275 + 9 ≤ 1380; exact ⟨by omega, by omega⟩) ?_
    refine x_dup dX3_init_31 (fun _ h => by cases h) ?_
    refine c_RX3_17 dX3_init_32 rfl (kX2_init (b := S.1) (jnw_K (n := 0)) rfl) (Nat.le_of_ble_eq_true rfl) (Nat.le_of_ble_eq_true rfl) (by show 1 + i * 41 + 1 + 40 ≤ 206 ∧ 5 + i * 275 + 9 + 266 ≤ 1380; exact ⟨by omega, by omega⟩) ?_
    rintro v9 S9 D9 ⟨rfl, q1, q2, q3, q4, q5⟩
    dsimp only [Option.toList, List.nil_append]
    have o2 : jOld S S9 S.1 := (jOld.new (S := S) (c := 2) (n := 0) (b := S.1) (Int.le_refl _)).trans q3 (Int.le_refl _)
    refine x_aast (c := 15) (k := 2) dX3_init_35 (by decide) rfl rfl (by decide) (by rw [(o2 _ (by omega)).1]; exact f1) q2.1 ⟨by omega, by rw [(o2 _ (by omega)).2.1, f2]; omega⟩ ?_
    refine x_iinc dX3_init_36 rfl (by decide) ?_
    show JX _ _ _ _ _ _ _ _ _ _ _ [_, _] _ _
    refine x_goto (tgt := 14) dX3_init_39 (by decide) ?_
    have ho2 : jOld S0 (jur S9 (b + 1) i (some S.1)) b := (ho.trans o2 (by omega)).trans (jOld.ref (by omega)) (Int.le_refl _)
    have hF2 : jHx (jur S9 (b + 1) i (some S.1)) b ((i + 1 : Nat) : Int) := by
      refine ⟨by show jK S9 b = 3; rw [(o2 b (by omega)).1]; exact f0, by rw [jur_ne (by omega), (o2 b (by omega)).2.2]; exact fr, by show jK S9 (b + 1) = 15; rw [(o2 _ (by omega)).1]; exact f1, by show jL S9 (b + 1) = 5; rw [(o2 _ (by omega)).2.1]; exact f2, fun k x y => ?_⟩
      by_cases q : k = i
      · rw [q, jur_eq, hs]
        exact ⟨rfl, by rw [← hs]; exact q2.ext (fun x p q => ⟨rfl, rfl, fun z => jur_ne (by omega)⟩)⟩
      · rw [jur_ne (by omega), (o2 _ (by omega)).2.2]
        obtain ⟨w1, w2⟩ := g k x (by omega)
        exact ⟨w1, w2.ext (fun x p q => ⟨(o2 x (by omega)).1, (o2 x (by omega)).2.1, fun z => by rw [jur_ne (by omega)]; exact (o2 x (by omega)).2.2 z⟩)⟩
    refine JX.widen (kc2 := (1 + (i + 1) * 41, 5 + (i + 1) * 275)) ⟨?_, ?_⟩ (ih (i + 1) _ _ (by omega) hF2 ?_ ho2 ((hd.trans (jOlD.new (by omega)) (Int.le_refl _)).trans q4 (by omega)))
    · show 1 + i * 41 + 1 + 40 ≤ 1 + (i + 1) * 41; omega
    · show 5 + i * 275 + 9 + 266 ≤ 5 + (i + 1) * 275; omega
    · show S9.1 = b + 2 + 41 * ((i + 1 : Nat) : Int); omega
theorem kX3_init {G : JG} {S : JS} {D : JD} {d : Nat} {b : Int} (hk0 : jK S b = 3) (hs : S.1 = b + 1) : JM G yX3_init cX3_init 2 none (d + 4) (206, 1380) S D [.inr (.inr (some b))] (fun v S2 D2 => v = none ∧ S2.1 = b + 207 ∧ jHs S2 b ∧ jOld S S2 b ∧ jOlD D D2 b ∧ D2 b 1 = 0 ∧ D2 b 2 = 0) := by
  show JX _ _ _ _ _ _ _ _ _ _ _ [_, _] _ _
  refine x_aload_n dX3_init_0 rfl ?_
  refine x_object dX3_init_1 ml_RX3_3 rfl (by omega) (Nat.le_of_ble_eq_true rfl) ?_
  refine x_aload_n dX3_init_4 rfl ?_
  refine x_iconst dX3_init_5 ?_
  refine x_anew (c := 15) dX3_init_6 (by decide) rfl cl_RX3_9 (by decide) (by decide) (by decide) ?_
  refine pf_RX3_11 dX3_init_9 rfl rfl (by show jK (jnw S _ _) b = 3; rw [jnw_Ko (by omega)]; exact hk0) ?_
  generalize hg1 : jur (jnw S 15 5) b 0 (some S.1) = S1
  have st1 : jStp S S1 (b + 1) b 0 15 5 := by rw [← hg1]; exact jStp.mk (by omega) (by omega)
  obtain ⟨n1, k1, l1, r1, o1, u1⟩ := st1
  have hk1 : jK S1 b = 3 := by rw [(o1 b (by omega)).1]; exact hk0
  clear hg1
  refine x_iconst dX3_init_12 ?_
  refine x_istore_n dX3_init_13 (by decide) ?_
  show JX _ _ _ _ _ _ _ _ _ _ _ [_, _] _ _
  exact hist_loop 5 0 S1 _ (by omega) ⟨hk1, r1, k1, l1, fun k x y => by omega⟩ (by omega) (fun x hx => ⟨by rw [(o1 x (by omega)).1], by rw [(o1 x (by omega)).2], fun z => by rw [u1 x z (by omega) (by omega)]⟩) (jOlD.new (by omega))
theorem kX4_init {G : JG} {S : JS} {D : JD} {d : Nat} {b : Int} (hk0 : jK S b = 4) (hs : S.1 = b + 1) : JM G yX4_init cX4_init 1 none (d + 1) (1, 60) S D [.inr (.inr (some b))] (fun v S2 D2 => v = none ∧ S2.1 = b + 2 ∧ jOr S2 b ∧ jOld S S2 b ∧ jOlD D D2 b ∧ D2 b 1 = 0 ∧ ∀ z : Int, D2 (b + 1) z = 0) := by
  show JX _ _ _ _ _ _ _ _ _ _ _ [_] _ _
  refine x_aload_n dX4_init_0 rfl ?_
  refine x_object dX4_init_1 ml_RX4_3 rfl (by omega) (Nat.le_of_ble_eq_true rfl) ?_
  refine x_aload_n dX4_init_4 rfl ?_
  refine x_bipush dX4_init_5 (by decide) ?_
  refine x_newarr (c := 10) dX4_init_7 (by decide) rfl ac_char (by decide) (by decide) (by decide) ?_
  refine pf_RX4_9 dX4_init_9 rfl rfl (by show jK (jnw S _ _) b = 4; rw [jnw_Ko (by omega)]; exact hk0) ?_
  generalize hg1 : jur (jnw S 10 60) b 0 (some S.1) = S1
  have st1 : jStp S S1 (b + 1) b 0 10 60 := by rw [← hg1]; exact jStp.mk (by omega) (by omega)
  obtain ⟨n1, k1, l1, r1, o1, u1⟩ := st1
  have hk1 : jK S1 b = 4 := by rw [(o1 b (by omega)).1]; exact hk0
  clear hg1
  refine x_aload_n dX4_init_12 rfl ?_
  refine x_iconst dX4_init_13 ?_
  refine pf_RX4_15 dX4_init_14 rfl (by assumption) ?_
  refine x_aload_n dX4_init_17 rfl ?_
  refine x_iconst dX4_init_18 ?_
  refine pf_RX4_19 dX4_init_19 rfl (by assumption) ?_
  refine x_aload_n dX4_init_22 rfl ?_
  refine x_iconst dX4_init_23 ?_
  refine pf_RX4_22 dX4_init_24 rfl (by assumption) ?_
  refine x_aload_n dX4_init_27 rfl ?_
  refine x_iconst dX4_init_28 ?_
  refine pf_RX4_25 dX4_init_29 rfl (by assumption) ?_
  refine x_aload_n dX4_init_32 rfl ?_
  refine x_iconst dX4_init_33 ?_
  refine pf_RX4_28 dX4_init_34 rfl (by assumption) ?_
  exact x_return dX4_init_37 rfl ⟨by decide, by decide⟩ ⟨rfl, by omega, ⟨hk1, r1, k1, l1⟩, (fun x hx => ⟨by rw [(o1 x (by omega)).1], by rw [(o1 x (by omega)).2], fun z => by rw [u1 x z (by omega) (by omega)]⟩), fun x z hx => by rw [jup_ne (by omega), jup_ne (by omega), jup_ne (by omega), jup_ne (by omega), jup_ne (by omega)]; exact (jOlD.new (b := b) (by omega)) x z hx, by rw [jup_nk (by omega), jup_nk (by omega), jup_nk (by omega), jup_nk (by omega), jup_eq], fun z => by rw [jup_ne (by omega), jup_ne (by omega), jup_ne (by omega), jup_ne (by omega), jup_ne (by omega), jnd_z (by omega)]⟩
/-- an object that its constructor has made, put into a field -/
def jPu (T S9 T2 : JS) (N X f : Int) : Prop := T2.1 = S9.1 ∧ jR T2 X f = some N ∧ (∀ x : Int, x < N → jK T2 x = jK T x ∧ jL T2 x = jL T x) ∧ (∀ x z : Int, x < N → (x ≠ X ∨ z ≠ f) → jR T2 x z = jR T x z) ∧ (∀ x : Int, N ≤ x → jSm S9 T2 x) ∧ ∀ x : Int, x < N → x ≠ X → jSm T T2 x
theorem jPu.mk {T S9 : JS} {N X f : Int} {k : Nat} (hN : T.1 = N) (hx : X < N) (h : jOld (jnw T k 0) S9 T.1) : jPu T S9 (jur S9 X f (some T.1)) N X f := by
  subst hN
  have h2 : jOld T S9 T.1 := (jOld.new (S := T) (c := k) (n := 0) (b := T.1) (Int.le_refl _)).trans h (Int.le_refl _)
  refine ⟨rfl, jur_eq, fun x hx => ⟨(h2 x hx).1, (h2 x hx).2.1⟩, fun x z hx hz => ?_, fun x hx => ⟨rfl, rfl, fun z => jur_ne (by omega)⟩, fun x hx hn => ⟨(h2 x hx).1, (h2 x hx).2.1, fun z => ?_⟩⟩
  · rw [jur_ne hz]; exact (h2 x hx).2.2 z
  · rw [jur_ne (Or.inl hn)]; exact (h2 x hx).2.2 z
theorem jSm.trans {S S2 S3 : JS} {x : Int} (h : jSm S S2 x) (h2 : jSm S2 S3 x) : jSm S S3 x := ⟨by rw [h2.1, h.1], by rw [h2.2.1, h.2.1], fun z => by rw [h2.2.2, h.2.2]⟩
theorem kX7_init {G : JG} {S : JS} {D : JD} {d : Nat} {X : Int} (hk0 : jK S X = 7) (hs : S.1 = X + 1) : JM G yX7_init cX7_init 1 none (d + 5) (251, 1726) S D [.inr (.inr (some X))] (fun v S2 D2 => v = none ∧ S2.1 = X + 252 ∧ jBL S2 X ∧ jOld S S2 X ∧ jOlD D D2 X ∧ jFz D2 (X + 1) ∧ (D2 (X + 42) 1 = 0 ∧ D2 (X + 42) 2 = 0) ∧ D2 (X + 250) 1 = 0 ∧ D2 X 4 = 0 ∧ D2 X 5 = 0 ∧ (∀ i : Int, jR S2 (X + 249) i = none) ∧ ∀ z : Int, D2 (X + 251) z = 0) := by
  show JX _ _ _ _ _ _ _ _ _ _ _ [_] _ _
  refine x_aload_n dX7_init_0 rfl ?_
  refine x_object dX7_init_1 ml_RX7_1 rfl (by omega) (Nat.le_of_ble_eq_true rfl) ?_
  refine x_aload_n dX7_init_4 rfl ?_
  refine x_new (c := 2) dX7_init_5 rfl (by decide) cl_RX7_7 ins_RX2 ini_RX2 (by decide) ?_
  refine x_dup dX7_init_8 (fun _ h => by cases h) ?_
  refine c_RX7_9 dX7_init_9 rfl (kX2_init (b := S.1) (jnw_K (n := 0)) rfl) (Nat.le_of_ble_eq_true rfl) (Nat.le_of_ble_eq_true rfl) (by decide) ?_
  rintro v9 S9 D9 ⟨rfl, q1, q2, q3, q4, q5⟩
  dsimp only [Option.toList, List.nil_append]
  have d1 : jOlD D D9 (X + 1) := (jOlD.new (b := X + 1) (by omega)).trans q4 (by omega)
  rw [hs] at q1 q2 q5
  refine pf_RX7_10 dX7_init_12 rfl rfl (by rw [(q3 X (by omega)).1, jnw_Ko (by omega)]; exact hk0) ?_
  generalize hg1 : jur S9 X 0 (some S.1) = T1
  have pu1 : jPu S S9 T1 (X + 1) X 0 := by rw [← hg1]; exact jPu.mk (k := 2) hs (by omega) q3
  obtain ⟨n1, r1, o1, u1, h1, m1⟩ := pu1
  clear hg1
  have hk1 : jK T1 X = 7 := by rw [(o1 X (by omega)).1]; exact hk0
  replace n1 : T1.1 = X + 42 := by omega
  have fl1 : jFl T1 (X + 1) := q2.ext (fun x p q => h1 x p)
  have z1 : jFz D9 (X + 1) := q5
  clear q1 q2 q5 h1
  generalize hD1 : D9 = E1 at *
  clear hD1
  refine x_aload_n dX7_init_15 rfl ?_
  refine x_new (c := 3) dX7_init_16 rfl (by decide) cl_RX7_16 ins_RX3 ini_RX3 (by decide) ?_
  refine x_dup dX7_init_19 (fun _ h => by cases h) ?_
  refine c_RX7_18 dX7_init_20 rfl (kX3_init (b := T1.1) (jnw_K (n := 0)) rfl) (Nat.le_of_ble_eq_true rfl) (Nat.le_of_ble_eq_true rfl) (by decide) ?_
  rintro v9 S9 D9 ⟨rfl, w1, w2, w3, w4, w5, w6⟩
  dsimp only [Option.toList, List.nil_append]
  have d2 : jOlD E1 D9 (X + 42) := (jOlD.new (b := X + 42) (by omega)).trans w4 (by omega)
  rw [n1] at w1 w2 w5 w6
  refine pf_RX7_19 dX7_init_23 rfl rfl (by rw [(w3 X (by omega)).1, jnw_Ko (by omega)]; exact hk1) ?_
  generalize hg2 : jur S9 X 1 (some T1.1) = T2
  have pu2 : jPu T1 S9 T2 (X + 42) X 1 := by rw [← hg2]; exact jPu.mk (k := 3) n1 (by omega) w3
  obtain ⟨n2, r2, o2, u2, h2, m2⟩ := pu2
  clear hg2
  have hk2 : jK T2 X = 7 := by rw [(o2 X (by omega)).1]; exact hk1
  replace n2 : T2.1 = X + 249 := by omega
  have hi2 : jHs T2 (X + 42) := w2.ext (fun x p q => h2 x p)
  have fl2 : jFl T2 (X + 1) := fl1.ext (fun x p q => m2 x (by omega) (by omega))
  have y2 : D9 (X + 42) 1 = 0 ∧ D9 (X + 42) 2 = 0 := ⟨w5, w6⟩
  clear w1 w2 w5 w6 h2
  generalize hD2 : D9 = E2 at *
  clear hD2
  refine x_aload_n dX7_init_26 rfl ?_
  refine x_iconst dX7_init_27 ?_
  refine x_anew (c := 15) dX7_init_28 (by decide) rfl cl_RX7_7 (by decide) (by decide) (by decide) ?_
  refine pf_RX7_23 dX7_init_31 rfl rfl (by rw [jnw_Ko (by omega)]; exact hk2) ?_
  generalize hg3 : jur (jnw T2 15 2) X 2 (some T2.1) = T3
  have st3 : jStp T2 T3 (X + 249) X 2 15 2 := by rw [← hg3]; exact jStp.mk n2 (by omega)
  have ne3 : ∀ i : Int, jR T3 (X + 249) i = none := fun i => by rw [← hg3, jur_ne (by omega), ← n2]; exact jnw_R (n := 2) (c := 15)
  obtain ⟨n3, k3, l3, r3, o3, u3⟩ := st3
  clear hg3
  have hk3 : jK T3 X = 7 := by rw [(o3 X (by omega)).1]; exact hk2
  have m3 : ∀ x : Int, x < X + 249 → x ≠ X → jSm T2 T3 x := fun x p q => ⟨(o3 x p).1, (o3 x p).2, fun z => u3 x z p (Or.inl q)⟩
  replace n3 : T3.1 = X + 250 := by omega
  refine x_aload_n dX7_init_34 rfl ?_
  refine x_new (c := 4) dX7_init_35 rfl (by decide) cl_RX7_27 ins_RX4 ini_RX4 (by decide) ?_
  refine x_dup dX7_init_38 (fun _ h => by cases h) ?_
  refine c_RX7_29 dX7_init_39 rfl (kX4_init (b := T3.1) (jnw_K (n := 0)) rfl) (Nat.le_of_ble_eq_true rfl) (Nat.le_of_ble_eq_true rfl) (by decide) ?_
  rintro v9 S9 D9 ⟨rfl, v1, v2, v3, v4, v5, v6⟩
  dsimp only [Option.toList, List.nil_append]
  have d3 : jOlD E2 D9 (X + 249) := ((jOlD.new (b := X + 249) (by omega)).trans (jOlD.new (b := X + 249) (by omega)) (by omega)).trans v4 (by omega)
  rw [n3] at v1 v2 v5 v6
  refine pf_RX7_30 dX7_init_42 rfl rfl (by rw [(v3 X (by omega)).1, jnw_Ko (by omega)]; exact hk3) ?_
  generalize hg4 : jur S9 X 3 (some T3.1) = T4
  have pu4 : jPu T3 S9 T4 (X + 250) X 3 := by rw [← hg4]; exact jPu.mk (k := 4) n3 (by omega) v3
  obtain ⟨n4, r4, o4, u4, h4, m4⟩ := pu4
  clear hg4
  have hk4 : jK T4 X = 7 := by rw [(o4 X (by omega)).1]; exact hk3
  replace n4 : T4.1 = X + 252 := by omega
  have or4 : jOr T4 (X + 250) := by
    obtain ⟨g1, g2, g3, g4⟩ := v2
    exact ⟨by rw [(h4 _ (by omega)).1]; exact g1, by rw [(h4 _ (by omega)).2.2]; exact g2, by rw [(h4 _ (by omega)).1]; exact g3, by rw [(h4 _ (by omega)).2.1]; exact g4⟩
  have hB : jBL T4 X := by
    obtain ⟨g1, g2, g3, g4⟩ := or4
    refine ⟨hk4, by rw [u4 X 0 (by omega) (by omega), u3 X 0 (by omega) (by omega), u2 X 0 (by omega) (by omega)]; exact r1, by rw [u4 X 1 (by omega) (by omega), u3 X 1 (by omega) (by omega)]; exact r2, by rw [u4 X 2 (by omega) (by omega)]; exact r3, r4,
      fl2.ext (fun x p q => (m3 x (by omega) (by omega)).trans (m4 x (by omega) (by omega))), hi2.ext (fun x p q => (m3 x (by omega) (by omega)).trans (m4 x (by omega) (by omega))), by rw [(o4 _ (by omega)).1]; exact k3, by rw [(o4 _ (by omega)).2]; exact l3, g1, by rw [g2]; congr 1; omega, by rw [show X + 251 = X + 250 + 1 by omega]; exact g3, by rw [show X + 251 = X + 250 + 1 by omega]; exact g4⟩
  have hO : jOld S T4 X := fun x hx => by
    have e1 := m1 x (by omega) (by omega)
    have e2 := m2 x (by omega) (by omega)
    have e3 := m3 x (by omega) (by omega)
    have e4 := m4 x (by omega) (by omega)
    exact ((e1.trans e2).trans e3).trans e4
  refine x_aload_n dX7_init_45 rfl ?_
  refine x_iconst dX7_init_46 ?_
  refine pf_RX7_34 dX7_init_47 rfl hk4 ?_
  refine x_aload_n dX7_init_50 rfl ?_
  refine x_iconst dX7_init_51 ?_
  refine pf_RX7_38 dX7_init_52 rfl (Or.inl rfl) hk4 ?_
  exact x_return dX7_init_55 rfl ⟨by decide, by decide⟩ ⟨rfl, n4, hB, hO, fun x z hx => by rw [jup_ne (by omega), jup_ne (by omega), d3 x z (by omega), d2 x z (by omega), d1 x z (by omega)], by
      obtain ⟨a3, a4, a5, a6, a7, a8⟩ := z1
      have e : ∀ k : Int, jup (jup D9 X 4 0) X 5 0 (X + 1) k = E1 (X + 1) k := fun k => by rw [jup_ne (by omega), jup_ne (by omega), d3 _ k (by omega), d2 _ k (by omega)]
      unfold jFz
      rw [e, e, e, e, e, e]
      exact ⟨a3, a4, a5, a6, a7, a8⟩, ⟨by rw [jup_ne (by omega), jup_ne (by omega), d3 _ _ (by omega)]; exact y2.1, by rw [jup_ne (by omega), jup_ne (by omega), d3 _ _ (by omega)]; exact y2.2⟩, by rw [jup_ne (by omega), jup_ne (by omega)]; exact v5, by rw [jup_nk (by omega), jup_eq], jup_eq, fun i => by rw [u4 _ i (by omega) (by omega)]; exact ne3 i, fun z => by rw [jup_ne (by omega), jup_ne (by omega), show X + 251 = X + 250 + 1 by omega]; exact v6 z⟩
/-- keep: the flight f of the slot i holds the row -/
def jKe (S : JS) (D : JD) (X t cz n : Int) (hs : Int → Int → Int) (r : Int → Int) (q i f : Int) (v : Option JV) (S2 : JS) (D2 : JD) : Prop :=
  v = some (.inl (r 2)) ∧ jSt D2 X t cz n hs r q ∧ jFl S2 f ∧ jFR D2 f r ∧ jR S2 (X + 249) i = some f ∧ (∀ j : Int, j ≠ i → jR S2 (X + 249) j = jR S (X + 249) j) ∧ (∀ x : Int, x < S.1 → x ≠ X + 249 → jSm S S2 x) ∧ (jK S2 (X + 249) = jK S (X + 249) ∧ jL S2 (X + 249) = jL S (X + 249)) ∧ (∀ x k : Int, x < S.1 → x < f ∨ f + 41 ≤ x → D2 x k = D x k) ∧ S.1 ≤ S2.1 ∧ f + 41 ≤ S2.1
theorem kX7_keep_u {G : JG} {S : JS} {D : JD} {d : Nat} {X t cz n q : Int} {hs : Int → Int → Int} {r : Int → Int} {i : Int} (hB : jBL S X) (hst : jSt D X t cz n hs r q) (ht : t ≤ 60000) (ri : i32 i) (hi0 : ¬ (i = 0 ∨ i = 1)) : JM G yX7_keep cX7_keep 3 (some .int) (d + 4) (41, 275) S D [.inr (.inr (some X)), .inl i] (jr (.inl (-100000001)) S D) := by
  have hB0 := hB
  obtain ⟨bk, bf, bh, bs, bo, hF, hH, sk, sl, ok, ot, tk, tl⟩ := id hB
  have fk := hF.1
  have hhk := hH.1
  obtain ⟨s5, s4, hR, hI, hi⟩ := id hst
  have hc := hR.ct hI
  have b1 := hI.1
  show JX _ _ _ _ _ _ _ _ _ _ _ [_, _, _] _ _
  refine x_iload_n dX7_keep_0 rfl ?_
  refine x_if_lt (tgt := 13) dX7_keep_1 (by decide) ⟨by omega, by omega⟩ (fun hb1 => ?_) (fun hb1 => ?_)
  · refine x_ldc (e := -100000001) dX7_keep_13 ct_RX7_78 (by decide) ?_
    exact x_ireturn dX7_keep_15 rfl rfl ⟨by decide, by decide⟩ ⟨rfl, rfl, rfl⟩
  · refine x_iload_n dX7_keep_4 rfl ?_
    refine x_aload_n dX7_keep_5 rfl ?_
    refine gf_RX7_23 dX7_keep_6 rfl (by assumption) ?_
    rw [bs]
    refine x_alen (c := 15) dX7_keep_9 (by decide) (by assumption) ?_
    refine x_ic_lt (tgt := 16) dX7_keep_10 (by decide) ⟨by omega, by omega⟩ ⟨by omega, by omega⟩ (fun h => absurd h (by omega)) (fun hb10 => ?_)
    refine x_ldc (e := -100000001) dX7_keep_13 ct_RX7_78 (by decide) ?_
    exact x_ireturn dX7_keep_15 rfl rfl ⟨by decide, by decide⟩ ⟨rfl, rfl, rfl⟩
theorem kX7_keep_o {G : JG} {S : JS} {D : JD} {d : Nat} {X t cz n q : Int} {hs : Int → Int → Int} {r : Int → Int} {i f : Int} (hB : jBL S X) (hst : jSt D X t cz n hs r q) (ht : t ≤ 60000) (hi0 : i = 0 ∨ i = 1) (hs0 : jR S (X + 249) i = some f) (hFf : jFl S f) (hdf : X + 252 ≤ f) (hN : f + 41 ≤ S.1) : JM G yX7_keep cX7_keep 3 (some .int) (d + 4) (41, 275) S D [.inr (.inr (some X)), .inl i] (jKe S D X t cz n hs r q i f) := by
  have hB0 := hB
  obtain ⟨bk, bf, bh, bs, bo, hF, hH, sk, sl, ok, ot, tk, tl⟩ := id hB
  have fk := hF.1
  have hhk := hH.1
  obtain ⟨s5, s4, hR, hI, hi⟩ := id hst
  have hc := hR.ct hI
  have b1 := hI.1
  have ffk := hFf.1
  show JX _ _ _ _ _ _ _ _ _ _ _ [_, _, _] _ _
  refine x_iload_n dX7_keep_0 rfl ?_
  refine x_if_lt (tgt := 13) dX7_keep_1 (by decide) ⟨by omega, by omega⟩ (fun h => absurd h (by omega)) (fun hb1 => ?_)
  refine x_iload_n dX7_keep_4 rfl ?_
  refine x_aload_n dX7_keep_5 rfl ?_
  refine gf_RX7_23 dX7_keep_6 rfl (by assumption) ?_
  rw [bs]
  refine x_alen (c := 15) dX7_keep_9 (by decide) (by assumption) ?_
  refine x_ic_lt (tgt := 16) dX7_keep_10 (by decide) ⟨by omega, by omega⟩ ⟨by omega, by omega⟩ (fun hb10 => ?_) (fun h => (h (by omega)).elim)
  refine x_aload_n dX7_keep_16 rfl ?_
  refine gf_RX7_23 dX7_keep_17 rfl (by assumption) ?_
  rw [bs]
  refine x_iload_n dX7_keep_20 rfl ?_
  refine x_aald (c := 15) dX7_keep_21 (by decide) rfl (by assumption) ⟨by omega, by omega⟩ ?_
  rw [hs0]
  refine x_astore_n dX7_keep_22 (by decide) ?_
  show JX _ _ _ _ _ _ _ _ _ _ _ [_, _, _] _ _
  refine x_aload_n dX7_keep_23 rfl ?_
  refine x_ifnonnull (tgt := 42) dX7_keep_24 (by decide) (fun hb24 => ?_) (fun h => by cases h)
  refine x_aload_n dX7_keep_42 rfl ?_
  refine gf_RX7_10 dX7_keep_43 rfl (by assumption) ?_
  rw [bf]
  refine x_aload_n dX7_keep_46 rfl ?_
  refine c_RX7_252p dX7_keep_47 rfl (kX2_copyTo hF hFf (by omega)) (by assumption) (Nat.le_of_ble_eq_true rfl) (Nat.le_of_ble_eq_true rfl) (by decide) (fun D9 h9 => ?_)
  obtain ⟨cp, fr⟩ := h9
  refine x_aload_n dX7_keep_50 rfl ?_
  refine gf_RX7_10 dX7_keep_51 rfl (by assumption) ?_
  rw [bf]
  refine gf_RX7_116 dX7_keep_54 rfl (by assumption) ?_
  rw [fr _ _ (by omega), hR.1.2.2.1]
  exact x_ireturn dX7_keep_57 rfl rfl ⟨by decide, by decide⟩ ⟨rfl, ⟨by rw [fr X 5 (by omega)]; exact s5, by rw [fr X 4 (by omega)]; exact s4, hR.frame hI (fun x k p q => fr x k (by omega)), hI, hi.frame (fun x k p q => fr x k (by omega))⟩, hFf, hR.copy hI cp, hs0, fun _ _ => rfl, fun x _ _ => ⟨rfl, rfl, fun _ => rfl⟩, ⟨rfl, rfl⟩, fun x k _ hx => fr x k hx, Int.le_refl _, hN⟩
theorem kX7_keep_n {G : JG} {S : JS} {D : JD} {d : Nat} {X t cz n q : Int} {hs : Int → Int → Int} {r : Int → Int} {i f : Int} (hB : jBL S X) (hst : jSt D X t cz n hs r q) (ht : t ≤ 60000) (hi0 : i = 0 ∨ i = 1) (hs0 : jR S (X + 249) i = none) (hf : S.1 = f) (hdf : X + 252 ≤ f) : JM G yX7_keep cX7_keep 3 (some .int) (d + 4) (41, 275) S D [.inr (.inr (some X)), .inl i] (jKe S D X t cz n hs r q i f) := by
  have hB0 := hB
  obtain ⟨bk, bf, bh, bs, bo, hF, hH, sk, sl, ok, ot, tk, tl⟩ := id hB
  have fk := hF.1
  have hhk := hH.1
  obtain ⟨s5, s4, hR, hI, hi⟩ := id hst
  have hc := hR.ct hI
  have b1 := hI.1
  show JX _ _ _ _ _ _ _ _ _ _ _ [_, _, _] _ _
  refine x_iload_n dX7_keep_0 rfl ?_
  refine x_if_lt (tgt := 13) dX7_keep_1 (by decide) ⟨by omega, by omega⟩ (fun h => absurd h (by omega)) (fun hb1 => ?_)
  refine x_iload_n dX7_keep_4 rfl ?_
  refine x_aload_n dX7_keep_5 rfl ?_
  refine gf_RX7_23 dX7_keep_6 rfl (by assumption) ?_
  rw [bs]
  refine x_alen (c := 15) dX7_keep_9 (by decide) (by assumption) ?_
  refine x_ic_lt (tgt := 16) dX7_keep_10 (by decide) ⟨by omega, by omega⟩ ⟨by omega, by omega⟩ (fun hb10 => ?_) (fun h => (h (by omega)).elim)
  refine x_aload_n dX7_keep_16 rfl ?_
  refine gf_RX7_23 dX7_keep_17 rfl (by assumption) ?_
  rw [bs]
  refine x_iload_n dX7_keep_20 rfl ?_
  refine x_aald (c := 15) dX7_keep_21 (by decide) rfl (by assumption) ⟨by omega, by omega⟩ ?_
  rw [hs0]
  refine x_astore_n dX7_keep_22 (by decide) ?_
  show JX _ _ _ _ _ _ _ _ _ _ _ [_, _, _] _ _
  refine x_aload_n dX7_keep_23 rfl ?_
  refine x_ifnonnull (tgt := 42) dX7_keep_24 (by decide) (fun h => absurd rfl h) (fun hb24 => ?_)
  refine x_new (c := 2) dX7_keep_27 rfl (by decide) cl_RX7_7 ins_RX2 ini_RX2 (by decide) ?_
  refine x_dup dX7_keep_30 (fun _ h => by cases h) ?_
  refine c_RX7_9 dX7_keep_31 rfl (kX2_init (b := S.1) (jnw_K (n := 0)) rfl) (Nat.le_of_ble_eq_true rfl) (Nat.le_of_ble_eq_true rfl) (by decide) ?_
  rintro v9 S9 D9 ⟨rfl, q1, q2, q3, q4, q5⟩
  dsimp only [Option.toList, List.nil_append]
  rw [hf] at q1 q2
  have o2 : jOld S S9 f := by rw [← hf]; exact (jOld.new (S := S) (c := 2) (n := 0) (b := S.1) (Int.le_refl _)).trans q3 (Int.le_refl _)
  have dd : jOlD D D9 f := by rw [← hf]; exact (jOlD.new (Int.le_refl _)).trans q4 (Int.le_refl _)
  refine x_astore_n dX7_keep_34 (by decide) ?_
  show JX _ _ _ _ _ _ _ _ _ _ _ [_, _, _] _ _
  refine x_aload_n dX7_keep_35 rfl ?_
  refine gf_RX7_23 dX7_keep_36 rfl (by rw [(o2 X (by omega)).1]; exact bk) ?_
  rw [(show jR S9 X 2 = some (X + 249) by rw [(o2 X (by omega)).2.2]; exact bs)]
  refine x_iload_n dX7_keep_39 rfl ?_
  refine x_aload_n dX7_keep_40 rfl ?_
  refine x_aast (c := 15) (k := 2) dX7_keep_41 (by decide) rfl rfl (by decide) (by rw [(o2 _ (by omega)).1]; exact sk) (by rw [hf]; exact q2.1) ⟨by omega, by rw [(o2 _ (by omega)).2.1, sl]; omega⟩ ?_
  rw [hf]
  generalize hg : jur S9 (X + 249) i (some f) = T
  have sm : ∀ x : Int, x < f → x ≠ X + 249 → jSm S T x := fun x p q => by rw [← hg]; exact ⟨(o2 x p).1, (o2 x p).2.1, fun z => by rw [jur_ne (Or.inl q)]; exact (o2 x p).2.2 z⟩
  have fl2 : jFl T f := by rw [← hg]; exact q2.ext (fun x p q => ⟨rfl, rfl, fun z => jur_ne (by omega)⟩)
  have hB2 : jBL T X := hB0.ext (fun x p q w => sm x (by omega) w) (by rw [← hg]; exact (o2 _ (by omega)).1) (by rw [← hg]; exact (o2 _ (by omega)).2.1)
  obtain ⟨ck, cf, ch, cs, co, hF2, hH2, -⟩ := id hB2
  have fk2 := hF2.1
  have r1 : jR T (X + 249) i = some f := by rw [← hg, jur_eq]
  have r2 : ∀ j : Int, j ≠ i → jR T (X + 249) j = jR S (X + 249) j := fun j hj => by rw [← hg, jur_ne (Or.inr hj)]; exact (o2 _ (by omega)).2.2 j
  have r3 : jK T (X + 249) = jK S (X + 249) ∧ jL T (X + 249) = jL S (X + 249) := by rw [← hg]; exact ⟨(o2 _ (by omega)).1, (o2 _ (by omega)).2.1⟩
  have nT : T.1 = f + 41 := by rw [← hg]; exact q1
  clear hg
  have hRd := hR.frame hI (D2 := D9) (fun x k p q => dd x k (by omega))
  refine x_aload_n dX7_keep_42 rfl ?_
  refine gf_RX7_10 dX7_keep_43 rfl ck ?_
  rw [cf]
  refine x_aload_n dX7_keep_46 rfl ?_
  refine c_RX7_252p dX7_keep_47 rfl (kX2_copyTo hF2 fl2 (by omega)) fk2 (Nat.le_of_ble_eq_true rfl) (Nat.le_of_ble_eq_true rfl) (by decide) (fun D8 h8 => ?_)
  obtain ⟨cp, fr⟩ := h8
  have e5 : D8 (X + 1) 5 = r 2 := by rw [fr _ _ (by omega), dd _ _ (by omega), hR.1.2.2.1]
  refine x_aload_n dX7_keep_50 rfl ?_
  refine gf_RX7_10 dX7_keep_51 rfl ck ?_
  rw [cf]
  refine gf_RX7_116 dX7_keep_54 rfl fk2 ?_
  rw [e5]
  exact x_ireturn dX7_keep_57 rfl rfl ⟨by decide, by decide⟩ ⟨rfl, ⟨by rw [fr X 5 (by omega), dd _ _ (by omega)]; exact s5, by rw [fr X 4 (by omega), dd _ _ (by omega)]; exact s4, hRd.frame hI (fun x k p q => fr x k (by omega)), hI, hi.frame (fun x k p q => by rw [fr x k (by omega), dd _ _ (by omega)])⟩, fl2, hRd.copy hI cp, r1, r2, fun x p q => sm x (by omega) q, r3, fun x k p hx => by rw [fr x k hx, dd x k (by omega)], by omega, by omega⟩
