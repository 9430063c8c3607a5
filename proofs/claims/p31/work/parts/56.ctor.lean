/-! CONSTRUCTORS -/
theorem JX.widen {G : JG} {y : MethodName} {cc : ByteArray} {nL : Nat} {rt : Option FieldType} {d : Nat} {kb kc kc2 : Nat × Nat} {S : JS} {D : JD} {pc : Nat} {ls : List (Option JV)} {st : List JV} {Q : Option JV → JS → JD → Prop}
    (h : kc.1 ≤ kc2.1 ∧ kc.2 ≤ kc2.2) (K : JX G y cc nL rt d kb kc2 S D pc ls st Q) : JX G y cc nL rt d kb kc S D pc ls st Q := by
  intro p l e R s m args below meth c H locs A QM C a1 a2 a3 a4 hS hl hA hK
  exact W.widen h.1 h.2 (K p l e R s m args below meth c H locs A QM C a1 a2 a3 a4 hS hl hA hK)
/-- below b all is as it was -/
def jOld (S S2 : JS) (b : Int) : Prop := ∀ x : Int, x < b → jK S2 x = jK S x ∧ jL S2 x = jL S x ∧ ∀ z : Int, jR S2 x z = jR S x z
def jOlD (D D2 : JD) (b : Int) : Prop := ∀ x z : Int, x < b → D2 x z = D x z
theorem jOld.refl {S : JS} {b : Int} : jOld S S b := fun _ _ => ⟨rfl, rfl, fun _ => rfl⟩
theorem jOld.trans {S S2 S3 : JS} {b c : Int} (h : jOld S S2 b) (h2 : jOld S2 S3 c) (hb : b ≤ c) : jOld S S3 b := fun x hx => by
  obtain ⟨a1, a2, a3⟩ := h x hx
  obtain ⟨b1, b2, b3⟩ := h2 x (by omega)
  exact ⟨by rw [b1, a1], by rw [b2, a2], fun z => by rw [b3, a3]⟩
theorem jOlD.trans {D D2 D3 : JD} {b c : Int} (h : jOlD D D2 b) (h2 : jOlD D2 D3 c) (hb : b ≤ c) : jOlD D D3 b := fun x z hx => by rw [h2 x z (by omega), h x z hx]
theorem jOld.new {S : JS} {c : Nat} {n b : Int} (h : b ≤ S.1) : jOld S (jnw S c n) b := fun x hx => by
  refine ⟨?_, ?_, fun z => ?_⟩
  · show (if x = S.1 then c else S.2.1 x) = _; rw [if_neg (by omega)]
  · show (if x = S.1 then n else S.2.2.1 x) = _; rw [if_neg (by omega)]
  · show (if x = S.1 then none else S.2.2.2 x z) = _; rw [if_neg (by omega)]
theorem jOld.ref {S : JS} {a k b : Int} {r : Option Int} (h : b ≤ a) : jOld S (jur S a k r) b := fun x hx => by
  refine ⟨rfl, rfl, fun z => ?_⟩
  show (if x = a ∧ z = k then r else S.2.2.2 x z) = _
  rw [if_neg (by omega)]
theorem jOlD.new {S : JS} {D : JD} {b : Int} (h : b ≤ S.1) : jOlD D (jnd S D) b := fun x z hx => by
  show (if x = S.1 then 0 else D x z) = _
  rw [if_neg (by omega)]
theorem jOlD.up {D : JD} {a k v b : Int} (h : b ≤ a) : jOlD D (jup D a k v) b := fun x z hx => jup_ne (by omega)
theorem jnw_K {S : JS} {c : Nat} {n : Int} : jK (jnw S c n) S.1 = c := by show (if S.1 = S.1 then c else _) = c; rw [if_pos rfl]
theorem jnw_L {S : JS} {c : Nat} {n : Int} : jL (jnw S c n) S.1 = n := by show (if S.1 = S.1 then n else _) = n; rw [if_pos rfl]
theorem jnw_R {S : JS} {c : Nat} {n z : Int} : jR (jnw S c n) S.1 z = none := by show (if S.1 = S.1 then none else _) = none; rw [if_pos rfl]
theorem jnd_n {S : JS} {D : JD} {z : Int} : jnd S D S.1 z = 0 := by show (if S.1 = S.1 then 0 else _) = (0 : Int); rw [if_pos rfl]
theorem jur_eq {S : JS} {a k : Int} {r : Option Int} : jR (jur S a k r) a k = r := by show (if a = a ∧ k = k then r else _) = r; rw [if_pos ⟨rfl, rfl⟩]
theorem jur_ne {S : JS} {a k x z : Int} {r : Option Int} (h : x ≠ a ∨ z ≠ k) : jR (jur S a k r) x z = jR S x z := by
  show (if x = a ∧ z = k then r else S.2.2.2 x z) = _
  rw [if_neg]
  rintro ⟨h1, h2⟩
  rcases h with h | h
  · exact h h1
  · exact h h2
theorem jnw_Ko {S : JS} {c : Nat} {n x : Int} (h : x ≠ S.1) : jK (jnw S c n) x = jK S x := by show (if x = S.1 then c else S.2.1 x) = _; rw [if_neg h]
theorem jnw_Lo {S : JS} {c : Nat} {n x : Int} (h : x ≠ S.1) : jL (jnw S c n) x = jL S x := by show (if x = S.1 then n else S.2.2.1 x) = _; rw [if_neg h]
theorem jnw_Ro {S : JS} {c : Nat} {n x z : Int} (h : x ≠ S.1) : jR (jnw S c n) x z = jR S x z := by show (if x = S.1 then none else S.2.2.2 x z) = _; rw [if_neg h]
/-- a new cell, put into a field -/
def jStp (S S1 : JS) (N a z : Int) (k : Nat) (n : Int) : Prop := S1.1 = N + 1 ∧ jK S1 N = k ∧ jL S1 N = n ∧ jR S1 a z = some N ∧ (∀ x : Int, x < N → jK S1 x = jK S x ∧ jL S1 x = jL S x) ∧ ∀ x w : Int, x < N → (x ≠ a ∨ w ≠ z) → jR S1 x w = jR S x w
theorem jStp.mk {S : JS} {N a z : Int} {k : Nat} {n : Int} (hN : S.1 = N) (ha : a < N) : jStp S (jur (jnw S k n) a z (some S.1)) N a z k n := by
  subst hN
  refine ⟨rfl, jnw_K (n := n), jnw_L (c := k), jur_eq, fun x hx => ⟨jnw_Ko (n := n) (by omega), jnw_Lo (c := k) (by omega)⟩, fun x w hx h => ?_⟩
  rw [jur_ne h]
  exact jnw_Ro (by omega)
theorem kX6_init {G : JG} {S : JS} {D : JD} {d : Nat} {w : Int}  : JM G yX6_init cX6_init 1 none (d + 1) (0, 0) S D [.inr (.inr (some w))] (jn S D) := by
  show JX _ _ _ _ _ _ _ _ _ _ _ [_] _ _
  refine x_aload_n dX6_init_0 rfl ?_
  refine x_object dX6_init_1 ml_RX6_3 rfl (by omega) (Nat.le_of_ble_eq_true rfl) ?_
  exact x_return dX6_init_4 rfl ⟨Nat.le_refl _, Nat.le_refl _⟩ ⟨rfl, rfl, rfl⟩
theorem kX5_init {G : JG} {S : JS} {D : JD} {d : Nat} {w : Int}  : JM G yX5_init cX5_init 1 none (d + 1) (0, 0) S D [.inr (.inr (some w))] (jn S D) := by
  show JX _ _ _ _ _ _ _ _ _ _ _ [_] _ _
  refine x_aload_n dX5_init_0 rfl ?_
  refine x_object dX5_init_1 ml_RX5_3 rfl (by omega) (Nat.le_of_ble_eq_true rfl) ?_
  exact x_return dX5_init_4 rfl ⟨Nat.le_refl _, Nat.le_refl _⟩ ⟨rfl, rfl, rfl⟩
theorem kX0_init {G : JG} {S : JS} {D : JD} {d : Nat} {w : Int}  : JM G yX0_init cX0_init 1 none (d + 1) (0, 0) S D [.inr (.inr (some w))] (jn S D) := by
  show JX _ _ _ _ _ _ _ _ _ _ _ [_] _ _
  refine x_aload_n dX0_init_0 rfl ?_
  refine x_object dX0_init_1 ml_RX0_3 rfl (by omega) (Nat.le_of_ble_eq_true rfl) ?_
  exact x_return dX0_init_4 rfl ⟨Nat.le_refl _, Nat.le_refl _⟩ ⟨rfl, rfl, rfl⟩
theorem kX1_init {G : JG} {S : JS} {D : JD} {d : Nat} {c : Int} (hk0 : jK S c = 1) (hs : S.1 = c + 1) : JM G yX1_init cX1_init 1 none (d + 2) (4, 23) S D [.inr (.inr (some c))] (fun v S2 D2 => v = none ∧ S2.1 = c + 5 ∧ jCh S2 c ∧ jOld S S2 c ∧ jOlD D D2 c) := by
  show JX _ _ _ _ _ _ _ _ _ _ _ [_] _ _
  refine x_aload_n dX1_init_0 rfl ?_
  refine x_object dX1_init_1 ml_RX1_3 rfl (by omega) (Nat.le_of_ble_eq_true rfl) ?_
  refine x_aload_n dX1_init_4 rfl ?_
  refine x_new (c := 6) dX1_init_5 rfl (by decide) cl_RX1_9 ins_RX6 ini_RX6 (by decide) ?_
  refine x_dup dX1_init_8 (fun _ h => by cases h) ?_
  refine n_RX1_11d dX1_init_9 rfl (kX6_init) (Nat.le_of_ble_eq_true rfl) (Nat.le_of_ble_eq_true rfl) (by decide) ?_
  refine pf_RX1_12 dX1_init_12 rfl rfl (by show jK (jnw S _ _) c = 1; rw [jnw_Ko (by omega)]; exact hk0) ?_
  generalize hg1 : jur (jnw S 6 0) c 0 (some S.1) = S1
  have st1 : jStp S S1 (c + 1) c 0 6 0 := by rw [← hg1]; exact jStp.mk (by omega) (by omega)
  obtain ⟨n1, k1, l1, r1, o1, u1⟩ := st1
  have hk1 : jK S1 c = 1 := by rw [(o1 c (by omega)).1]; exact hk0
  clear hg1
  refine x_aload_n dX1_init_15 rfl ?_
  refine x_new (c := 5) dX1_init_16 rfl (by decide) cl_RX1_18 ins_RX5 ini_RX5 (by decide) ?_
  refine x_dup dX1_init_19 (fun _ h => by cases h) ?_
  refine n_RX1_20d dX1_init_20 rfl (kX5_init) (Nat.le_of_ble_eq_true rfl) (Nat.le_of_ble_eq_true rfl) (by decide) ?_
  refine pf_RX1_21 dX1_init_23 rfl rfl (by show jK (jnw S1 _ _) c = 1; rw [jnw_Ko (by omega)]; exact hk1) ?_
  generalize hg2 : jur (jnw S1 5 0) c 1 (some S1.1) = S2
  have st2 : jStp S1 S2 (c + 2) c 1 5 0 := by rw [← hg2]; exact jStp.mk (by omega) (by omega)
  obtain ⟨n2, k2, l2, r2, o2, u2⟩ := st2
  have hk2 : jK S2 c = 1 := by rw [(o2 c (by omega)).1]; exact hk1
  clear hg2
  refine x_aload_n dX1_init_26 rfl ?_
  refine x_new (c := 5) dX1_init_27 rfl (by decide) cl_RX1_18 ins_RX5 ini_RX5 (by decide) ?_
  refine x_dup dX1_init_30 (fun _ h => by cases h) ?_
  refine n_RX1_20d dX1_init_31 rfl (kX5_init) (Nat.le_of_ble_eq_true rfl) (Nat.le_of_ble_eq_true rfl) (by decide) ?_
  refine pf_RX1_25 dX1_init_34 rfl rfl (by show jK (jnw S2 _ _) c = 1; rw [jnw_Ko (by omega)]; exact hk2) ?_
  generalize hg3 : jur (jnw S2 5 0) c 2 (some S2.1) = S3
  have st3 : jStp S2 S3 (c + 3) c 2 5 0 := by rw [← hg3]; exact jStp.mk (by omega) (by omega)
  obtain ⟨n3, k3, l3, r3, o3, u3⟩ := st3
  have hk3 : jK S3 c = 1 := by rw [(o3 c (by omega)).1]; exact hk2
  clear hg3
  refine x_aload_n dX1_init_37 rfl ?_
  refine x_bipush dX1_init_38 (by decide) ?_
  refine x_newarr (c := 9) dX1_init_40 (by decide) rfl ac_int (by decide) (by decide) (by decide) ?_
  refine pf_RX1_28 dX1_init_42 rfl rfl (by show jK (jnw S3 _ _) c = 1; rw [jnw_Ko (by omega)]; exact hk3) ?_
  generalize hg4 : jur (jnw S3 9 12) c 3 (some S3.1) = S4
  have st4 : jStp S3 S4 (c + 4) c 3 9 12 := by rw [← hg4]; exact jStp.mk (by omega) (by omega)
  obtain ⟨n4, k4, l4, r4, o4, u4⟩ := st4
  have hk4 : jK S4 c = 1 := by rw [(o4 c (by omega)).1]; exact hk3
  clear hg4
  have hC : jCh S4 c := ⟨hk4, (by rw [u4 c 0 (by omega) (by omega), u3 c 0 (by omega) (by omega), u2 c 0 (by omega) (by omega)]; exact r1), (by rw [u4 c 1 (by omega) (by omega), u3 c 1 (by omega) (by omega)]; exact r2), (by rw [u4 c 2 (by omega) (by omega)]; exact r3), r4, (by rw [(o4 (c + 1) (by omega)).1, (o3 (c + 1) (by omega)).1, (o2 (c + 1) (by omega)).1]; exact k1), (by rw [(o4 (c + 2) (by omega)).1, (o3 (c + 2) (by omega)).1]; exact k2), (by rw [(o4 (c + 3) (by omega)).1]; exact k3), k4, l4⟩
  refine x_aload_n dX1_init_45 rfl ?_
  refine x_iconst dX1_init_46 ?_
  refine x_iconst dX1_init_47 ?_
  refine x_iconst dX1_init_48 ?_
  refine c_RX1_32d dX1_init_49 rfl (kX1_begin hC (by decide) (by decide) (by decide)) hk4 (Nat.le_of_ble_eq_true rfl) (Nat.le_of_ble_eq_true rfl) ⟨Nat.le_refl _, Nat.le_refl _⟩ ?_
  exact x_return dX1_init_52 rfl ⟨by decide, by decide⟩ ⟨rfl, by omega, hC, (fun x hx => ⟨by rw [(o4 x (by omega)).1, (o3 x (by omega)).1, (o2 x (by omega)).1, (o1 x (by omega)).1], by rw [(o4 x (by omega)).2, (o3 x (by omega)).2, (o2 x (by omega)).2, (o1 x (by omega)).2], fun z => by rw [u4 x z (by omega) (by omega), u3 x z (by omega) (by omega), u2 x z (by omega) (by omega), u1 x z (by omega) (by omega)]⟩), ((((jOlD.new (by omega)).trans (jOlD.new (by omega)) (Int.le_refl _)).trans (jOlD.new (by omega)) (Int.le_refl _)).trans (jOlD.new (by omega)) (Int.le_refl _)).trans (fun x z hx => dC_o (Or.inl hx)) (Int.le_refl _)⟩
/-- a flight under way: so many reaches, chambers, barges stand -/
def jFi (S : JS) (b i1 i2 i3 : Int) : Prop := jK S b = 2 ∧ jR S b 0 = some (b + 1) ∧ jR S b 1 = some (b + 2) ∧ jR S b 2 = some (b + 3) ∧ jK S (b + 1) = 12 ∧ jL S (b + 1) = 5 ∧ jK S (b + 2) = 13 ∧ jL S (b + 2) = 4 ∧ jK S (b + 3) = 14 ∧ jL S (b + 3) = 12 ∧
  (∀ i : Int, 0 ≤ i → i < i1 → jR S (b + 1) i = some (b + 4 + i) ∧ jK S (b + 4 + i) = 6) ∧
  (∀ i : Int, 0 ≤ i → i < i2 → jR S (b + 2) i = some (b + 9 + 5 * i) ∧ jCh S (b + 9 + 5 * i)) ∧
  (∀ i : Int, 0 ≤ i → i < i3 → jR S (b + 3) i = some (b + 29 + i) ∧ jK S (b + 29 + i) = 0)
theorem jCh.ext {S S2 : JS} {c : Int} (h : jCh S c) (e : ∀ x : Int, c ≤ x → x < c + 5 → jK S2 x = jK S x ∧ jL S2 x = jL S x ∧ ∀ z : Int, jR S2 x z = jR S x z) : jCh S2 c := by
  obtain ⟨a0, a1, a2, a3, a4, a5, a6, a7, a8, a9⟩ := h
  have e0 := e c (by omega) (by omega)
  exact ⟨by rw [e0.1]; exact a0, by rw [e0.2.2]; exact a1, by rw [e0.2.2]; exact a2, by rw [e0.2.2]; exact a3, by rw [e0.2.2]; exact a4, by rw [(e (c + 1) (by omega) (by omega)).1]; exact a5, by rw [(e (c + 2) (by omega) (by omega)).1]; exact a6, by rw [(e (c + 3) (by omega) (by omega)).1]; exact a7, by rw [(e (c + 4) (by omega) (by omega)).1]; exact a8, by rw [(e (c + 4) (by omega) (by omega)).2.1]; exact a9⟩
theorem jFi.ag {S S2 : JS} {b i1 i2 i3 N : Int} (h : jFi S b i1 i2 i3) (n0 : b + 4 ≤ N) (n1 : 0 < i1 → b + 4 + i1 ≤ N) (n2 : 0 < i2 → b + 9 + 5 * i2 ≤ N) (n3 : 0 < i3 → b + 29 + i3 ≤ N) (hK : ∀ x : Int, b ≤ x → x < N → jK S2 x = jK S x ∧ jL S2 x = jL S x) (hR : ∀ x z : Int, b ≤ x → x < N → x ≠ b + 1 → x ≠ b + 2 → x ≠ b + 3 → jR S2 x z = jR S x z)
    (r1 : ∀ z : Int, 0 ≤ z → z < i1 → jR S2 (b + 1) z = jR S (b + 1) z) (r2 : ∀ z : Int, 0 ≤ z → z < i2 → jR S2 (b + 2) z = jR S (b + 2) z) (r3 : ∀ z : Int, 0 ≤ z → z < i3 → jR S2 (b + 3) z = jR S (b + 3) z) : jFi S2 b i1 i2 i3 := by
  obtain ⟨a0, a1, a2, a3, a4, a5, a6, a7, a8, a9, g1, g2, g3⟩ := h
  refine ⟨by rw [(hK b (by omega) (by omega)).1]; exact a0, by rw [hR _ _ (by omega) (by omega) (by omega) (by omega) (by omega)]; exact a1, by rw [hR _ _ (by omega) (by omega) (by omega) (by omega) (by omega)]; exact a2, by rw [hR _ _ (by omega) (by omega) (by omega) (by omega) (by omega)]; exact a3, by rw [(hK _ (by omega) (by omega)).1]; exact a4, by rw [(hK _ (by omega) (by omega)).2]; exact a5, by rw [(hK _ (by omega) (by omega)).1]; exact a6, by rw [(hK _ (by omega) (by omega)).2]; exact a7, by rw [(hK _ (by omega) (by omega)).1]; exact a8, by rw [(hK _ (by omega) (by omega)).2]; exact a9,
    fun i x y => ?_, fun i x y => ?_, fun i x y => ?_⟩
  · rw [r1 i x y, (hK _ (by omega) (by omega)).1]; exact g1 i x y
  · rw [r2 i x y]
    exact ⟨(g2 i x y).1, (g2 i x y).2.ext (fun z p q => ⟨(hK z (by omega) (by omega)).1, (hK z (by omega) (by omega)).2, fun w => hR z w (by omega) (by omega) (by omega) (by omega) (by omega)⟩)⟩
  · rw [r3 i x y, (hK _ (by omega) (by omega)).1]; exact g3 i x y
theorem jFi.add1 {S : JS} {b i i2 i3 : Int} (h : jFi S b i i2 i3) (hr : jR S (b + 1) i = some (b + 4 + i)) (hk : jK S (b + 4 + i) = 6) : jFi S b (i + 1) i2 i3 := by
  obtain ⟨a0, a1, a2, a3, a4, a5, a6, a7, a8, a9, g1, g2, g3⟩ := h
  refine ⟨a0, a1, a2, a3, a4, a5, a6, a7, a8, a9, fun z x y => ?_, g2, g3⟩
  by_cases q : z = i
  · rw [q]; exact ⟨hr, hk⟩
  · exact g1 z x (by omega)
theorem jFi.add2 {S : JS} {b i1 i i3 : Int} (h : jFi S b i1 i i3) (hr : jR S (b + 2) i = some (b + 9 + 5 * i)) (hk : jCh S (b + 9 + 5 * i)) : jFi S b i1 (i + 1) i3 := by
  obtain ⟨a0, a1, a2, a3, a4, a5, a6, a7, a8, a9, g1, g2, g3⟩ := h
  refine ⟨a0, a1, a2, a3, a4, a5, a6, a7, a8, a9, g1, fun z x y => ?_, g3⟩
  by_cases q : z = i
  · rw [q]; exact ⟨hr, hk⟩
  · exact g2 z x (by omega)
theorem jFi.add3 {S : JS} {b i1 i2 i : Int} (h : jFi S b i1 i2 i) (hr : jR S (b + 3) i = some (b + 29 + i)) (hk : jK S (b + 29 + i) = 0) : jFi S b i1 i2 (i + 1) := by
  obtain ⟨a0, a1, a2, a3, a4, a5, a6, a7, a8, a9, g1, g2, g3⟩ := h
  refine ⟨a0, a1, a2, a3, a4, a5, a6, a7, a8, a9, g1, g2, fun z x y => ?_⟩
  by_cases q : z = i
  · rw [q]; exact ⟨hr, hk⟩
  · exact g3 z x (by omega)
def jFz (D : JD) (b : Int) : Prop := D b 3 = 0 ∧ D b 4 = 0 ∧ D b 5 = 0 ∧ D b 6 = 10 ∧ D b 7 = 0 ∧ D b 8 = 0
theorem fl_end {G : JG} {S0 S : JS} {D0 D : JD} {d : Nat} {b : Int} {l1 : Option JV} (hF : jFi S b 5 4 12) (hs : S.1 = b + 41) (ho : jOld S0 S b) (hd : jOlD D0 D b) : JX G yX2_init cX2_init 2 none (d + 3) (40, 266) (40, 266) S D 119 [some (.inr (.inr (some b))), l1] [] (fun v S2 D2 => v = none ∧ S2.1 = b + 41 ∧ jFl S2 b ∧ jOld S0 S2 b ∧ jOlD D0 D2 b ∧ jFz D2 b) := by
  have fk := hF.1
  refine x_aload_n dX2_init_119 rfl ?_
  refine x_iconst dX2_init_120 ?_
  refine pf_RX2_32 dX2_init_121 rfl (by assumption) ?_
  refine x_aload_n dX2_init_124 rfl ?_
  refine x_iconst dX2_init_125 ?_
  refine pf_RX2_36 dX2_init_126 rfl (by assumption) ?_
  refine x_aload_n dX2_init_129 rfl ?_
  refine x_iconst dX2_init_130 ?_
  refine pf_RX2_39 dX2_init_131 rfl (by assumption) ?_
  refine x_aload_n dX2_init_134 rfl ?_
  refine x_bipush dX2_init_135 (by decide) ?_
  refine pf_RX2_42 dX2_init_137 rfl (by assumption) ?_
  refine x_aload_n dX2_init_140 rfl ?_
  refine x_lconst (e := 0) dX2_init_141 (by decide) ?_
  refine pf_RX2_45 dX2_init_142 rfl (by assumption) ?_
  refine x_aload_n dX2_init_145 rfl ?_
  refine x_lconst (e := 0) dX2_init_146 (by decide) ?_
  refine pf_RX2_49 dX2_init_147 rfl (by assumption) ?_
  exact x_return dX2_init_150 rfl ⟨Nat.le_refl _, Nat.le_refl _⟩ ⟨rfl, hs, hF, ho, fun x z hx => by
      rw [jup_ne (by omega), jup_ne (by omega), jup_ne (by omega), jup_ne (by omega), jup_ne (by omega), jup_ne (by omega)]
      exact hd x z hx, by
      unfold jFz
      refine ⟨?_, ?_, ?_, ?_, ?_, ?_⟩ <;> repeat (first | rw [jup_eq] | rw [jup_nk (by omega)])⟩
theorem fl_loop3 {G : JG} {S0 : JS} {D0 : JD} {d : Nat} {b : Int} : ∀ (n i : Nat) (S : JS) (D : JD), (i : Int) + n = 12 → jFi S b 5 4 i → S.1 = b + 29 + 1 * i → jOld S0 S b → jOlD D0 D b → JX G yX2_init cX2_init 2 none (d + 3) (40, 266) (28 + i * 1, 170 + i * 8) S D 91 [some (.inr (.inr (some b))), some (.inl i)] [] (fun v S2 D2 => v = none ∧ S2.1 = b + 41 ∧ jFl S2 b ∧ jOld S0 S2 b ∧ jOlD D0 D2 b ∧ jFz D2 b) := by
  intro n
  induction n with
  | zero =>
    intro i S D hn hF hs ho hd
    have ei : i = 12 := by omega
    subst ei
    obtain ⟨fk, f0, f1, f2, k1, l1, k2, l2, k3, l3, g1, g2, g3⟩ := id hF
    refine x_iload_n dX2_init_91 rfl ?_
    refine x_aload_n dX2_init_92 rfl ?_
    refine gf_RX2_25 dX2_init_93 rfl (by assumption) ?_
    rw [f2]
    refine x_alen (c := 14) dX2_init_96 (by decide) (by assumption) ?_
    rw [l3]
    refine x_ic_ge (tgt := 119) dX2_init_97 (by decide) ⟨by omega, by omega⟩ ⟨by omega, by omega⟩ (fun hb97 => ?_) (fun h => (h (by omega)).elim)
    exact JX.widen ⟨by show 28 + 12 * 1 ≤ 40; omega, by show 170 + 12 * 8 ≤ 266; omega⟩ (fl_end hF (by omega) ho hd)
  | succ n ih =>
    intro i S D hn hF hs ho hd
    obtain ⟨fk, f0, f1, f2, k1, l1, k2, l2, k3, l3, g1, g2, g3⟩ := id hF
    refine x_iload_n dX2_init_91 rfl ?_
    refine x_aload_n dX2_init_92 rfl ?_
    refine gf_RX2_25 dX2_init_93 rfl (by assumption) ?_
    rw [f2]
    refine x_alen (c := 14) dX2_init_96 (by decide) (by assumption) ?_
    rw [l3]
    refine x_ic_ge (tgt := 119) dX2_init_97 (by decide) ⟨by omega, by omega⟩ ⟨by omega, by omega⟩ (fun h => absurd h (by omega)) (fun hb97 => ?_)
    refine x_aload_n dX2_init_100 rfl ?_
    refine gf_RX2_25 dX2_init_101 rfl (by assumption) ?_
    rw [f2]
    refine x_iload_n dX2_init_104 rfl ?_
    refine x_new (c := 0) dX2_init_105 rfl (by decide) cl_RX2_23 ins_RX0 ini_RX0 (by show 28 + i * 1 + 1 ≤ 40 ∧ 170 + i * 8 + 8 ≤ 266; exact ⟨by omega, by omega⟩) ?_
    refine x_dup dX2_init_108 (fun _ h => by cases h) ?_
    refine n_RX2_31d dX2_init_109 rfl (kX0_init) (Nat.le_of_ble_eq_true rfl) (Nat.le_of_ble_eq_true rfl) (by show 28 + i * 1 + 1 + 0 ≤ 40 ∧ 170 + i * 8 + 8 + 0 ≤ 266; exact ⟨by omega, by omega⟩) ?_
    refine x_aast (c := 14) (k := 0) dX2_init_112 (by decide) rfl rfl (by decide) (by rw [((jOld.new (S := S) (c := 0) (n := 0) (b := S.1) (Int.le_refl _)) _ (by omega)).1]; exact k3) jnw_K ⟨by omega, by rw [((jOld.new (S := S) (c := 0) (n := 0) (b := S.1) (Int.le_refl _)) _ (by omega)).2.1, l3]; omega⟩ ?_
    refine x_iinc dX2_init_113 rfl (by decide) ?_
    show JX _ _ _ _ _ _ _ _ _ _ _ [_, _] _ _
    refine x_goto (tgt := 91) dX2_init_116 (by decide) ?_
    have ho2 : jOld S0 (jur (jnw S 0 0) (b + 3) i (some S.1)) b := (ho.trans (jOld.new (S := S) (c := 0) (n := 0) (b := b) (by omega)) (Int.le_refl _)).trans (jOld.ref (by omega)) (Int.le_refl _)
    have hF2 : jFi (jur (jnw S 0 0) (b + 3) i (some S.1)) b 5 4 i := hF.ag (N := S.1) (S2 := (jur (jnw S 0 0) (b + 3) i (some S.1))) (by omega) (by omega) (by omega) (by omega) (fun x _ hx => by obtain ⟨q1, q2, -⟩ := (jOld.new (S := S) (c := 0) (n := 0) (b := S.1) (Int.le_refl _)) x hx; exact ⟨q1, q2⟩) (fun x z _ hx y1 y2 y3 => by rw [jur_ne (by omega)]; exact ((jOld.new (S := S) (c := 0) (n := 0) (b := S.1) (Int.le_refl _)) x hx).2.2 z) (fun z x y => by rw [jur_ne (by omega)]; exact ((jOld.new (S := S) (c := 0) (n := 0) (b := S.1) (Int.le_refl _)) _ (by omega)).2.2 z) (fun z x y => by rw [jur_ne (by omega)]; exact ((jOld.new (S := S) (c := 0) (n := 0) (b := S.1) (Int.le_refl _)) _ (by omega)).2.2 z) (fun z x y => by rw [jur_ne (by omega)]; exact ((jOld.new (S := S) (c := 0) (n := 0) (b := S.1) (Int.le_refl _)) _ (by omega)).2.2 z)
    have hr2 : jR (jur (jnw S 0 0) (b + 3) i (some S.1)) (b + 3) i = some (b + 29 + i) := by rw [jur_eq]; congr 1; omega
    have hk2 : jK (jur (jnw S 0 0) (b + 3) i (some S.1)) (b + 29 + i) = 0 := by rw [show b + 29 + (i : Int) = S.1 by omega]; exact jnw_K (n := 0)
    refine JX.widen (kc2 := (28 + (i + 1) * 1, 170 + (i + 1) * 8)) ⟨?_, ?_⟩ (ih (i + 1) _ _ (by omega) (hF2.add3 hr2 hk2) ?_ ho2 (hd.trans (jOlD.new (by omega)) (Int.le_refl _)))
    · show 28 + i * 1 + 1 + 0 ≤ 28 + (i + 1) * 1; omega
    · show 170 + i * 8 + 8 + 0 ≤ 170 + (i + 1) * 8; omega
    · show S.1 + 1 = b + 29 + 1 * ((i + 1 : Nat) : Int); omega
theorem fl_loop2 {G : JG} {S0 : JS} {D0 : JD} {d : Nat} {b : Int} : ∀ (n i : Nat) (S : JS) (D : JD), (i : Int) + n = 4 → jFi S b 5 i 0 → S.1 = b + 9 + 5 * i → jOld S0 S b → jOlD D0 D b → JX G yX2_init cX2_init 2 none (d + 3) (40, 266) (8 + i * 5, 46 + i * 31) S D 61 [some (.inr (.inr (some b))), some (.inl i)] [] (fun v S2 D2 => v = none ∧ S2.1 = b + 41 ∧ jFl S2 b ∧ jOld S0 S2 b ∧ jOlD D0 D2 b ∧ jFz D2 b) := by
  intro n
  induction n with
  | zero =>
    intro i S D hn hF hs ho hd
    have ei : i = 4 := by omega
    subst ei
    obtain ⟨fk, f0, f1, f2, k1, l1, k2, l2, k3, l3, g1, g2, g3⟩ := id hF
    refine x_iload_n dX2_init_61 rfl ?_
    refine x_aload_n dX2_init_62 rfl ?_
    refine gf_RX2_19 dX2_init_63 rfl (by assumption) ?_
    rw [f1]
    refine x_alen (c := 13) dX2_init_66 (by decide) (by assumption) ?_
    rw [l2]
    refine x_ic_ge (tgt := 89) dX2_init_67 (by decide) ⟨by omega, by omega⟩ ⟨by omega, by omega⟩ (fun hb67 => ?_) (fun h => (h (by omega)).elim)
    refine x_iconst dX2_init_89 ?_
    refine x_istore_n dX2_init_90 (by decide) ?_
    show JX _ _ _ _ _ _ _ _ _ _ _ [_, _] _ _
    exact JX.widen ⟨by show 8 + 4 * 5 ≤ 28 + 0 * 1; omega, by show 46 + 4 * 31 ≤ 170 + 0 * 8; omega⟩ (fl_loop3 12 0 S D (by omega) hF (by omega) ho hd)
  | succ n ih =>
    intro i S D hn hF hs ho hd
    obtain ⟨fk, f0, f1, f2, k1, l1, k2, l2, k3, l3, g1, g2, g3⟩ := id hF
    refine x_iload_n dX2_init_61 rfl ?_
    refine x_aload_n dX2_init_62 rfl ?_
    refine gf_RX2_19 dX2_init_63 rfl (by assumption) ?_
    rw [f1]
    refine x_alen (c := 13) dX2_init_66 (by decide) (by assumption) ?_
    rw [l2]
    refine x_ic_ge (tgt := 89) dX2_init_67 (by decide) ⟨by omega, by omega⟩ ⟨by omega, by omega⟩ (fun h => absurd h (by omega)) (fun hb67 => ?_)
    refine x_aload_n dX2_init_70 rfl ?_
    refine gf_RX2_19 dX2_init_71 rfl (by assumption) ?_
    rw [f1]
    refine x_iload_n dX2_init_74 rfl ?_
    refine x_new (c := 1) dX2_init_75 rfl (by decide) cl_RX2_17 ins_RX1 ini_RX1 (by show 8 + i * 5 + 1 ≤ 40 ∧ 46 + i * 31 + 8 ≤ 266; exact ⟨by omega, by omega⟩) ?_
    refine x_dup dX2_init_78 (fun _ h => by cases h) ?_
    refine c_RX2_30 dX2_init_79 rfl (kX1_init (c := S.1) jnw_K rfl) (Nat.le_of_ble_eq_true rfl) (Nat.le_of_ble_eq_true rfl) (by show 8 + i * 5 + 1 + 4 ≤ 40 ∧ 46 + i * 31 + 8 + 23 ≤ 266; exact ⟨by omega, by omega⟩) ?_
    rintro v9 S9 D9 ⟨rfl, q1, q2, q3, q4⟩
    dsimp only [Option.toList, List.nil_append]
    refine x_aast (c := 13) (k := 1) dX2_init_82 (by decide) rfl rfl (by decide) (by rw [(q3 _ (by omega)).1, ((jOld.new (S := S) (c := 1) (n := 0) (b := S.1) (Int.le_refl _)) _ (by omega)).1]; exact k2) q2.1 ⟨by omega, by rw [(q3 _ (by omega)).2.1, ((jOld.new (S := S) (c := 1) (n := 0) (b := S.1) (Int.le_refl _)) _ (by omega)).2.1, l2]; omega⟩ ?_
    refine x_iinc dX2_init_83 rfl (by decide) ?_
    show JX _ _ _ _ _ _ _ _ _ _ _ [_, _] _ _
    refine x_goto (tgt := 61) dX2_init_86 (by decide) ?_
    have o1 := jOld.new (S := S) (c := 1) (n := 0) (b := S.1) (Int.le_refl _)
    have o2 : jOld S S9 S.1 := o1.trans q3 (Int.le_refl _)
    have ho2 : jOld S0 (jur S9 (b + 2) i (some S.1)) b := (ho.trans o2 (by omega)).trans (jOld.ref (by omega)) (Int.le_refl _)
    have hF2 : jFi (jur S9 (b + 2) i (some S.1)) b 5 i 0 := hF.ag (N := S.1) (by omega) (by omega) (by omega) (by omega) (fun x _ hx => ⟨(o2 x hx).1, (o2 x hx).2.1⟩) (fun x z _ hx y1 y2 y3 => by rw [jur_ne (by omega)]; exact (o2 x hx).2.2 z) (fun z x y => by rw [jur_ne (by omega)]; exact (o2 _ (by omega)).2.2 z) (fun z x y => by rw [jur_ne (by omega)]; exact (o2 _ (by omega)).2.2 z) (fun z x y => by omega)
    have hr2 : jR (jur S9 (b + 2) i (some S.1)) (b + 2) i = some (b + 9 + 5 * i) := by rw [jur_eq, hs]
    have hk2 : jCh (jur S9 (b + 2) i (some S.1)) (b + 9 + 5 * i) := by
      rw [show b + 9 + 5 * (i : Int) = S.1 by omega]
      exact q2.ext (fun x p q => ⟨rfl, rfl, fun z => jur_ne (by omega)⟩)
    refine JX.widen (kc2 := (8 + (i + 1) * 5, 46 + (i + 1) * 31)) ⟨?_, ?_⟩ (ih (i + 1) _ _ (by omega) (hF2.add2 hr2 hk2) ?_ ho2 ((hd.trans (jOlD.new (by omega)) (Int.le_refl _)).trans q4 (by omega)))
    · show 8 + i * 5 + 1 + 4 ≤ 8 + (i + 1) * 5; omega
    · show 46 + i * 31 + 8 + 23 ≤ 46 + (i + 1) * 31; omega
    · show S9.1 = b + 9 + 5 * ((i + 1 : Nat) : Int); omega
theorem fl_loop1 {G : JG} {S0 : JS} {D0 : JD} {d : Nat} {b : Int} : ∀ (n i : Nat) (S : JS) (D : JD), (i : Int) + n = 5 → jFi S b i 0 0 → S.1 = b + 4 + 1 * i → jOld S0 S b → jOlD D0 D b → JX G yX2_init cX2_init 2 none (d + 3) (40, 266) (3 + i * 1, 21 + i * 5) S D 31 [some (.inr (.inr (some b))), some (.inl i)] [] (fun v S2 D2 => v = none ∧ S2.1 = b + 41 ∧ jFl S2 b ∧ jOld S0 S2 b ∧ jOlD D0 D2 b ∧ jFz D2 b) := by
  intro n
  induction n with
  | zero =>
    intro i S D hn hF hs ho hd
    have ei : i = 5 := by omega
    subst ei
    obtain ⟨fk, f0, f1, f2, k1, l1, k2, l2, k3, l3, g1, g2, g3⟩ := id hF
    refine x_iload_n dX2_init_31 rfl ?_
    refine x_aload_n dX2_init_32 rfl ?_
    refine gf_RX2_11 dX2_init_33 rfl (by assumption) ?_
    rw [f0]
    refine x_alen (c := 12) dX2_init_36 (by decide) (by assumption) ?_
    rw [l1]
    refine x_ic_ge (tgt := 59) dX2_init_37 (by decide) ⟨by omega, by omega⟩ ⟨by omega, by omega⟩ (fun hb37 => ?_) (fun h => (h (by omega)).elim)
    refine x_iconst dX2_init_59 ?_
    refine x_istore_n dX2_init_60 (by decide) ?_
    show JX _ _ _ _ _ _ _ _ _ _ _ [_, _] _ _
    exact JX.widen ⟨by show 3 + 5 * 1 ≤ 8 + 0 * 5; omega, by show 21 + 5 * 5 ≤ 46 + 0 * 31; omega⟩ (fl_loop2 4 0 S D (by omega) hF (by omega) ho hd)
  | succ n ih =>
    intro i S D hn hF hs ho hd
    obtain ⟨fk, f0, f1, f2, k1, l1, k2, l2, k3, l3, g1, g2, g3⟩ := id hF
    refine x_iload_n dX2_init_31 rfl ?_
    refine x_aload_n dX2_init_32 rfl ?_
    refine gf_RX2_11 dX2_init_33 rfl (by assumption) ?_
    rw [f0]
    refine x_alen (c := 12) dX2_init_36 (by decide) (by assumption) ?_
    rw [l1]
    refine x_ic_ge (tgt := 59) dX2_init_37 (by decide) ⟨by omega, by omega⟩ ⟨by omega, by omega⟩ (fun h => absurd h (by omega)) (fun hb37 => ?_)
    refine x_aload_n dX2_init_40 rfl ?_
    refine gf_RX2_11 dX2_init_41 rfl (by assumption) ?_
    rw [f0]
    refine x_iload_n dX2_init_44 rfl ?_
    refine x_new (c := 6) dX2_init_45 rfl (by decide) cl_RX2_9 ins_RX6 ini_RX6 (by show 3 + i * 1 + 1 ≤ 40 ∧ 21 + i * 5 + 5 ≤ 266; exact ⟨by omega, by omega⟩) ?_
    refine x_dup dX2_init_48 (fun _ h => by cases h) ?_
    refine n_RX2_29d dX2_init_49 rfl (kX6_init) (Nat.le_of_ble_eq_true rfl) (Nat.le_of_ble_eq_true rfl) (by show 3 + i * 1 + 1 + 0 ≤ 40 ∧ 21 + i * 5 + 5 + 0 ≤ 266; exact ⟨by omega, by omega⟩) ?_
    refine x_aast (c := 12) (k := 6) dX2_init_52 (by decide) rfl rfl (by decide) (by rw [((jOld.new (S := S) (c := 6) (n := 0) (b := S.1) (Int.le_refl _)) _ (by omega)).1]; exact k1) jnw_K ⟨by omega, by rw [((jOld.new (S := S) (c := 6) (n := 0) (b := S.1) (Int.le_refl _)) _ (by omega)).2.1, l1]; omega⟩ ?_
    refine x_iinc dX2_init_53 rfl (by decide) ?_
    show JX _ _ _ _ _ _ _ _ _ _ _ [_, _] _ _
    refine x_goto (tgt := 31) dX2_init_56 (by decide) ?_
    have ho2 : jOld S0 (jur (jnw S 6 0) (b + 1) i (some S.1)) b := (ho.trans (jOld.new (S := S) (c := 6) (n := 0) (b := b) (by omega)) (Int.le_refl _)).trans (jOld.ref (by omega)) (Int.le_refl _)
    have hF2 : jFi (jur (jnw S 6 0) (b + 1) i (some S.1)) b i 0 0 := hF.ag (N := S.1) (S2 := (jur (jnw S 6 0) (b + 1) i (some S.1))) (by omega) (by omega) (by omega) (by omega) (fun x _ hx => by obtain ⟨q1, q2, -⟩ := (jOld.new (S := S) (c := 6) (n := 0) (b := S.1) (Int.le_refl _)) x hx; exact ⟨q1, q2⟩) (fun x z _ hx y1 y2 y3 => by rw [jur_ne (by omega)]; exact ((jOld.new (S := S) (c := 6) (n := 0) (b := S.1) (Int.le_refl _)) x hx).2.2 z) (fun z x y => by rw [jur_ne (by omega)]; exact ((jOld.new (S := S) (c := 6) (n := 0) (b := S.1) (Int.le_refl _)) _ (by omega)).2.2 z) (fun z x y => by rw [jur_ne (by omega)]; exact ((jOld.new (S := S) (c := 6) (n := 0) (b := S.1) (Int.le_refl _)) _ (by omega)).2.2 z) (fun z x y => by rw [jur_ne (by omega)]; exact ((jOld.new (S := S) (c := 6) (n := 0) (b := S.1) (Int.le_refl _)) _ (by omega)).2.2 z)
    have hr2 : jR (jur (jnw S 6 0) (b + 1) i (some S.1)) (b + 1) i = some (b + 4 + i) := by rw [jur_eq]; congr 1; omega
    have hk2 : jK (jur (jnw S 6 0) (b + 1) i (some S.1)) (b + 4 + i) = 6 := by rw [show b + 4 + (i : Int) = S.1 by omega]; exact jnw_K (n := 0)
    refine JX.widen (kc2 := (3 + (i + 1) * 1, 21 + (i + 1) * 5)) ⟨?_, ?_⟩ (ih (i + 1) _ _ (by omega) (hF2.add1 hr2 hk2) ?_ ho2 (hd.trans (jOlD.new (by omega)) (Int.le_refl _)))
    · show 3 + i * 1 + 1 + 0 ≤ 3 + (i + 1) * 1; omega
    · show 21 + i * 5 + 5 + 0 ≤ 21 + (i + 1) * 5; omega
    · show S.1 + 1 = b + 4 + 1 * ((i + 1 : Nat) : Int); omega
theorem kX2_init {G : JG} {S : JS} {D : JD} {d : Nat} {b : Int} (hk0 : jK S b = 2) (hs : S.1 = b + 1) : JM G yX2_init cX2_init 2 none (d + 3) (40, 266) S D [.inr (.inr (some b))] (fun v S2 D2 => v = none ∧ S2.1 = b + 41 ∧ jFl S2 b ∧ jOld S S2 b ∧ jOlD D D2 b ∧ jFz D2 b) := by
  show JX _ _ _ _ _ _ _ _ _ _ _ [_, _] _ _
  refine x_aload_n dX2_init_0 rfl ?_
  refine x_object dX2_init_1 ml_RX2_3 rfl (by omega) (Nat.le_of_ble_eq_true rfl) ?_
  refine x_aload_n dX2_init_4 rfl ?_
  refine x_iconst dX2_init_5 ?_
  refine x_anew (c := 12) dX2_init_6 (by decide) rfl cl_RX2_9 (by decide) (by decide) (by decide) ?_
  refine pf_RX2_11 dX2_init_9 rfl rfl (by show jK (jnw S _ _) b = 2; rw [jnw_Ko (by omega)]; exact hk0) ?_
  generalize hg1 : jur (jnw S 12 5) b 0 (some S.1) = S1
  have st1 : jStp S S1 (b + 1) b 0 12 5 := by rw [← hg1]; exact jStp.mk (by omega) (by omega)
  obtain ⟨n1, k1, l1, r1, o1, u1⟩ := st1
  have hk1 : jK S1 b = 2 := by rw [(o1 b (by omega)).1]; exact hk0
  clear hg1
  refine x_aload_n dX2_init_12 rfl ?_
  refine x_iconst dX2_init_13 ?_
  refine x_anew (c := 13) dX2_init_14 (by decide) rfl cl_RX2_17 (by decide) (by decide) (by decide) ?_
  refine pf_RX2_19 dX2_init_17 rfl rfl (by show jK (jnw S1 _ _) b = 2; rw [jnw_Ko (by omega)]; exact hk1) ?_
  generalize hg2 : jur (jnw S1 13 4) b 1 (some S1.1) = S2
  have st2 : jStp S1 S2 (b + 2) b 1 13 4 := by rw [← hg2]; exact jStp.mk (by omega) (by omega)
  obtain ⟨n2, k2, l2, r2, o2, u2⟩ := st2
  have hk2 : jK S2 b = 2 := by rw [(o2 b (by omega)).1]; exact hk1
  clear hg2
  refine x_aload_n dX2_init_20 rfl ?_
  refine x_bipush dX2_init_21 (by decide) ?_
  refine x_anew (c := 14) dX2_init_23 (by decide) rfl cl_RX2_23 (by decide) (by decide) (by decide) ?_
  refine pf_RX2_25 dX2_init_26 rfl rfl (by show jK (jnw S2 _ _) b = 2; rw [jnw_Ko (by omega)]; exact hk2) ?_
  generalize hg3 : jur (jnw S2 14 12) b 2 (some S2.1) = S3
  have st3 : jStp S2 S3 (b + 3) b 2 14 12 := by rw [← hg3]; exact jStp.mk (by omega) (by omega)
  obtain ⟨n3, k3, l3, r3, o3, u3⟩ := st3
  have hk3 : jK S3 b = 2 := by rw [(o3 b (by omega)).1]; exact hk2
  clear hg3
  refine x_iconst dX2_init_29 ?_
  refine x_istore_n dX2_init_30 (by decide) ?_
  show JX _ _ _ _ _ _ _ _ _ _ _ [_, _] _ _
  have hF : jFi S3 b 0 0 0 := ⟨hk3, (by rw [u3 b 0 (by omega) (by omega), u2 b 0 (by omega) (by omega)]; exact r1), (by rw [u3 b 1 (by omega) (by omega)]; exact r2), r3, (by rw [(o3 (b + 1) (by omega)).1, (o2 (b + 1) (by omega)).1]; exact k1), (by rw [(o3 (b + 1) (by omega)).2, (o2 (b + 1) (by omega)).2]; exact l1), (by rw [(o3 (b + 2) (by omega)).1]; exact k2), (by rw [(o3 (b + 2) (by omega)).2]; exact l2), k3, l3, fun i x y => by omega, fun i x y => by omega, fun i x y => by omega⟩
  exact fl_loop1 5 0 S3 _ (by omega) hF (by omega) (fun x hx => ⟨by rw [(o3 x (by omega)).1, (o2 x (by omega)).1, (o1 x (by omega)).1], by rw [(o3 x (by omega)).2, (o2 x (by omega)).2, (o1 x (by omega)).2], fun z => by rw [u3 x z (by omega) (by omega), u2 x z (by omega) (by omega), u1 x z (by omega) (by omega)]⟩) (((jOlD.new (by omega)).trans (jOlD.new (by omega)) (Int.le_refl _)).trans (jOlD.new (by omega)) (Int.le_refl _))
