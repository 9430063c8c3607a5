/-! THE CLASS: numbers, orders, the first fault -/
def jDq (D D2 : JD) (o e l m : Int) (r : Option Int) (w : JV) : Prop := match r with
  | some v => if l ≤ v ∧ v ≤ m then w = .inl v ∧ jPo D D2 o e else w = .inl (-1) ∧ D2 = D
  | none => w = .inl (-1) ∧ D2 = D
def jNu (D D2 : JD) (o : Int) (x : Option Int × Int) (w : JV) : Prop := w = .inl (oNv x.1) ∧ jPo D D2 o x.2
theorem jPo.to {D D1 D2 : JD} {o q1 q : Int} (h : jPo D D1 o q1) (h2 : jPo D1 D2 o q) : jPo D D2 o q := ⟨h2.1, fun x k e => by rw [h2.2 x k e, h.2 x k e]⟩
theorem jPo.n {D D1 : JD} {o q k : Int} (h : jPo D D1 o q) (hk : k ≠ 2) : D1 o k = D o k := h.2 o k (fun e => hk e.2)
theorem jPo.x {D D1 : JD} {o q x : Int} (h : jPo D D1 o q) (hx : x ≠ o) : D1 x = D x := by
  funext k
  exact h.2 x k (fun e => hx e.1)
theorem dig_loop {G : JG} {S : JS} {D : JD} {d : Nat} {o n : Int} {f : Int → Int} {l m e : Int} (hO : jOr S o) (hn : D o 1 = n) (hf : D (o + 1) = f) (n0 : 0 ≤ n) (n1 : n ≤ 60) (fr : ∀ z : Int, 0 ≤ f z ∧ f z ≤ 65535) (rl : i32 l) (rm : i32 m) (he : e ≤ n) : ∀ (k : Nat) (z v : Int) (c : Option JV), z + (k : Int) = e → 0 ≤ z → (k ≤ 3 ∧ 0 ≤ v ∧ (k = 0 → v < 1000) ∧ (k = 1 → v < 100) ∧ (k = 2 → v < 10) ∧ (k = 3 → v < 1)) →
    JX G yX4_readNumber cX4_readNumber 7 (some .int) (d + 2) (0, 0) (0, 0) S D 45 [some (.inr (.inr (some o))), some (.inl l), some (.inl m), some (.inl e), some (.inl v), some (.inl z), c] [] (jrP S (fun w D2 => jDq D D2 o e l m (oDg f k z v) w)) := by
  obtain ⟨ok, ot, tk, tl⟩ := id hO
  intro k
  induction k with
  | zero =>
    intro z v c hz z0 hv
    refine x_iload dX4_readNumber_45 rfl ?_
    refine x_iload_n dX4_readNumber_47 rfl ?_
    refine x_ic_ge (tgt := 94) dX4_readNumber_48 (by decide) ⟨by omega, by omega⟩ ⟨by omega, by omega⟩ (fun hb48 => ?_) (fun h => (h (by omega)).elim)
    refine x_iload dX4_readNumber_94 rfl ?_
    refine x_iload_n dX4_readNumber_96 rfl ?_
    refine x_iload_n dX4_readNumber_97 rfl ?_
    refine n_RX4_77d dX4_readNumber_98 rfl (kX7_isWithin ⟨by omega, by omega⟩ rl rm) (Nat.le_of_ble_eq_true rfl) (Nat.le_of_ble_eq_true rfl) ⟨Nat.le_refl _, Nat.le_refl _⟩ ?_
    refine x_if_ne (tgt := 106) dX4_readNumber_101 (by decide) ⟨by split <;> omega, by split <;> omega⟩ (fun hb101 => ?_) (fun hb101 => ?_)
    · refine x_aload_n dX4_readNumber_106 rfl ?_
      refine x_iload_n dX4_readNumber_107 rfl ?_
      refine pf_RX4_19 dX4_readNumber_108 rfl (by assumption) ?_
      refine x_iload dX4_readNumber_111 rfl ?_
      exact x_ireturn dX4_readNumber_113 rfl rfl ⟨Nat.le_refl _, Nat.le_refl _⟩ ⟨rfl, _, rfl, by show (if l ≤ v ∧ v ≤ m then _ else _); rw [if_pos (by omega)]; exact ⟨rfl, jup_eq, fun x k h => by by_cases q : x = o; rw [q, jup_nk (fun w => h ⟨q, w⟩)]; exact jup_ne q⟩⟩
    · refine x_iconst dX4_readNumber_104 ?_
      exact x_ireturn dX4_readNumber_105 rfl rfl ⟨Nat.le_refl _, Nat.le_refl _⟩ ⟨rfl, _, rfl, by show (if l ≤ v ∧ v ≤ m then _ else _); rw [if_neg (by omega)]; exact ⟨rfl, rfl⟩⟩
  | succ k ih =>
    intro z v c hz z0 hv
    have fz := fr z
    rw [show oDg f (k + 1) z v = if 48 ≤ f z ∧ f z ≤ 57 then oDg f k (z + 1) (v * 10 + (f z - 48)) else none from rfl]
    refine x_iload dX4_readNumber_45 rfl ?_
    refine x_iload_n dX4_readNumber_47 rfl ?_
    refine x_ic_ge (tgt := 94) dX4_readNumber_48 (by decide) ⟨by omega, by omega⟩ ⟨by omega, by omega⟩ (fun h => absurd h (by omega)) (fun hb48 => ?_)
    refine x_aload_n dX4_readNumber_51 rfl ?_
    refine x_iload dX4_readNumber_52 rfl ?_
    refine c_RX4_73d dX4_readNumber_54 rfl (kX4_signAt hO hn hf n0 n1 fr ⟨by omega, by omega⟩) (by assumption) (Nat.le_of_ble_eq_true rfl) (Nat.le_of_ble_eq_true rfl) ⟨Nat.le_refl _, Nat.le_refl _⟩ ?_
    rw [if_pos (show 0 ≤ z ∧ z < n by omega)]
    refine x_istore dX4_readNumber_57 (by decide) ?_
    show JX _ _ _ _ _ _ _ _ _ _ _ [_, _, _, _, _, _, _] _ _
    refine x_iload dX4_readNumber_59 rfl ?_
    refine x_bipush dX4_readNumber_61 (by decide) ?_
    refine x_ic_lt (tgt := 73) dX4_readNumber_63 (by decide) ⟨by omega, by omega⟩ ⟨by omega, by omega⟩ (fun hb63 => ?_) (fun hb63 => ?_)
    · refine x_iconst dX4_readNumber_73 ?_
      exact x_ireturn dX4_readNumber_74 rfl rfl ⟨Nat.le_refl _, Nat.le_refl _⟩ ⟨rfl, _, rfl, by rw [if_neg (by omega)]; exact ⟨rfl, rfl⟩⟩
    · refine x_iload dX4_readNumber_66 rfl ?_
      refine x_bipush dX4_readNumber_68 (by decide) ?_
      refine x_ic_le (tgt := 75) dX4_readNumber_70 (by decide) ⟨by omega, by omega⟩ ⟨by omega, by omega⟩ (fun hb70 => ?_) (fun hb70 => ?_)
      · refine x_iload dX4_readNumber_75 rfl ?_
        refine x_bipush dX4_readNumber_77 (by decide) ?_
        refine x_imul dX4_readNumber_79 ?_
        refine x_iload dX4_readNumber_80 rfl ?_
        refine x_bipush dX4_readNumber_82 (by decide) ?_
        refine x_isub dX4_readNumber_84 ?_
        refine x_iadd dX4_readNumber_85 ?_
        refine x_istore dX4_readNumber_86 (by decide) ?_
        show JX _ _ _ _ _ _ _ _ _ _ _ [_, _, _, _, _, _, _] _ _
        refine x_iinc dX4_readNumber_88 rfl (by decide) ?_
        show JX _ _ _ _ _ _ _ _ _ _ _ [_, _, _, _, _, _, _] _ _
        refine x_goto (tgt := 45) dX4_readNumber_91 (by decide) ?_
        rw [if_pos (by omega)]
        exact ih (z + 1) _ _ (by omega) (by omega) (by omega)
      · refine x_iconst dX4_readNumber_73 ?_
        exact x_ireturn dX4_readNumber_74 rfl rfl ⟨Nat.le_refl _, Nat.le_refl _⟩ ⟨rfl, _, rfl, by rw [if_neg (by omega)]; exact ⟨rfl, rfl⟩⟩
theorem kX4_readNumber_a {G : JG} {S : JS} {D : JD} {d : Nat} {o n : Int} {f : Int → Int} {p l m : Int} (hO : jOr S o) (hn : D o 1 = n) (hf : D (o + 1) = f) (n0 : 0 ≤ n) (n1 : n ≤ 60) (fr : ∀ z : Int, 0 ≤ f z ∧ f z ≤ 65535) (hp : D o 2 = p) (p0 : 0 ≤ p) (p1 : p ≤ n) (rl : i32 l) (rm : i32 m) (h : ¬ (p < n ∧ f p = 32)) : JM G yX4_readNumber cX4_readNumber 7 (some .int) (d + 2) (0, 0) S D [.inr (.inr (some o)), .inl l, .inl m] (jrP S (fun w D2 => jNu D D2 o (oNm f n p l m) w)) := by
  obtain ⟨ok, ot, tk, tl⟩ := id hO
  show JX _ _ _ _ _ _ _ _ _ _ _ [_, _, _, _, _, _, _] _ _
  refine x_aload_n dX4_readNumber_0 rfl ?_
  refine x_bipush dX4_readNumber_1 (by decide) ?_
  refine c_RX4_42p dX4_readNumber_3 rfl (kX4_readSign hO hn hf n0 n1 fr hp p0 p1 ⟨by omega, by omega⟩) (by assumption) (Nat.le_of_ble_eq_true rfl) (Nat.le_of_ble_eq_true rfl) ⟨Nat.le_refl _, Nat.le_refl _⟩ (fun w1 D1 h1 => ?_)
  obtain ⟨hw, g⟩ := h1
  subst hw
  rw [if_neg h]
  rw [if_neg h] at g
  refine x_if_ne (tgt := 11) dX4_readNumber_6 (by decide) ⟨by omega, by omega⟩ (fun h => absurd h (by omega)) (fun hb6 => ?_)
  refine x_iconst dX4_readNumber_9 ?_
  exact x_ireturn dX4_readNumber_10 rfl rfl ⟨Nat.le_refl _, Nat.le_refl _⟩ ⟨rfl, _, rfl, by unfold oNm; rw [if_neg h]; exact ⟨rfl, g⟩⟩
theorem kX4_readNumber_b {G : JG} {S : JS} {D : JD} {d : Nat} {o n : Int} {f : Int → Int} {p l m : Int} (hO : jOr S o) (hn : D o 1 = n) (hf : D (o + 1) = f) (n0 : 0 ≤ n) (n1 : n ≤ 60) (fr : ∀ z : Int, 0 ≤ f z ∧ f z ≤ 65535) (hp : D o 2 = p) (p0 : 0 ≤ p) (p1 : p ≤ n) (rl : i32 l) (rm : i32 m) (h : p < n ∧ f p = 32) (hb : oE f n (p + 1) = p + 1 ∨ 3 < oE f n (p + 1) - (p + 1)) : JM G yX4_readNumber cX4_readNumber 7 (some .int) (d + 2) (0, 0) S D [.inr (.inr (some o)), .inl l, .inl m] (jrP S (fun w D2 => jNu D D2 o (oNm f n p l m) w)) := by
  obtain ⟨ok, ot, tk, tl⟩ := id hO
  show JX _ _ _ _ _ _ _ _ _ _ _ [_, _, _, _, _, _, _] _ _
  refine x_aload_n dX4_readNumber_0 rfl ?_
  refine x_bipush dX4_readNumber_1 (by decide) ?_
  refine c_RX4_42p dX4_readNumber_3 rfl (kX4_readSign hO hn hf n0 n1 fr hp p0 p1 ⟨by omega, by omega⟩) (by assumption) (Nat.le_of_ble_eq_true rfl) (Nat.le_of_ble_eq_true rfl) ⟨Nat.le_refl _, Nat.le_refl _⟩ (fun w1 D1 h1 => ?_)
  obtain ⟨hw, g⟩ := h1
  subst hw
  rw [if_pos h]
  rw [if_pos h] at g
  have hn1 : D1 o 1 = n := by rw [g.n (by omega)]; exact hn
  have hf1 : D1 (o + 1) = f := by rw [g.x (by omega)]; exact hf
  have hp1 : D1 o 2 = p + 1 := g.1
  have eb := oE_b (f := f) (n := n) (p := p + 1) (by omega)
  refine x_if_ne (tgt := 11) dX4_readNumber_6 (by decide) ⟨by omega, by omega⟩ (fun hb6 => ?_) (fun h => (h (by omega)).elim)
  refine x_aload_n dX4_readNumber_11 rfl ?_
  refine c_RX4_57d dX4_readNumber_12 rfl (kX4_endOfToken hO hn1 hf1 n0 n1 fr hp1 (by omega) (by omega)) (by assumption) (Nat.le_of_ble_eq_true rfl) (Nat.le_of_ble_eq_true rfl) ⟨Nat.le_refl _, Nat.le_refl _⟩ ?_
  refine x_istore_n dX4_readNumber_15 (by decide) ?_
  show JX _ _ _ _ _ _ _ _ _ _ _ [_, _, _, _, _, _, _] _ _
  refine x_iload_n dX4_readNumber_16 rfl ?_
  refine x_aload_n dX4_readNumber_17 rfl ?_
  refine gf_RX4_19 dX4_readNumber_18 rfl (by assumption) ?_
  rw [hp1]
  refine x_ic_eq (tgt := 34) dX4_readNumber_21 (by decide) ⟨by omega, by omega⟩ ⟨by omega, by omega⟩ (fun hb21 => ?_) (fun hb21 => ?_)
  · refine x_iconst dX4_readNumber_34 ?_
    exact x_ireturn dX4_readNumber_35 rfl rfl ⟨Nat.le_refl _, Nat.le_refl _⟩ ⟨rfl, _, rfl, by unfold oNm; rw [if_pos h, if_pos hb]; exact ⟨rfl, g⟩⟩
  · refine x_iload_n dX4_readNumber_24 rfl ?_
    refine x_aload_n dX4_readNumber_25 rfl ?_
    refine gf_RX4_19 dX4_readNumber_26 rfl (by assumption) ?_
    rw [hp1]
    refine x_isub dX4_readNumber_29 ?_
    refine x_iconst dX4_readNumber_30 ?_
    refine x_ic_le (tgt := 36) dX4_readNumber_31 (by decide) ⟨by omega, by omega⟩ ⟨by omega, by omega⟩ (fun h => absurd h (by omega)) (fun hb31 => ?_)
    refine x_iconst dX4_readNumber_34 ?_
    exact x_ireturn dX4_readNumber_35 rfl rfl ⟨Nat.le_refl _, Nat.le_refl _⟩ ⟨rfl, _, rfl, by unfold oNm; rw [if_pos h, if_pos hb]; exact ⟨rfl, g⟩⟩
theorem kX4_readNumber_c {G : JG} {S : JS} {D : JD} {d : Nat} {o n : Int} {f : Int → Int} {p l m : Int} (hO : jOr S o) (hn : D o 1 = n) (hf : D (o + 1) = f) (n0 : 0 ≤ n) (n1 : n ≤ 60) (fr : ∀ z : Int, 0 ≤ f z ∧ f z ≤ 65535) (hp : D o 2 = p) (p0 : 0 ≤ p) (p1 : p ≤ n) (rl : i32 l) (rm : i32 m) (h : p < n ∧ f p = 32) (hb : ¬ (oE f n (p + 1) = p + 1 ∨ 3 < oE f n (p + 1) - (p + 1))) : JM G yX4_readNumber cX4_readNumber 7 (some .int) (d + 2) (0, 0) S D [.inr (.inr (some o)), .inl l, .inl m] (jrP S (fun w D2 => jNu D D2 o (oNm f n p l m) w)) := by
  obtain ⟨ok, ot, tk, tl⟩ := id hO
  show JX _ _ _ _ _ _ _ _ _ _ _ [_, _, _, _, _, _, _] _ _
  refine x_aload_n dX4_readNumber_0 rfl ?_
  refine x_bipush dX4_readNumber_1 (by decide) ?_
  refine c_RX4_42p dX4_readNumber_3 rfl (kX4_readSign hO hn hf n0 n1 fr hp p0 p1 ⟨by omega, by omega⟩) (by assumption) (Nat.le_of_ble_eq_true rfl) (Nat.le_of_ble_eq_true rfl) ⟨Nat.le_refl _, Nat.le_refl _⟩ (fun w1 D1 h1 => ?_)
  obtain ⟨hw, g⟩ := h1
  subst hw
  rw [if_pos h]
  rw [if_pos h] at g
  have hn1 : D1 o 1 = n := by rw [g.n (by omega)]; exact hn
  have hf1 : D1 (o + 1) = f := by rw [g.x (by omega)]; exact hf
  have hp1 : D1 o 2 = p + 1 := g.1
  have eb := oE_b (f := f) (n := n) (p := p + 1) (by omega)
  refine x_if_ne (tgt := 11) dX4_readNumber_6 (by decide) ⟨by omega, by omega⟩ (fun hb6 => ?_) (fun h => (h (by omega)).elim)
  refine x_aload_n dX4_readNumber_11 rfl ?_
  refine c_RX4_57d dX4_readNumber_12 rfl (kX4_endOfToken hO hn1 hf1 n0 n1 fr hp1 (by omega) (by omega)) (by assumption) (Nat.le_of_ble_eq_true rfl) (Nat.le_of_ble_eq_true rfl) ⟨Nat.le_refl _, Nat.le_refl _⟩ ?_
  refine x_istore_n dX4_readNumber_15 (by decide) ?_
  show JX _ _ _ _ _ _ _ _ _ _ _ [_, _, _, _, _, _, _] _ _
  refine x_iload_n dX4_readNumber_16 rfl ?_
  refine x_aload_n dX4_readNumber_17 rfl ?_
  refine gf_RX4_19 dX4_readNumber_18 rfl (by assumption) ?_
  rw [hp1]
  refine x_ic_eq (tgt := 34) dX4_readNumber_21 (by decide) ⟨by omega, by omega⟩ ⟨by omega, by omega⟩ (fun h => absurd h (by omega)) (fun hb21 => ?_)
  refine x_iload_n dX4_readNumber_24 rfl ?_
  refine x_aload_n dX4_readNumber_25 rfl ?_
  refine gf_RX4_19 dX4_readNumber_26 rfl (by assumption) ?_
  rw [hp1]
  refine x_isub dX4_readNumber_29 ?_
  refine x_iconst dX4_readNumber_30 ?_
  refine x_ic_le (tgt := 36) dX4_readNumber_31 (by decide) ⟨by omega, by omega⟩ ⟨by omega, by omega⟩ (fun hb31 => ?_) (fun h => (h (by omega)).elim)
  refine x_iconst dX4_readNumber_36 ?_
  refine x_istore dX4_readNumber_37 (by decide) ?_
  show JX _ _ _ _ _ _ _ _ _ _ _ [_, _, _, _, _, _, _] _ _
  refine x_aload_n dX4_readNumber_39 rfl ?_
  refine gf_RX4_19 dX4_readNumber_40 rfl (by assumption) ?_
  rw [hp1]
  refine x_istore dX4_readNumber_43 (by decide) ?_
  show JX _ _ _ _ _ _ _ _ _ _ _ [_, _, _, _, _, _, _] _ _
  refine (dig_loop (D := D1) hO hn1 hf1 n0 n1 fr rl rm eb.2 (oE f n (p + 1) - (p + 1)).toNat (p + 1) 0 _ (by omega) (by omega) (by omega)).mono ?_
  rintro v9 S2 D2 ⟨rfl, w, rfl, hq⟩
  refine ⟨rfl, w, rfl, ?_⟩
  unfold oNm
  rw [if_pos h, if_neg hb]
  cases hd : oDg f (oE f n (p + 1) - (p + 1)).toNat (p + 1) 0 with
  | none =>
    rw [hd] at hq
    obtain ⟨rfl, rfl⟩ := hq
    exact ⟨rfl, g⟩
  | some v =>
    rw [hd] at hq
    have hq2 : (if l ≤ v ∧ v ≤ m then w = .inl v ∧ jPo D1 D2 o (oE f n (p + 1)) else w = .inl (-1) ∧ D2 = D1) := hq
    show jNu D D2 o (if l ≤ v ∧ v ≤ m then (some v, oE f n (p + 1)) else (none, p + 1)) w
    by_cases hv : l ≤ v ∧ v ≤ m
    · rw [if_pos hv] at hq2 ⊢
      exact ⟨hq2.1, g.to hq2.2⟩
    · rw [if_neg hv] at hq2 ⊢
      obtain ⟨rfl, rfl⟩ := hq2
      exact ⟨rfl, g⟩
theorem kX4_readNumber {G : JG} {S : JS} {D : JD} {d : Nat} {o n : Int} {f : Int → Int} {p l m : Int} (hO : jOr S o) (hn : D o 1 = n) (hf : D (o + 1) = f) (n0 : 0 ≤ n) (n1 : n ≤ 60) (fr : ∀ z : Int, 0 ≤ f z ∧ f z ≤ 65535) (hp : D o 2 = p) (p0 : 0 ≤ p) (p1 : p ≤ n) (rl : i32 l) (rm : i32 m) : JM G yX4_readNumber cX4_readNumber 7 (some .int) (d + 2) (0, 0) S D [.inr (.inr (some o)), .inl l, .inl m] (jrP S (fun w D2 => jNu D D2 o (oNm f n p l m) w)) := by
  by_cases h : p < n ∧ f p = 32
  · by_cases hb : oE f n (p + 1) = p + 1 ∨ 3 < oE f n (p + 1) - (p + 1)
    · exact kX4_readNumber_b hO hn hf n0 n1 fr hp p0 p1 rl rm h hb
    · exact kX4_readNumber_c hO hn hf n0 n1 fr hp p0 p1 rl rm h hb
  · exact kX4_readNumber_a hO hn hf n0 n1 fr hp p0 p1 rl rm h
def jFs (D D2 : JD) (o k : Int) (x : Option Int × Int) (w : JV) : Prop := (match x.1 with
  | some v => w = .inl 1 ∧ D2 o k = v
  | none => w = .inl 0) ∧ D2 o 2 = x.2 ∧ ∀ y z : Int, ¬ (y = o ∧ (z = 2 ∨ z = k)) → D2 y z = D y z
theorem jFs.mk {D D1 D2 : JD} {o k v : Int} {x : Option Int × Int} {w : JV} (g : jPo D D1 o x.2) (hk : k ≠ 2) (h2 : D2 = jup D1 o k v) (hw : match x.1 with
  | some u => w = .inl 1 ∧ v = u
  | none => w = .inl 0) : jFs D D2 o k x w := by
  subst h2
  refine ⟨?_, by rw [jup_nk (by omega)]; exact g.1, fun y z h => ?_⟩
  · cases hx : x.1 with
    | none => rw [hx] at hw; exact hw
    | some u => rw [hx] at hw; exact ⟨hw.1, by rw [jup_eq]; exact hw.2⟩
  · by_cases q : y = o
    · rw [q, jup_nk (fun w => h ⟨q, Or.inr w⟩)]; exact g.2 o z (fun w => h ⟨q, Or.inl w.2⟩)
    · rw [jup_ne q]; exact g.2 y z (fun w => q w.1)
theorem kX4_readFirst_n {G : JG} {S : JS} {D : JD} {d : Nat} {o n : Int} {f : Int → Int} {p m q : Int} (hO : jOr S o) (hn : D o 1 = n) (hf : D (o + 1) = f) (n0 : 0 ≤ n) (n1 : n ≤ 60) (fr : ∀ z : Int, 0 ≤ f z ∧ f z ≤ 65535) (hp : D o 2 = p) (p0 : 0 ≤ p) (p1 : p ≤ n) (rm : i32 m) (hx : oNm f n p 0 m = (none, q)) : JM G yX4_readFirst cX4_readFirst 2 (some .boolean) (d + 3) (0, 0) S D [.inr (.inr (some o)), .inl m] (jrP S (fun w D2 => jFs D D2 o 4 (oNm f n p 0 m) w)) := by
  obtain ⟨ok, ot, tk, tl⟩ := id hO
  show JX _ _ _ _ _ _ _ _ _ _ _ [_, _] _ _
  refine x_aload_n dX4_readFirst_0 rfl ?_
  refine x_aload_n dX4_readFirst_1 rfl ?_
  refine x_iconst dX4_readFirst_2 ?_
  refine x_iload_n dX4_readFirst_3 rfl ?_
  refine c_RX4_69p dX4_readFirst_4 rfl (kX4_readNumber hO hn hf n0 n1 fr hp p0 p1 ⟨by omega, by omega⟩ rm) (by assumption) (Nat.le_of_ble_eq_true rfl) (Nat.le_of_ble_eq_true rfl) ⟨Nat.le_refl _, Nat.le_refl _⟩ (fun w1 D1 h1 => ?_)
  obtain ⟨hw, g⟩ := h1
  subst hw
  rw [hx] at g ⊢
  refine pf_RX4_25 dX4_readFirst_7 rfl (by assumption) ?_
  refine x_aload_n dX4_readFirst_10 rfl ?_
  refine gf_RX4_25 dX4_readFirst_11 rfl (by assumption) ?_
  rw [jup_eq]
  dsimp only [oNv]
  refine x_iconst dX4_readFirst_14 ?_
  refine x_ic_eq (tgt := 22) dX4_readFirst_15 (by decide) ⟨by omega, by omega⟩ ⟨by omega, by omega⟩ (fun hb15 => ?_) (fun h => (h (by omega)).elim)
  refine x_iconst dX4_readFirst_22 ?_
  exact x_ireturn dX4_readFirst_23 rfl (jbool (by first | exact Or.inl rfl | exact Or.inr rfl)).1 ⟨Nat.le_refl _, Nat.le_refl _⟩ ⟨rfl, _, rfl, jFs.mk (x := (none, q)) g (by omega) rfl rfl⟩
theorem kX4_readFirst_y {G : JG} {S : JS} {D : JD} {d : Nat} {o n : Int} {f : Int → Int} {p m q : Int} {v : Int} (hO : jOr S o) (hn : D o 1 = n) (hf : D (o + 1) = f) (n0 : 0 ≤ n) (n1 : n ≤ 60) (fr : ∀ z : Int, 0 ≤ f z ∧ f z ≤ 65535) (hp : D o 2 = p) (p0 : 0 ≤ p) (p1 : p ≤ n) (rm : i32 m) (hx : oNm f n p 0 m = (some v, q)) : JM G yX4_readFirst cX4_readFirst 2 (some .boolean) (d + 3) (0, 0) S D [.inr (.inr (some o)), .inl m] (jrP S (fun w D2 => jFs D D2 o 4 (oNm f n p 0 m) w)) := by
  obtain ⟨ok, ot, tk, tl⟩ := id hO
  show JX _ _ _ _ _ _ _ _ _ _ _ [_, _] _ _
  refine x_aload_n dX4_readFirst_0 rfl ?_
  refine x_aload_n dX4_readFirst_1 rfl ?_
  refine x_iconst dX4_readFirst_2 ?_
  refine x_iload_n dX4_readFirst_3 rfl ?_
  refine c_RX4_69p dX4_readFirst_4 rfl (kX4_readNumber hO hn hf n0 n1 fr hp p0 p1 ⟨by omega, by omega⟩ rm) (by assumption) (Nat.le_of_ble_eq_true rfl) (Nat.le_of_ble_eq_true rfl) ⟨Nat.le_refl _, Nat.le_refl _⟩ (fun w1 D1 h1 => ?_)
  obtain ⟨hw, g⟩ := h1
  subst hw
  have vb := oNm_b p1 hx
  rw [hx] at g ⊢
  refine pf_RX4_25 dX4_readFirst_7 rfl (by assumption) ?_
  refine x_aload_n dX4_readFirst_10 rfl ?_
  refine gf_RX4_25 dX4_readFirst_11 rfl (by assumption) ?_
  rw [jup_eq]
  dsimp only [oNv]
  refine x_iconst dX4_readFirst_14 ?_
  refine x_ic_eq (tgt := 22) dX4_readFirst_15 (by decide) ⟨by omega, by omega⟩ ⟨by omega, by omega⟩ (fun h => absurd h (by omega)) (fun hb15 => ?_)
  refine x_iconst dX4_readFirst_18 ?_
  refine x_goto (tgt := 23) dX4_readFirst_19 (by decide) ?_
  exact x_ireturn dX4_readFirst_23 rfl (jbool (by first | exact Or.inl rfl | exact Or.inr rfl)).1 ⟨Nat.le_refl _, Nat.le_refl _⟩ ⟨rfl, _, rfl, jFs.mk (x := (some v, q)) g (by omega) rfl ⟨rfl, rfl⟩⟩
theorem kX4_readFirst {G : JG} {S : JS} {D : JD} {d : Nat} {o n : Int} {f : Int → Int} {p m : Int} (hO : jOr S o) (hn : D o 1 = n) (hf : D (o + 1) = f) (n0 : 0 ≤ n) (n1 : n ≤ 60) (fr : ∀ z : Int, 0 ≤ f z ∧ f z ≤ 65535) (hp : D o 2 = p) (p0 : 0 ≤ p) (p1 : p ≤ n) (rm : i32 m) : JM G yX4_readFirst cX4_readFirst 2 (some .boolean) (d + 3) (0, 0) S D [.inr (.inr (some o)), .inl m] (jrP S (fun w D2 => jFs D D2 o 4 (oNm f n p 0 m) w)) := by
  cases hx : oNm f n p 0 m with
  | mk x q =>
    rw [← hx]
    cases x with
    | none => exact kX4_readFirst_n hO hn hf n0 n1 fr hp p0 p1 rm hx
    | some v => exact kX4_readFirst_y hO hn hf n0 n1 fr hp p0 p1 rm hx
theorem kX4_readSecond_n {G : JG} {S : JS} {D : JD} {d : Nat} {o n : Int} {f : Int → Int} {p l m q : Int} (hO : jOr S o) (hn : D o 1 = n) (hf : D (o + 1) = f) (n0 : 0 ≤ n) (n1 : n ≤ 60) (fr : ∀ z : Int, 0 ≤ f z ∧ f z ≤ 65535) (hp : D o 2 = p) (p0 : 0 ≤ p) (p1 : p ≤ n) (l0 : 0 ≤ l) (rl : i32 l) (rm : i32 m) (hx : oNm f n p l m = (none, q)) : JM G yX4_readSecond cX4_readSecond 3 (some .boolean) (d + 3) (0, 0) S D [.inr (.inr (some o)), .inl l, .inl m] (jrP S (fun w D2 => jFs D D2 o 5 (oNm f n p l m) w)) := by
  obtain ⟨ok, ot, tk, tl⟩ := id hO
  show JX _ _ _ _ _ _ _ _ _ _ _ [_, _, _] _ _
  refine x_aload_n dX4_readSecond_0 rfl ?_
  refine x_aload_n dX4_readSecond_1 rfl ?_
  refine x_iload_n dX4_readSecond_2 rfl ?_
  refine x_iload_n dX4_readSecond_3 rfl ?_
  refine c_RX4_69p dX4_readSecond_4 rfl (kX4_readNumber hO hn hf n0 n1 fr hp p0 p1 ⟨by omega, by omega⟩ rm) (by assumption) (Nat.le_of_ble_eq_true rfl) (Nat.le_of_ble_eq_true rfl) ⟨Nat.le_refl _, Nat.le_refl _⟩ (fun w1 D1 h1 => ?_)
  obtain ⟨hw, g⟩ := h1
  subst hw
  rw [hx] at g ⊢
  refine pf_RX4_28 dX4_readSecond_7 rfl (by assumption) ?_
  refine x_aload_n dX4_readSecond_10 rfl ?_
  refine gf_RX4_28 dX4_readSecond_11 rfl (by assumption) ?_
  rw [jup_eq]
  dsimp only [oNv]
  refine x_iconst dX4_readSecond_14 ?_
  refine x_ic_eq (tgt := 22) dX4_readSecond_15 (by decide) ⟨by omega, by omega⟩ ⟨by omega, by omega⟩ (fun hb15 => ?_) (fun h => (h (by omega)).elim)
  refine x_iconst dX4_readSecond_22 ?_
  exact x_ireturn dX4_readSecond_23 rfl (jbool (by first | exact Or.inl rfl | exact Or.inr rfl)).1 ⟨Nat.le_refl _, Nat.le_refl _⟩ ⟨rfl, _, rfl, jFs.mk (x := (none, q)) g (by omega) rfl rfl⟩
theorem kX4_readSecond_y {G : JG} {S : JS} {D : JD} {d : Nat} {o n : Int} {f : Int → Int} {p l m q : Int} {v : Int} (hO : jOr S o) (hn : D o 1 = n) (hf : D (o + 1) = f) (n0 : 0 ≤ n) (n1 : n ≤ 60) (fr : ∀ z : Int, 0 ≤ f z ∧ f z ≤ 65535) (hp : D o 2 = p) (p0 : 0 ≤ p) (p1 : p ≤ n) (l0 : 0 ≤ l) (rl : i32 l) (rm : i32 m) (hx : oNm f n p l m = (some v, q)) : JM G yX4_readSecond cX4_readSecond 3 (some .boolean) (d + 3) (0, 0) S D [.inr (.inr (some o)), .inl l, .inl m] (jrP S (fun w D2 => jFs D D2 o 5 (oNm f n p l m) w)) := by
  obtain ⟨ok, ot, tk, tl⟩ := id hO
  show JX _ _ _ _ _ _ _ _ _ _ _ [_, _, _] _ _
  refine x_aload_n dX4_readSecond_0 rfl ?_
  refine x_aload_n dX4_readSecond_1 rfl ?_
  refine x_iload_n dX4_readSecond_2 rfl ?_
  refine x_iload_n dX4_readSecond_3 rfl ?_
  refine c_RX4_69p dX4_readSecond_4 rfl (kX4_readNumber hO hn hf n0 n1 fr hp p0 p1 ⟨by omega, by omega⟩ rm) (by assumption) (Nat.le_of_ble_eq_true rfl) (Nat.le_of_ble_eq_true rfl) ⟨Nat.le_refl _, Nat.le_refl _⟩ (fun w1 D1 h1 => ?_)
  obtain ⟨hw, g⟩ := h1
  subst hw
  have vb := oNm_b p1 hx
  rw [hx] at g ⊢
  refine pf_RX4_28 dX4_readSecond_7 rfl (by assumption) ?_
  refine x_aload_n dX4_readSecond_10 rfl ?_
  refine gf_RX4_28 dX4_readSecond_11 rfl (by assumption) ?_
  rw [jup_eq]
  dsimp only [oNv]
  refine x_iconst dX4_readSecond_14 ?_
  refine x_ic_eq (tgt := 22) dX4_readSecond_15 (by decide) ⟨by omega, by omega⟩ ⟨by omega, by omega⟩ (fun h => absurd h (by omega)) (fun hb15 => ?_)
  refine x_iconst dX4_readSecond_18 ?_
  refine x_goto (tgt := 23) dX4_readSecond_19 (by decide) ?_
  exact x_ireturn dX4_readSecond_23 rfl (jbool (by first | exact Or.inl rfl | exact Or.inr rfl)).1 ⟨Nat.le_refl _, Nat.le_refl _⟩ ⟨rfl, _, rfl, jFs.mk (x := (some v, q)) g (by omega) rfl ⟨rfl, rfl⟩⟩
theorem kX4_readSecond {G : JG} {S : JS} {D : JD} {d : Nat} {o n : Int} {f : Int → Int} {p l m : Int} (hO : jOr S o) (hn : D o 1 = n) (hf : D (o + 1) = f) (n0 : 0 ≤ n) (n1 : n ≤ 60) (fr : ∀ z : Int, 0 ≤ f z ∧ f z ≤ 65535) (hp : D o 2 = p) (p0 : 0 ≤ p) (p1 : p ≤ n) (l0 : 0 ≤ l) (rl : i32 l) (rm : i32 m) : JM G yX4_readSecond cX4_readSecond 3 (some .boolean) (d + 3) (0, 0) S D [.inr (.inr (some o)), .inl l, .inl m] (jrP S (fun w D2 => jFs D D2 o 5 (oNm f n p l m) w)) := by
  cases hx : oNm f n p l m with
  | mk x q =>
    rw [← hx]
    cases x with
    | none => exact kX4_readSecond_n hO hn hf n0 n1 fr hp p0 p1 l0 rl rm hx
    | some v => exact kX4_readSecond_y hO hn hf n0 n1 fr hp p0 p1 l0 rl rm hx
