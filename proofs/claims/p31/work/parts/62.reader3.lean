/-! THE CLASS: orders, the first fault -/
def jRo (D D2 : JD) (o : Int) (res : Option oOrd × Int) (w : JV) : Prop := D2 o 2 = res.2 ∧ (∀ x k : Int, ¬ (x = o ∧ 2 ≤ k ∧ k ≤ 5) → D2 x k = D x k) ∧ match res.1 with
  | some t => w = .inl 1 ∧ D2 o 3 = t.1 ∧ D2 o 4 = t.2.1 ∧ (t.1 ≠ 2 → D2 o 5 = t.2.2)
  | none => w = .inl 0
theorem ord_no {G : JG} {S : JS} {D : JD} {d : Nat} {o n : Int} {f : Int → Int} {p : Int} (hO : jOr S o) (hn : D o 1 = n) (hf : D (o + 1) = f) (n0 : 0 ≤ n) (n1 : n ≤ 60) (fr : ∀ z : Int, 0 ≤ f z ∧ f z ≤ 65535) (hp : D o 2 = p) (p0 : 0 ≤ p) (p1 : p ≤ n) (hW : oW f p (oE f n p) = -1) : JX G yX4_readOrder cX4_readOrder 1 (some .boolean) (d + 8) (0, 0) (0, 0) S D 18 [some (.inr (.inr (some o)))] [] (jrP S (fun w D2 => jRo D D2 o (oRd f n p) w)) := by
  have hres : oRd f n p = (none, p) := by unfold oRd; rw [if_pos (by rw [hW]; decide)]
  rw [hres]
  obtain ⟨ok, ot, tk, tl⟩ := id hO
  refine x_aload_n dX4_readOrder_18 rfl ?_
  refine c_RX4_46p dX4_readOrder_19 rfl (kX4_readVerb hO hn hf n0 n1 fr hp p0 p1) (by assumption) (Nat.le_of_ble_eq_true rfl) (Nat.le_of_ble_eq_true rfl) ⟨Nat.le_refl _, Nat.le_refl _⟩ (fun D1 h1 => ?_)
  obtain ⟨v3, v2, vX⟩ := h1
  rw [hW] at v3 v2
  rw [if_pos rfl] at v2
  refine x_aload_n dX4_readOrder_22 rfl ?_
  refine gf_RX4_22 dX4_readOrder_23 rfl (by assumption) ?_
  rw [v3]
  refine x_switch (tgt := 147) dX4_readOrder_26 ⟨by omega, by omega⟩ (by decide) (by decide) ?_
  refine x_iconst dX4_readOrder_147 ?_
  exact x_ireturn dX4_readOrder_148 rfl (jbool (by first | exact Or.inl rfl | exact Or.inr rfl)).1 ⟨Nat.le_refl _, Nat.le_refl _⟩ ⟨rfl, _, rfl, v2, fun x k h => vX x k (fun w => h ⟨w.1, by have := w.2; omega, by have := w.2; omega⟩), rfl⟩
theorem ord_0_n {G : JG} {S : JS} {D : JD} {d : Nat} {o n : Int} {f : Int → Int} {p q : Int} (hO : jOr S o) (hn : D o 1 = n) (hf : D (o + 1) = f) (n0 : 0 ≤ n) (n1 : n ≤ 60) (fr : ∀ z : Int, 0 ≤ f z ∧ f z ≤ 65535) (hp : D o 2 = p) (p0 : 0 ≤ p) (p1 : p ≤ n) (hW : oW f p (oE f n p) = 0) (hx : oNm f n (oE f n p) 0 3 = (none, q)) : JX G yX4_readOrder cX4_readOrder 1 (some .boolean) (d + 8) (0, 0) (0, 0) S D 18 [some (.inr (.inr (some o)))] [] (jrP S (fun w D2 => jRo D D2 o (oRd f n p) w)) := by
  have hres : oRd f n p = (none, q) := by
    unfold oRd
    rw [if_neg (by rw [hW]; decide), hW]
    unfold oAr
    rw [show oM1 0 = 3 from rfl, hx]
  rw [hres]
  obtain ⟨ok, ot, tk, tl⟩ := id hO
  have eb := oE_b (f := f) p1
  refine x_aload_n dX4_readOrder_18 rfl ?_
  refine c_RX4_46p dX4_readOrder_19 rfl (kX4_readVerb hO hn hf n0 n1 fr hp p0 p1) (by assumption) (Nat.le_of_ble_eq_true rfl) (Nat.le_of_ble_eq_true rfl) ⟨Nat.le_refl _, Nat.le_refl _⟩ (fun D1 h1 => ?_)
  obtain ⟨v3, v2, vX⟩ := h1
  rw [hW] at v3 v2
  rw [if_neg (by decide)] at v2
  have hp1 : D1 o 2 = oE f n p := v2
  have hn1 : D1 o 1 = n := by rw [vX o 1 (by omega)]; exact hn
  have hf1 : D1 (o + 1) = f := by rw [← hf]; funext z; exact vX _ z (by omega)
  refine x_aload_n dX4_readOrder_22 rfl ?_
  refine gf_RX4_22 dX4_readOrder_23 rfl (by assumption) ?_
  rw [v3]
  refine x_switch (tgt := 68) dX4_readOrder_26 ⟨by omega, by omega⟩ (by decide) (by decide) ?_
  refine x_aload_n dX4_readOrder_68 rfl ?_
  refine x_iconst dX4_readOrder_69 ?_
  refine c_RX4_49p dX4_readOrder_70 rfl (kX4_readFirst hO hn1 hf1 n0 n1 fr hp1 (by omega) (by omega) ⟨by omega, by omega⟩) (by assumption) (Nat.le_of_ble_eq_true rfl) (Nat.le_of_ble_eq_true rfl) ⟨Nat.le_refl _, Nat.le_refl _⟩ (fun w2 D2 h2 => ?_)
  obtain ⟨q1, q2, q3⟩ := h2
  rw [hx] at q1 q2
  replace q1 : w2 = .inl 0 := q1
  subst q1
  refine x_if_eq (tgt := 89) dX4_readOrder_73 (by decide) ⟨by omega, by omega⟩ (fun hb73 => ?_) (fun h => (h (by omega)).elim)
  refine x_iconst dX4_readOrder_89 ?_
  exact x_ireturn dX4_readOrder_90 rfl (jbool (by first | exact Or.inl rfl | exact Or.inr rfl)).1 ⟨Nat.le_refl _, Nat.le_refl _⟩ ⟨rfl, _, rfl, q2, fun x k h => by rw [q3 x k (fun w => h ⟨w.1, by have := w.2; omega, by have := w.2; omega⟩), vX x k (fun w => h ⟨w.1, by have := w.2; omega, by have := w.2; omega⟩)], rfl⟩
theorem ord_0_yn {G : JG} {S : JS} {D : JD} {d : Nat} {o n : Int} {f : Int → Int} {p q a q5 : Int} (hO : jOr S o) (hn : D o 1 = n) (hf : D (o + 1) = f) (n0 : 0 ≤ n) (n1 : n ≤ 60) (fr : ∀ z : Int, 0 ≤ f z ∧ f z ≤ 65535) (hp : D o 2 = p) (p0 : 0 ≤ p) (p1 : p ≤ n) (hW : oW f p (oE f n p) = 0) (hx : oNm f n (oE f n p) 0 3 = (some a, q)) (hy : oNm f n q 0 1 = (none, q5)) : JX G yX4_readOrder cX4_readOrder 1 (some .boolean) (d + 8) (0, 0) (0, 0) S D 18 [some (.inr (.inr (some o)))] [] (jrP S (fun w D2 => jRo D D2 o (oRd f n p) w)) := by
  have hres : oRd f n p = (none, q5) := by
    unfold oRd
    rw [if_neg (by rw [hW]; decide), hW]
    unfold oAr
    rw [show oM1 0 = 3 from rfl, hx]
    show (if (0 : Int) = 2 then ((some (0, a, 0), q) : Option oOrd × Int) else match oNm f n q (oL2 0) (oM2 0) with | (none, q2) => (none, q2) | (some b, q2) => (some (0, a, b), q2)) = _
    rw [if_neg (by decide), show oL2 0 = 0 from rfl, show oM2 0 = 1 from rfl, hy]
  rw [hres]
  obtain ⟨ok, ot, tk, tl⟩ := id hO
  have eb := oE_b (f := f) p1
  refine x_aload_n dX4_readOrder_18 rfl ?_
  refine c_RX4_46p dX4_readOrder_19 rfl (kX4_readVerb hO hn hf n0 n1 fr hp p0 p1) (by assumption) (Nat.le_of_ble_eq_true rfl) (Nat.le_of_ble_eq_true rfl) ⟨Nat.le_refl _, Nat.le_refl _⟩ (fun D1 h1 => ?_)
  obtain ⟨v3, v2, vX⟩ := h1
  rw [hW] at v3 v2
  rw [if_neg (by decide)] at v2
  have hp1 : D1 o 2 = oE f n p := v2
  have hn1 : D1 o 1 = n := by rw [vX o 1 (by omega)]; exact hn
  have hf1 : D1 (o + 1) = f := by rw [← hf]; funext z; exact vX _ z (by omega)
  refine x_aload_n dX4_readOrder_22 rfl ?_
  refine gf_RX4_22 dX4_readOrder_23 rfl (by assumption) ?_
  rw [v3]
  refine x_switch (tgt := 68) dX4_readOrder_26 ⟨by omega, by omega⟩ (by decide) (by decide) ?_
  refine x_aload_n dX4_readOrder_68 rfl ?_
  refine x_iconst dX4_readOrder_69 ?_
  refine c_RX4_49p dX4_readOrder_70 rfl (kX4_readFirst hO hn1 hf1 n0 n1 fr hp1 (by omega) (by omega) ⟨by omega, by omega⟩) (by assumption) (Nat.le_of_ble_eq_true rfl) (Nat.le_of_ble_eq_true rfl) ⟨Nat.le_refl _, Nat.le_refl _⟩ (fun w2 D2 h2 => ?_)
  obtain ⟨q1, q2, q3⟩ := h2
  rw [hx] at q1 q2
  obtain ⟨q1, q4⟩ := (q1 : w2 = .inl 1 ∧ D2 o 4 = a)
  subst q1
  replace q2 : D2 o 2 = q := q2
  have qb := oNm_b eb.2 hx
  have hp2 : D2 o 2 = q := q2
  have hn2 : D2 o 1 = n := by rw [q3 o 1 (by omega)]; exact hn1
  have hf2 : D2 (o + 1) = f := by rw [← hf1]; funext z; exact q3 _ z (by omega)
  refine x_if_eq (tgt := 89) dX4_readOrder_73 (by decide) ⟨by omega, by omega⟩ (fun h => absurd h (by omega)) (fun hb73 => ?_)
  refine x_aload_n dX4_readOrder_76 rfl ?_
  refine x_iconst dX4_readOrder_77 ?_
  refine x_iconst dX4_readOrder_78 ?_
  refine c_RX4_53p dX4_readOrder_79 rfl (kX4_readSecond hO hn2 hf2 n0 n1 fr hp2 (by omega) (by omega) (by omega) ⟨by omega, by omega⟩ ⟨by omega, by omega⟩) (by assumption) (Nat.le_of_ble_eq_true rfl) (Nat.le_of_ble_eq_true rfl) ⟨Nat.le_refl _, Nat.le_refl _⟩ (fun w3 D3 h3 => ?_)
  obtain ⟨z1, z2, z3⟩ := h3
  rw [hy] at z1 z2
  replace z1 : w3 = .inl 0 := z1
  subst z1
  refine x_if_eq (tgt := 89) dX4_readOrder_82 (by decide) ⟨by omega, by omega⟩ (fun hb82 => ?_) (fun h => (h (by omega)).elim)
  refine x_iconst dX4_readOrder_89 ?_
  exact x_ireturn dX4_readOrder_90 rfl (jbool (by first | exact Or.inl rfl | exact Or.inr rfl)).1 ⟨Nat.le_refl _, Nat.le_refl _⟩ ⟨rfl, _, rfl, z2, fun x k h => by rw [z3 x k (fun w => h ⟨w.1, by have := w.2; omega, by have := w.2; omega⟩), q3 x k (fun w => h ⟨w.1, by have := w.2; omega, by have := w.2; omega⟩), vX x k (fun w => h ⟨w.1, by have := w.2; omega, by have := w.2; omega⟩)], rfl⟩
theorem ord_0_yy {G : JG} {S : JS} {D : JD} {d : Nat} {o n : Int} {f : Int → Int} {p q a q5 b : Int} (hO : jOr S o) (hn : D o 1 = n) (hf : D (o + 1) = f) (n0 : 0 ≤ n) (n1 : n ≤ 60) (fr : ∀ z : Int, 0 ≤ f z ∧ f z ≤ 65535) (hp : D o 2 = p) (p0 : 0 ≤ p) (p1 : p ≤ n) (hW : oW f p (oE f n p) = 0) (hx : oNm f n (oE f n p) 0 3 = (some a, q)) (hy : oNm f n q 0 1 = (some b, q5)) : JX G yX4_readOrder cX4_readOrder 1 (some .boolean) (d + 8) (0, 0) (0, 0) S D 18 [some (.inr (.inr (some o)))] [] (jrP S (fun w D2 => jRo D D2 o (oRd f n p) w)) := by
  have hres : oRd f n p = (some (0, a, b), q5) := by
    unfold oRd
    rw [if_neg (by rw [hW]; decide), hW]
    unfold oAr
    rw [show oM1 0 = 3 from rfl, hx]
    show (if (0 : Int) = 2 then ((some (0, a, 0), q) : Option oOrd × Int) else match oNm f n q (oL2 0) (oM2 0) with | (none, q2) => (none, q2) | (some b, q2) => (some (0, a, b), q2)) = _
    rw [if_neg (by decide), show oL2 0 = 0 from rfl, show oM2 0 = 1 from rfl, hy]
  rw [hres]
  obtain ⟨ok, ot, tk, tl⟩ := id hO
  have eb := oE_b (f := f) p1
  refine x_aload_n dX4_readOrder_18 rfl ?_
  refine c_RX4_46p dX4_readOrder_19 rfl (kX4_readVerb hO hn hf n0 n1 fr hp p0 p1) (by assumption) (Nat.le_of_ble_eq_true rfl) (Nat.le_of_ble_eq_true rfl) ⟨Nat.le_refl _, Nat.le_refl _⟩ (fun D1 h1 => ?_)
  obtain ⟨v3, v2, vX⟩ := h1
  rw [hW] at v3 v2
  rw [if_neg (by decide)] at v2
  have hp1 : D1 o 2 = oE f n p := v2
  have hn1 : D1 o 1 = n := by rw [vX o 1 (by omega)]; exact hn
  have hf1 : D1 (o + 1) = f := by rw [← hf]; funext z; exact vX _ z (by omega)
  refine x_aload_n dX4_readOrder_22 rfl ?_
  refine gf_RX4_22 dX4_readOrder_23 rfl (by assumption) ?_
  rw [v3]
  refine x_switch (tgt := 68) dX4_readOrder_26 ⟨by omega, by omega⟩ (by decide) (by decide) ?_
  refine x_aload_n dX4_readOrder_68 rfl ?_
  refine x_iconst dX4_readOrder_69 ?_
  refine c_RX4_49p dX4_readOrder_70 rfl (kX4_readFirst hO hn1 hf1 n0 n1 fr hp1 (by omega) (by omega) ⟨by omega, by omega⟩) (by assumption) (Nat.le_of_ble_eq_true rfl) (Nat.le_of_ble_eq_true rfl) ⟨Nat.le_refl _, Nat.le_refl _⟩ (fun w2 D2 h2 => ?_)
  obtain ⟨q1, q2, q3⟩ := h2
  rw [hx] at q1 q2
  obtain ⟨q1, q4⟩ := (q1 : w2 = .inl 1 ∧ D2 o 4 = a)
  subst q1
  replace q2 : D2 o 2 = q := q2
  have qb := oNm_b eb.2 hx
  have hp2 : D2 o 2 = q := q2
  have hn2 : D2 o 1 = n := by rw [q3 o 1 (by omega)]; exact hn1
  have hf2 : D2 (o + 1) = f := by rw [← hf1]; funext z; exact q3 _ z (by omega)
  refine x_if_eq (tgt := 89) dX4_readOrder_73 (by decide) ⟨by omega, by omega⟩ (fun h => absurd h (by omega)) (fun hb73 => ?_)
  refine x_aload_n dX4_readOrder_76 rfl ?_
  refine x_iconst dX4_readOrder_77 ?_
  refine x_iconst dX4_readOrder_78 ?_
  refine c_RX4_53p dX4_readOrder_79 rfl (kX4_readSecond hO hn2 hf2 n0 n1 fr hp2 (by omega) (by omega) (by omega) ⟨by omega, by omega⟩ ⟨by omega, by omega⟩) (by assumption) (Nat.le_of_ble_eq_true rfl) (Nat.le_of_ble_eq_true rfl) ⟨Nat.le_refl _, Nat.le_refl _⟩ (fun w3 D3 h3 => ?_)
  obtain ⟨z1, z2, z3⟩ := h3
  rw [hy] at z1 z2
  obtain ⟨z1, z4⟩ := (z1 : w3 = .inl 1 ∧ D3 o 5 = b)
  subst z1
  refine x_if_eq (tgt := 89) dX4_readOrder_82 (by decide) ⟨by omega, by omega⟩ (fun h => absurd h (by omega)) (fun hb82 => ?_)
  refine x_iconst dX4_readOrder_85 ?_
  refine x_goto (tgt := 90) dX4_readOrder_86 (by decide) ?_
  exact x_ireturn dX4_readOrder_90 rfl (jbool (by first | exact Or.inl rfl | exact Or.inr rfl)).1 ⟨Nat.le_refl _, Nat.le_refl _⟩ ⟨rfl, _, rfl, z2, fun x k h => by rw [z3 x k (fun w => h ⟨w.1, by have := w.2; omega, by have := w.2; omega⟩), q3 x k (fun w => h ⟨w.1, by have := w.2; omega, by have := w.2; omega⟩), vX x k (fun w => h ⟨w.1, by have := w.2; omega, by have := w.2; omega⟩)], rfl, by rw [z3 o 3 (by omega), q3 o 3 (by omega)]; exact v3, by rw [z3 o 4 (by omega)]; exact q4, fun _ => z4⟩
theorem ord_1_n {G : JG} {S : JS} {D : JD} {d : Nat} {o n : Int} {f : Int → Int} {p q : Int} (hO : jOr S o) (hn : D o 1 = n) (hf : D (o + 1) = f) (n0 : 0 ≤ n) (n1 : n ≤ 60) (fr : ∀ z : Int, 0 ≤ f z ∧ f z ≤ 65535) (hp : D o 2 = p) (p0 : 0 ≤ p) (p1 : p ≤ n) (hW : oW f p (oE f n p) = 1) (hx : oNm f n (oE f n p) 0 3 = (none, q)) : JX G yX4_readOrder cX4_readOrder 1 (some .boolean) (d + 8) (0, 0) (0, 0) S D 18 [some (.inr (.inr (some o)))] [] (jrP S (fun w D2 => jRo D D2 o (oRd f n p) w)) := by
  have hres : oRd f n p = (none, q) := by
    unfold oRd
    rw [if_neg (by rw [hW]; decide), hW]
    unfold oAr
    rw [show oM1 1 = 3 from rfl, hx]
  rw [hres]
  obtain ⟨ok, ot, tk, tl⟩ := id hO
  have eb := oE_b (f := f) p1
  refine x_aload_n dX4_readOrder_18 rfl ?_
  refine c_RX4_46p dX4_readOrder_19 rfl (kX4_readVerb hO hn hf n0 n1 fr hp p0 p1) (by assumption) (Nat.le_of_ble_eq_true rfl) (Nat.le_of_ble_eq_true rfl) ⟨Nat.le_refl _, Nat.le_refl _⟩ (fun D1 h1 => ?_)
  obtain ⟨v3, v2, vX⟩ := h1
  rw [hW] at v3 v2
  rw [if_neg (by decide)] at v2
  have hp1 : D1 o 2 = oE f n p := v2
  have hn1 : D1 o 1 = n := by rw [vX o 1 (by omega)]; exact hn
  have hf1 : D1 (o + 1) = f := by rw [← hf]; funext z; exact vX _ z (by omega)
  refine x_aload_n dX4_readOrder_22 rfl ?_
  refine gf_RX4_22 dX4_readOrder_23 rfl (by assumption) ?_
  rw [v3]
  refine x_switch (tgt := 68) dX4_readOrder_26 ⟨by omega, by omega⟩ (by decide) (by decide) ?_
  refine x_aload_n dX4_readOrder_68 rfl ?_
  refine x_iconst dX4_readOrder_69 ?_
  refine c_RX4_49p dX4_readOrder_70 rfl (kX4_readFirst hO hn1 hf1 n0 n1 fr hp1 (by omega) (by omega) ⟨by omega, by omega⟩) (by assumption) (Nat.le_of_ble_eq_true rfl) (Nat.le_of_ble_eq_true rfl) ⟨Nat.le_refl _, Nat.le_refl _⟩ (fun w2 D2 h2 => ?_)
  obtain ⟨q1, q2, q3⟩ := h2
  rw [hx] at q1 q2
  replace q1 : w2 = .inl 0 := q1
  subst q1
  refine x_if_eq (tgt := 89) dX4_readOrder_73 (by decide) ⟨by omega, by omega⟩ (fun hb73 => ?_) (fun h => (h (by omega)).elim)
  refine x_iconst dX4_readOrder_89 ?_
  exact x_ireturn dX4_readOrder_90 rfl (jbool (by first | exact Or.inl rfl | exact Or.inr rfl)).1 ⟨Nat.le_refl _, Nat.le_refl _⟩ ⟨rfl, _, rfl, q2, fun x k h => by rw [q3 x k (fun w => h ⟨w.1, by have := w.2; omega, by have := w.2; omega⟩), vX x k (fun w => h ⟨w.1, by have := w.2; omega, by have := w.2; omega⟩)], rfl⟩
theorem ord_1_yn {G : JG} {S : JS} {D : JD} {d : Nat} {o n : Int} {f : Int → Int} {p q a q5 : Int} (hO : jOr S o) (hn : D o 1 = n) (hf : D (o + 1) = f) (n0 : 0 ≤ n) (n1 : n ≤ 60) (fr : ∀ z : Int, 0 ≤ f z ∧ f z ≤ 65535) (hp : D o 2 = p) (p0 : 0 ≤ p) (p1 : p ≤ n) (hW : oW f p (oE f n p) = 1) (hx : oNm f n (oE f n p) 0 3 = (some a, q)) (hy : oNm f n q 0 1 = (none, q5)) : JX G yX4_readOrder cX4_readOrder 1 (some .boolean) (d + 8) (0, 0) (0, 0) S D 18 [some (.inr (.inr (some o)))] [] (jrP S (fun w D2 => jRo D D2 o (oRd f n p) w)) := by
  have hres : oRd f n p = (none, q5) := by
    unfold oRd
    rw [if_neg (by rw [hW]; decide), hW]
    unfold oAr
    rw [show oM1 1 = 3 from rfl, hx]
    show (if (1 : Int) = 2 then ((some (1, a, 0), q) : Option oOrd × Int) else match oNm f n q (oL2 1) (oM2 1) with | (none, q2) => (none, q2) | (some b, q2) => (some (1, a, b), q2)) = _
    rw [if_neg (by decide), show oL2 1 = 0 from rfl, show oM2 1 = 1 from rfl, hy]
  rw [hres]
  obtain ⟨ok, ot, tk, tl⟩ := id hO
  have eb := oE_b (f := f) p1
  refine x_aload_n dX4_readOrder_18 rfl ?_
  refine c_RX4_46p dX4_readOrder_19 rfl (kX4_readVerb hO hn hf n0 n1 fr hp p0 p1) (by assumption) (Nat.le_of_ble_eq_true rfl) (Nat.le_of_ble_eq_true rfl) ⟨Nat.le_refl _, Nat.le_refl _⟩ (fun D1 h1 => ?_)
  obtain ⟨v3, v2, vX⟩ := h1
  rw [hW] at v3 v2
  rw [if_neg (by decide)] at v2
  have hp1 : D1 o 2 = oE f n p := v2
  have hn1 : D1 o 1 = n := by rw [vX o 1 (by omega)]; exact hn
  have hf1 : D1 (o + 1) = f := by rw [← hf]; funext z; exact vX _ z (by omega)
  refine x_aload_n dX4_readOrder_22 rfl ?_
  refine gf_RX4_22 dX4_readOrder_23 rfl (by assumption) ?_
  rw [v3]
  refine x_switch (tgt := 68) dX4_readOrder_26 ⟨by omega, by omega⟩ (by decide) (by decide) ?_
  refine x_aload_n dX4_readOrder_68 rfl ?_
  refine x_iconst dX4_readOrder_69 ?_
  refine c_RX4_49p dX4_readOrder_70 rfl (kX4_readFirst hO hn1 hf1 n0 n1 fr hp1 (by omega) (by omega) ⟨by omega, by omega⟩) (by assumption) (Nat.le_of_ble_eq_true rfl) (Nat.le_of_ble_eq_true rfl) ⟨Nat.le_refl _, Nat.le_refl _⟩ (fun w2 D2 h2 => ?_)
  obtain ⟨q1, q2, q3⟩ := h2
  rw [hx] at q1 q2
  obtain ⟨q1, q4⟩ := (q1 : w2 = .inl 1 ∧ D2 o 4 = a)
  subst q1
  replace q2 : D2 o 2 = q := q2
  have qb := oNm_b eb.2 hx
  have hp2 : D2 o 2 = q := q2
  have hn2 : D2 o 1 = n := by rw [q3 o 1 (by omega)]; exact hn1
  have hf2 : D2 (o + 1) = f := by rw [← hf1]; funext z; exact q3 _ z (by omega)
  refine x_if_eq (tgt := 89) dX4_readOrder_73 (by decide) ⟨by omega, by omega⟩ (fun h => absurd h (by omega)) (fun hb73 => ?_)
  refine x_aload_n dX4_readOrder_76 rfl ?_
  refine x_iconst dX4_readOrder_77 ?_
  refine x_iconst dX4_readOrder_78 ?_
  refine c_RX4_53p dX4_readOrder_79 rfl (kX4_readSecond hO hn2 hf2 n0 n1 fr hp2 (by omega) (by omega) (by omega) ⟨by omega, by omega⟩ ⟨by omega, by omega⟩) (by assumption) (Nat.le_of_ble_eq_true rfl) (Nat.le_of_ble_eq_true rfl) ⟨Nat.le_refl _, Nat.le_refl _⟩ (fun w3 D3 h3 => ?_)
  obtain ⟨z1, z2, z3⟩ := h3
  rw [hy] at z1 z2
  replace z1 : w3 = .inl 0 := z1
  subst z1
  refine x_if_eq (tgt := 89) dX4_readOrder_82 (by decide) ⟨by omega, by omega⟩ (fun hb82 => ?_) (fun h => (h (by omega)).elim)
  refine x_iconst dX4_readOrder_89 ?_
  exact x_ireturn dX4_readOrder_90 rfl (jbool (by first | exact Or.inl rfl | exact Or.inr rfl)).1 ⟨Nat.le_refl _, Nat.le_refl _⟩ ⟨rfl, _, rfl, z2, fun x k h => by rw [z3 x k (fun w => h ⟨w.1, by have := w.2; omega, by have := w.2; omega⟩), q3 x k (fun w => h ⟨w.1, by have := w.2; omega, by have := w.2; omega⟩), vX x k (fun w => h ⟨w.1, by have := w.2; omega, by have := w.2; omega⟩)], rfl⟩
theorem ord_1_yy {G : JG} {S : JS} {D : JD} {d : Nat} {o n : Int} {f : Int → Int} {p q a q5 b : Int} (hO : jOr S o) (hn : D o 1 = n) (hf : D (o + 1) = f) (n0 : 0 ≤ n) (n1 : n ≤ 60) (fr : ∀ z : Int, 0 ≤ f z ∧ f z ≤ 65535) (hp : D o 2 = p) (p0 : 0 ≤ p) (p1 : p ≤ n) (hW : oW f p (oE f n p) = 1) (hx : oNm f n (oE f n p) 0 3 = (some a, q)) (hy : oNm f n q 0 1 = (some b, q5)) : JX G yX4_readOrder cX4_readOrder 1 (some .boolean) (d + 8) (0, 0) (0, 0) S D 18 [some (.inr (.inr (some o)))] [] (jrP S (fun w D2 => jRo D D2 o (oRd f n p) w)) := by
  have hres : oRd f n p = (some (1, a, b), q5) := by
    unfold oRd
    rw [if_neg (by rw [hW]; decide), hW]
    unfold oAr
    rw [show oM1 1 = 3 from rfl, hx]
    show (if (1 : Int) = 2 then ((some (1, a, 0), q) : Option oOrd × Int) else match oNm f n q (oL2 1) (oM2 1) with | (none, q2) => (none, q2) | (some b, q2) => (some (1, a, b), q2)) = _
    rw [if_neg (by decide), show oL2 1 = 0 from rfl, show oM2 1 = 1 from rfl, hy]
  rw [hres]
  obtain ⟨ok, ot, tk, tl⟩ := id hO
  have eb := oE_b (f := f) p1
  refine x_aload_n dX4_readOrder_18 rfl ?_
  refine c_RX4_46p dX4_readOrder_19 rfl (kX4_readVerb hO hn hf n0 n1 fr hp p0 p1) (by assumption) (Nat.le_of_ble_eq_true rfl) (Nat.le_of_ble_eq_true rfl) ⟨Nat.le_refl _, Nat.le_refl _⟩ (fun D1 h1 => ?_)
  obtain ⟨v3, v2, vX⟩ := h1
  rw [hW] at v3 v2
  rw [if_neg (by decide)] at v2
  have hp1 : D1 o 2 = oE f n p := v2
  have hn1 : D1 o 1 = n := by rw [vX o 1 (by omega)]; exact hn
  have hf1 : D1 (o + 1) = f := by rw [← hf]; funext z; exact vX _ z (by omega)
  refine x_aload_n dX4_readOrder_22 rfl ?_
  refine gf_RX4_22 dX4_readOrder_23 rfl (by assumption) ?_
  rw [v3]
  refine x_switch (tgt := 68) dX4_readOrder_26 ⟨by omega, by omega⟩ (by decide) (by decide) ?_
  refine x_aload_n dX4_readOrder_68 rfl ?_
  refine x_iconst dX4_readOrder_69 ?_
  refine c_RX4_49p dX4_readOrder_70 rfl (kX4_readFirst hO hn1 hf1 n0 n1 fr hp1 (by omega) (by omega) ⟨by omega, by omega⟩) (by assumption) (Nat.le_of_ble_eq_true rfl) (Nat.le_of_ble_eq_true rfl) ⟨Nat.le_refl _, Nat.le_refl _⟩ (fun w2 D2 h2 => ?_)
  obtain ⟨q1, q2, q3⟩ := h2
  rw [hx] at q1 q2
  obtain ⟨q1, q4⟩ := (q1 : w2 = .inl 1 ∧ D2 o 4 = a)
  subst q1
  replace q2 : D2 o 2 = q := q2
  have qb := oNm_b eb.2 hx
  have hp2 : D2 o 2 = q := q2
  have hn2 : D2 o 1 = n := by rw [q3 o 1 (by omega)]; exact hn1
  have hf2 : D2 (o + 1) = f := by rw [← hf1]; funext z; exact q3 _ z (by omega)
  refine x_if_eq (tgt := 89) dX4_readOrder_73 (by decide) ⟨by omega, by omega⟩ (fun h => absurd h (by omega)) (fun hb73 => ?_)
  refine x_aload_n dX4_readOrder_76 rfl ?_
  refine x_iconst dX4_readOrder_77 ?_
  refine x_iconst dX4_readOrder_78 ?_
  refine c_RX4_53p dX4_readOrder_79 rfl (kX4_readSecond hO hn2 hf2 n0 n1 fr hp2 (by omega) (by omega) (by omega) ⟨by omega, by omega⟩ ⟨by omega, by omega⟩) (by assumption) (Nat.le_of_ble_eq_true rfl) (Nat.le_of_ble_eq_true rfl) ⟨Nat.le_refl _, Nat.le_refl _⟩ (fun w3 D3 h3 => ?_)
  obtain ⟨z1, z2, z3⟩ := h3
  rw [hy] at z1 z2
  obtain ⟨z1, z4⟩ := (z1 : w3 = .inl 1 ∧ D3 o 5 = b)
  subst z1
  refine x_if_eq (tgt := 89) dX4_readOrder_82 (by decide) ⟨by omega, by omega⟩ (fun h => absurd h (by omega)) (fun hb82 => ?_)
  refine x_iconst dX4_readOrder_85 ?_
  refine x_goto (tgt := 90) dX4_readOrder_86 (by decide) ?_
  exact x_ireturn dX4_readOrder_90 rfl (jbool (by first | exact Or.inl rfl | exact Or.inr rfl)).1 ⟨Nat.le_refl _, Nat.le_refl _⟩ ⟨rfl, _, rfl, z2, fun x k h => by rw [z3 x k (fun w => h ⟨w.1, by have := w.2; omega, by have := w.2; omega⟩), q3 x k (fun w => h ⟨w.1, by have := w.2; omega, by have := w.2; omega⟩), vX x k (fun w => h ⟨w.1, by have := w.2; omega, by have := w.2; omega⟩)], rfl, by rw [z3 o 3 (by omega), q3 o 3 (by omega)]; exact v3, by rw [z3 o 4 (by omega)]; exact q4, fun _ => z4⟩
theorem ord_4_n {G : JG} {S : JS} {D : JD} {d : Nat} {o n : Int} {f : Int → Int} {p q : Int} (hO : jOr S o) (hn : D o 1 = n) (hf : D (o + 1) = f) (n0 : 0 ≤ n) (n1 : n ≤ 60) (fr : ∀ z : Int, 0 ≤ f z ∧ f z ≤ 65535) (hp : D o 2 = p) (p0 : 0 ≤ p) (p1 : p ≤ n) (hW : oW f p (oE f n p) = 4) (hx : oNm f n (oE f n p) 0 3 = (none, q)) : JX G yX4_readOrder cX4_readOrder 1 (some .boolean) (d + 8) (0, 0) (0, 0) S D 18 [some (.inr (.inr (some o)))] [] (jrP S (fun w D2 => jRo D D2 o (oRd f n p) w)) := by
  have hres : oRd f n p = (none, q) := by
    unfold oRd
    rw [if_neg (by rw [hW]; decide), hW]
    unfold oAr
    rw [show oM1 4 = 3 from rfl, hx]
  rw [hres]
  obtain ⟨ok, ot, tk, tl⟩ := id hO
  have eb := oE_b (f := f) p1
  refine x_aload_n dX4_readOrder_18 rfl ?_
  refine c_RX4_46p dX4_readOrder_19 rfl (kX4_readVerb hO hn hf n0 n1 fr hp p0 p1) (by assumption) (Nat.le_of_ble_eq_true rfl) (Nat.le_of_ble_eq_true rfl) ⟨Nat.le_refl _, Nat.le_refl _⟩ (fun D1 h1 => ?_)
  obtain ⟨v3, v2, vX⟩ := h1
  rw [hW] at v3 v2
  rw [if_neg (by decide)] at v2
  have hp1 : D1 o 2 = oE f n p := v2
  have hn1 : D1 o 1 = n := by rw [vX o 1 (by omega)]; exact hn
  have hf1 : D1 (o + 1) = f := by rw [← hf]; funext z; exact vX _ z (by omega)
  refine x_aload_n dX4_readOrder_22 rfl ?_
  refine gf_RX4_22 dX4_readOrder_23 rfl (by assumption) ?_
  rw [v3]
  refine x_switch (tgt := 68) dX4_readOrder_26 ⟨by omega, by omega⟩ (by decide) (by decide) ?_
  refine x_aload_n dX4_readOrder_68 rfl ?_
  refine x_iconst dX4_readOrder_69 ?_
  refine c_RX4_49p dX4_readOrder_70 rfl (kX4_readFirst hO hn1 hf1 n0 n1 fr hp1 (by omega) (by omega) ⟨by omega, by omega⟩) (by assumption) (Nat.le_of_ble_eq_true rfl) (Nat.le_of_ble_eq_true rfl) ⟨Nat.le_refl _, Nat.le_refl _⟩ (fun w2 D2 h2 => ?_)
  obtain ⟨q1, q2, q3⟩ := h2
  rw [hx] at q1 q2
  replace q1 : w2 = .inl 0 := q1
  subst q1
  refine x_if_eq (tgt := 89) dX4_readOrder_73 (by decide) ⟨by omega, by omega⟩ (fun hb73 => ?_) (fun h => (h (by omega)).elim)
  refine x_iconst dX4_readOrder_89 ?_
  exact x_ireturn dX4_readOrder_90 rfl (jbool (by first | exact Or.inl rfl | exact Or.inr rfl)).1 ⟨Nat.le_refl _, Nat.le_refl _⟩ ⟨rfl, _, rfl, q2, fun x k h => by rw [q3 x k (fun w => h ⟨w.1, by have := w.2; omega, by have := w.2; omega⟩), vX x k (fun w => h ⟨w.1, by have := w.2; omega, by have := w.2; omega⟩)], rfl⟩
theorem ord_4_yn {G : JG} {S : JS} {D : JD} {d : Nat} {o n : Int} {f : Int → Int} {p q a q5 : Int} (hO : jOr S o) (hn : D o 1 = n) (hf : D (o + 1) = f) (n0 : 0 ≤ n) (n1 : n ≤ 60) (fr : ∀ z : Int, 0 ≤ f z ∧ f z ≤ 65535) (hp : D o 2 = p) (p0 : 0 ≤ p) (p1 : p ≤ n) (hW : oW f p (oE f n p) = 4) (hx : oNm f n (oE f n p) 0 3 = (some a, q)) (hy : oNm f n q 0 1 = (none, q5)) : JX G yX4_readOrder cX4_readOrder 1 (some .boolean) (d + 8) (0, 0) (0, 0) S D 18 [some (.inr (.inr (some o)))] [] (jrP S (fun w D2 => jRo D D2 o (oRd f n p) w)) := by
  have hres : oRd f n p = (none, q5) := by
    unfold oRd
    rw [if_neg (by rw [hW]; decide), hW]
    unfold oAr
    rw [show oM1 4 = 3 from rfl, hx]
    show (if (4 : Int) = 2 then ((some (4, a, 0), q) : Option oOrd × Int) else match oNm f n q (oL2 4) (oM2 4) with | (none, q2) => (none, q2) | (some b, q2) => (some (4, a, b), q2)) = _
    rw [if_neg (by decide), show oL2 4 = 0 from rfl, show oM2 4 = 1 from rfl, hy]
  rw [hres]
  obtain ⟨ok, ot, tk, tl⟩ := id hO
  have eb := oE_b (f := f) p1
  refine x_aload_n dX4_readOrder_18 rfl ?_
  refine c_RX4_46p dX4_readOrder_19 rfl (kX4_readVerb hO hn hf n0 n1 fr hp p0 p1) (by assumption) (Nat.le_of_ble_eq_true rfl) (Nat.le_of_ble_eq_true rfl) ⟨Nat.le_refl _, Nat.le_refl _⟩ (fun D1 h1 => ?_)
  obtain ⟨v3, v2, vX⟩ := h1
  rw [hW] at v3 v2
  rw [if_neg (by decide)] at v2
  have hp1 : D1 o 2 = oE f n p := v2
  have hn1 : D1 o 1 = n := by rw [vX o 1 (by omega)]; exact hn
  have hf1 : D1 (o + 1) = f := by rw [← hf]; funext z; exact vX _ z (by omega)
  refine x_aload_n dX4_readOrder_22 rfl ?_
  refine gf_RX4_22 dX4_readOrder_23 rfl (by assumption) ?_
  rw [v3]
  refine x_switch (tgt := 68) dX4_readOrder_26 ⟨by omega, by omega⟩ (by decide) (by decide) ?_
  refine x_aload_n dX4_readOrder_68 rfl ?_
  refine x_iconst dX4_readOrder_69 ?_
  refine c_RX4_49p dX4_readOrder_70 rfl (kX4_readFirst hO hn1 hf1 n0 n1 fr hp1 (by omega) (by omega) ⟨by omega, by omega⟩) (by assumption) (Nat.le_of_ble_eq_true rfl) (Nat.le_of_ble_eq_true rfl) ⟨Nat.le_refl _, Nat.le_refl _⟩ (fun w2 D2 h2 => ?_)
  obtain ⟨q1, q2, q3⟩ := h2
  rw [hx] at q1 q2
  obtain ⟨q1, q4⟩ := (q1 : w2 = .inl 1 ∧ D2 o 4 = a)
  subst q1
  replace q2 : D2 o 2 = q := q2
  have qb := oNm_b eb.2 hx
  have hp2 : D2 o 2 = q := q2
  have hn2 : D2 o 1 = n := by rw [q3 o 1 (by omega)]; exact hn1
  have hf2 : D2 (o + 1) = f := by rw [← hf1]; funext z; exact q3 _ z (by omega)
  refine x_if_eq (tgt := 89) dX4_readOrder_73 (by decide) ⟨by omega, by omega⟩ (fun h => absurd h (by omega)) (fun hb73 => ?_)
  refine x_aload_n dX4_readOrder_76 rfl ?_
  refine x_iconst dX4_readOrder_77 ?_
  refine x_iconst dX4_readOrder_78 ?_
  refine c_RX4_53p dX4_readOrder_79 rfl (kX4_readSecond hO hn2 hf2 n0 n1 fr hp2 (by omega) (by omega) (by omega) ⟨by omega, by omega⟩ ⟨by omega, by omega⟩) (by assumption) (Nat.le_of_ble_eq_true rfl) (Nat.le_of_ble_eq_true rfl) ⟨Nat.le_refl _, Nat.le_refl _⟩ (fun w3 D3 h3 => ?_)
  obtain ⟨z1, z2, z3⟩ := h3
  rw [hy] at z1 z2
  replace z1 : w3 = .inl 0 := z1
  subst z1
  refine x_if_eq (tgt := 89) dX4_readOrder_82 (by decide) ⟨by omega, by omega⟩ (fun hb82 => ?_) (fun h => (h (by omega)).elim)
  refine x_iconst dX4_readOrder_89 ?_
  exact x_ireturn dX4_readOrder_90 rfl (jbool (by first | exact Or.inl rfl | exact Or.inr rfl)).1 ⟨Nat.le_refl _, Nat.le_refl _⟩ ⟨rfl, _, rfl, z2, fun x k h => by rw [z3 x k (fun w => h ⟨w.1, by have := w.2; omega, by have := w.2; omega⟩), q3 x k (fun w => h ⟨w.1, by have := w.2; omega, by have := w.2; omega⟩), vX x k (fun w => h ⟨w.1, by have := w.2; omega, by have := w.2; omega⟩)], rfl⟩
theorem ord_4_yy {G : JG} {S : JS} {D : JD} {d : Nat} {o n : Int} {f : Int → Int} {p q a q5 b : Int} (hO : jOr S o) (hn : D o 1 = n) (hf : D (o + 1) = f) (n0 : 0 ≤ n) (n1 : n ≤ 60) (fr : ∀ z : Int, 0 ≤ f z ∧ f z ≤ 65535) (hp : D o 2 = p) (p0 : 0 ≤ p) (p1 : p ≤ n) (hW : oW f p (oE f n p) = 4) (hx : oNm f n (oE f n p) 0 3 = (some a, q)) (hy : oNm f n q 0 1 = (some b, q5)) : JX G yX4_readOrder cX4_readOrder 1 (some .boolean) (d + 8) (0, 0) (0, 0) S D 18 [some (.inr (.inr (some o)))] [] (jrP S (fun w D2 => jRo D D2 o (oRd f n p) w)) := by
  have hres : oRd f n p = (some (4, a, b), q5) := by
    unfold oRd
    rw [if_neg (by rw [hW]; decide), hW]
    unfold oAr
    rw [show oM1 4 = 3 from rfl, hx]
    show (if (4 : Int) = 2 then ((some (4, a, 0), q) : Option oOrd × Int) else match oNm f n q (oL2 4) (oM2 4) with | (none, q2) => (none, q2) | (some b, q2) => (some (4, a, b), q2)) = _
    rw [if_neg (by decide), show oL2 4 = 0 from rfl, show oM2 4 = 1 from rfl, hy]
  rw [hres]
  obtain ⟨ok, ot, tk, tl⟩ := id hO
  have eb := oE_b (f := f) p1
  refine x_aload_n dX4_readOrder_18 rfl ?_
  refine c_RX4_46p dX4_readOrder_19 rfl (kX4_readVerb hO hn hf n0 n1 fr hp p0 p1) (by assumption) (Nat.le_of_ble_eq_true rfl) (Nat.le_of_ble_eq_true rfl) ⟨Nat.le_refl _, Nat.le_refl _⟩ (fun D1 h1 => ?_)
  obtain ⟨v3, v2, vX⟩ := h1
  rw [hW] at v3 v2
  rw [if_neg (by decide)] at v2
  have hp1 : D1 o 2 = oE f n p := v2
  have hn1 : D1 o 1 = n := by rw [vX o 1 (by omega)]; exact hn
  have hf1 : D1 (o + 1) = f := by rw [← hf]; funext z; exact vX _ z (by omega)
  refine x_aload_n dX4_readOrder_22 rfl ?_
  refine gf_RX4_22 dX4_readOrder_23 rfl (by assumption) ?_
  rw [v3]
  refine x_switch (tgt := 68) dX4_readOrder_26 ⟨by omega, by omega⟩ (by decide) (by decide) ?_
  refine x_aload_n dX4_readOrder_68 rfl ?_
  refine x_iconst dX4_readOrder_69 ?_
  refine c_RX4_49p dX4_readOrder_70 rfl (kX4_readFirst hO hn1 hf1 n0 n1 fr hp1 (by omega) (by omega) ⟨by omega, by omega⟩) (by assumption) (Nat.le_of_ble_eq_true rfl) (Nat.le_of_ble_eq_true rfl) ⟨Nat.le_refl _, Nat.le_refl _⟩ (fun w2 D2 h2 => ?_)
  obtain ⟨q1, q2, q3⟩ := h2
  rw [hx] at q1 q2
  obtain ⟨q1, q4⟩ := (q1 : w2 = .inl 1 ∧ D2 o 4 = a)
  subst q1
  replace q2 : D2 o 2 = q := q2
  have qb := oNm_b eb.2 hx
  have hp2 : D2 o 2 = q := q2
  have hn2 : D2 o 1 = n := by rw [q3 o 1 (by omega)]; exact hn1
  have hf2 : D2 (o + 1) = f := by rw [← hf1]; funext z; exact q3 _ z (by omega)
  refine x_if_eq (tgt := 89) dX4_readOrder_73 (by decide) ⟨by omega, by omega⟩ (fun h => absurd h (by omega)) (fun hb73 => ?_)
  refine x_aload_n dX4_readOrder_76 rfl ?_
  refine x_iconst dX4_readOrder_77 ?_
  refine x_iconst dX4_readOrder_78 ?_
  refine c_RX4_53p dX4_readOrder_79 rfl (kX4_readSecond hO hn2 hf2 n0 n1 fr hp2 (by omega) (by omega) (by omega) ⟨by omega, by omega⟩ ⟨by omega, by omega⟩) (by assumption) (Nat.le_of_ble_eq_true rfl) (Nat.le_of_ble_eq_true rfl) ⟨Nat.le_refl _, Nat.le_refl _⟩ (fun w3 D3 h3 => ?_)
  obtain ⟨z1, z2, z3⟩ := h3
  rw [hy] at z1 z2
  obtain ⟨z1, z4⟩ := (z1 : w3 = .inl 1 ∧ D3 o 5 = b)
  subst z1
  refine x_if_eq (tgt := 89) dX4_readOrder_82 (by decide) ⟨by omega, by omega⟩ (fun h => absurd h (by omega)) (fun hb82 => ?_)
  refine x_iconst dX4_readOrder_85 ?_
  refine x_goto (tgt := 90) dX4_readOrder_86 (by decide) ?_
  exact x_ireturn dX4_readOrder_90 rfl (jbool (by first | exact Or.inl rfl | exact Or.inr rfl)).1 ⟨Nat.le_refl _, Nat.le_refl _⟩ ⟨rfl, _, rfl, z2, fun x k h => by rw [z3 x k (fun w => h ⟨w.1, by have := w.2; omega, by have := w.2; omega⟩), q3 x k (fun w => h ⟨w.1, by have := w.2; omega, by have := w.2; omega⟩), vX x k (fun w => h ⟨w.1, by have := w.2; omega, by have := w.2; omega⟩)], rfl, by rw [z3 o 3 (by omega), q3 o 3 (by omega)]; exact v3, by rw [z3 o 4 (by omega)]; exact q4, fun _ => z4⟩
theorem ord_2_n {G : JG} {S : JS} {D : JD} {d : Nat} {o n : Int} {f : Int → Int} {p q : Int} (hO : jOr S o) (hn : D o 1 = n) (hf : D (o + 1) = f) (n0 : 0 ≤ n) (n1 : n ≤ 60) (fr : ∀ z : Int, 0 ≤ f z ∧ f z ≤ 65535) (hp : D o 2 = p) (p0 : 0 ≤ p) (p1 : p ≤ n) (hW : oW f p (oE f n p) = 2) (hx : oNm f n (oE f n p) 0 3 = (none, q)) : JX G yX4_readOrder cX4_readOrder 1 (some .boolean) (d + 8) (0, 0) (0, 0) S D 18 [some (.inr (.inr (some o)))] [] (jrP S (fun w D2 => jRo D D2 o (oRd f n p) w)) := by
  have hres : oRd f n p = (none, q) := by
    unfold oRd
    rw [if_neg (by rw [hW]; decide), hW]
    unfold oAr
    rw [show oM1 2 = 3 from rfl, hx]
  rw [hres]
  obtain ⟨ok, ot, tk, tl⟩ := id hO
  have eb := oE_b (f := f) p1
  refine x_aload_n dX4_readOrder_18 rfl ?_
  refine c_RX4_46p dX4_readOrder_19 rfl (kX4_readVerb hO hn hf n0 n1 fr hp p0 p1) (by assumption) (Nat.le_of_ble_eq_true rfl) (Nat.le_of_ble_eq_true rfl) ⟨Nat.le_refl _, Nat.le_refl _⟩ (fun D1 h1 => ?_)
  obtain ⟨v3, v2, vX⟩ := h1
  rw [hW] at v3 v2
  rw [if_neg (by decide)] at v2
  have hp1 : D1 o 2 = oE f n p := v2
  have hn1 : D1 o 1 = n := by rw [vX o 1 (by omega)]; exact hn
  have hf1 : D1 (o + 1) = f := by rw [← hf]; funext z; exact vX _ z (by omega)
  refine x_aload_n dX4_readOrder_22 rfl ?_
  refine gf_RX4_22 dX4_readOrder_23 rfl (by assumption) ?_
  rw [v3]
  refine x_switch (tgt := 91) dX4_readOrder_26 ⟨by omega, by omega⟩ (by decide) (by decide) ?_
  refine x_aload_n dX4_readOrder_91 rfl ?_
  refine x_iconst dX4_readOrder_92 ?_
  refine c_RX4_49p dX4_readOrder_93 rfl (kX4_readFirst hO hn1 hf1 n0 n1 fr hp1 (by omega) (by omega) ⟨by omega, by omega⟩) (by assumption) (Nat.le_of_ble_eq_true rfl) (Nat.le_of_ble_eq_true rfl) ⟨Nat.le_refl _, Nat.le_refl _⟩ (fun w2 D2 h2 => ?_)
  obtain ⟨q1, q2, q3⟩ := h2
  rw [hx] at q1 q2
  replace q1 : w2 = .inl 0 := q1
  subst q1
  exact x_ireturn dX4_readOrder_96 rfl (jbool (by first | exact Or.inl rfl | exact Or.inr rfl)).1 ⟨Nat.le_refl _, Nat.le_refl _⟩ ⟨rfl, _, rfl, q2, fun x k h => by rw [q3 x k (fun w => h ⟨w.1, by have := w.2; omega, by have := w.2; omega⟩), vX x k (fun w => h ⟨w.1, by have := w.2; omega, by have := w.2; omega⟩)], rfl⟩
theorem ord_2_y {G : JG} {S : JS} {D : JD} {d : Nat} {o n : Int} {f : Int → Int} {p q a : Int} (hO : jOr S o) (hn : D o 1 = n) (hf : D (o + 1) = f) (n0 : 0 ≤ n) (n1 : n ≤ 60) (fr : ∀ z : Int, 0 ≤ f z ∧ f z ≤ 65535) (hp : D o 2 = p) (p0 : 0 ≤ p) (p1 : p ≤ n) (hW : oW f p (oE f n p) = 2) (hx : oNm f n (oE f n p) 0 3 = (some a, q)) : JX G yX4_readOrder cX4_readOrder 1 (some .boolean) (d + 8) (0, 0) (0, 0) S D 18 [some (.inr (.inr (some o)))] [] (jrP S (fun w D2 => jRo D D2 o (oRd f n p) w)) := by
  have hres : oRd f n p = (some (2, a, 0), q) := by
    unfold oRd
    rw [if_neg (by rw [hW]; decide), hW]
    unfold oAr
    rw [show oM1 2 = 3 from rfl, hx]
    exact if_pos rfl
  rw [hres]
  obtain ⟨ok, ot, tk, tl⟩ := id hO
  have eb := oE_b (f := f) p1
  refine x_aload_n dX4_readOrder_18 rfl ?_
  refine c_RX4_46p dX4_readOrder_19 rfl (kX4_readVerb hO hn hf n0 n1 fr hp p0 p1) (by assumption) (Nat.le_of_ble_eq_true rfl) (Nat.le_of_ble_eq_true rfl) ⟨Nat.le_refl _, Nat.le_refl _⟩ (fun D1 h1 => ?_)
  obtain ⟨v3, v2, vX⟩ := h1
  rw [hW] at v3 v2
  rw [if_neg (by decide)] at v2
  have hp1 : D1 o 2 = oE f n p := v2
  have hn1 : D1 o 1 = n := by rw [vX o 1 (by omega)]; exact hn
  have hf1 : D1 (o + 1) = f := by rw [← hf]; funext z; exact vX _ z (by omega)
  refine x_aload_n dX4_readOrder_22 rfl ?_
  refine gf_RX4_22 dX4_readOrder_23 rfl (by assumption) ?_
  rw [v3]
  refine x_switch (tgt := 91) dX4_readOrder_26 ⟨by omega, by omega⟩ (by decide) (by decide) ?_
  refine x_aload_n dX4_readOrder_91 rfl ?_
  refine x_iconst dX4_readOrder_92 ?_
  refine c_RX4_49p dX4_readOrder_93 rfl (kX4_readFirst hO hn1 hf1 n0 n1 fr hp1 (by omega) (by omega) ⟨by omega, by omega⟩) (by assumption) (Nat.le_of_ble_eq_true rfl) (Nat.le_of_ble_eq_true rfl) ⟨Nat.le_refl _, Nat.le_refl _⟩ (fun w2 D2 h2 => ?_)
  obtain ⟨q1, q2, q3⟩ := h2
  rw [hx] at q1 q2
  obtain ⟨q1, q4⟩ := (q1 : w2 = .inl 1 ∧ D2 o 4 = a)
  subst q1
  replace q2 : D2 o 2 = q := q2
  exact x_ireturn dX4_readOrder_96 rfl (jbool (by first | exact Or.inl rfl | exact Or.inr rfl)).1 ⟨Nat.le_refl _, Nat.le_refl _⟩ ⟨rfl, _, rfl, q2, fun x k h => by rw [q3 x k (fun w => h ⟨w.1, by have := w.2; omega, by have := w.2; omega⟩), vX x k (fun w => h ⟨w.1, by have := w.2; omega, by have := w.2; omega⟩)], rfl, by rw [q3 o 3 (by omega)]; exact v3, q4, fun h => absurd rfl h⟩
theorem ord_3_n {G : JG} {S : JS} {D : JD} {d : Nat} {o n : Int} {f : Int → Int} {p q : Int} (hO : jOr S o) (hn : D o 1 = n) (hf : D (o + 1) = f) (n0 : 0 ≤ n) (n1 : n ≤ 60) (fr : ∀ z : Int, 0 ≤ f z ∧ f z ≤ 65535) (hp : D o 2 = p) (p0 : 0 ≤ p) (p1 : p ≤ n) (hW : oW f p (oE f n p) = 3) (hx : oNm f n (oE f n p) 0 11 = (none, q)) : JX G yX4_readOrder cX4_readOrder 1 (some .boolean) (d + 8) (0, 0) (0, 0) S D 18 [some (.inr (.inr (some o)))] [] (jrP S (fun w D2 => jRo D D2 o (oRd f n p) w)) := by
  have hres : oRd f n p = (none, q) := by
    unfold oRd
    rw [if_neg (by rw [hW]; decide), hW]
    unfold oAr
    rw [show oM1 3 = 11 from rfl, hx]
  rw [hres]
  obtain ⟨ok, ot, tk, tl⟩ := id hO
  have eb := oE_b (f := f) p1
  refine x_aload_n dX4_readOrder_18 rfl ?_
  refine c_RX4_46p dX4_readOrder_19 rfl (kX4_readVerb hO hn hf n0 n1 fr hp p0 p1) (by assumption) (Nat.le_of_ble_eq_true rfl) (Nat.le_of_ble_eq_true rfl) ⟨Nat.le_refl _, Nat.le_refl _⟩ (fun D1 h1 => ?_)
  obtain ⟨v3, v2, vX⟩ := h1
  rw [hW] at v3 v2
  rw [if_neg (by decide)] at v2
  have hp1 : D1 o 2 = oE f n p := v2
  have hn1 : D1 o 1 = n := by rw [vX o 1 (by omega)]; exact hn
  have hf1 : D1 (o + 1) = f := by rw [← hf]; funext z; exact vX _ z (by omega)
  refine x_aload_n dX4_readOrder_22 rfl ?_
  refine gf_RX4_22 dX4_readOrder_23 rfl (by assumption) ?_
  rw [v3]
  refine x_switch (tgt := 97) dX4_readOrder_26 ⟨by omega, by omega⟩ (by decide) (by decide) ?_
  refine x_aload_n dX4_readOrder_97 rfl ?_
  refine x_bipush dX4_readOrder_98 (by decide) ?_
  refine c_RX4_49p dX4_readOrder_100 rfl (kX4_readFirst hO hn1 hf1 n0 n1 fr hp1 (by omega) (by omega) ⟨by omega, by omega⟩) (by assumption) (Nat.le_of_ble_eq_true rfl) (Nat.le_of_ble_eq_true rfl) ⟨Nat.le_refl _, Nat.le_refl _⟩ (fun w2 D2 h2 => ?_)
  obtain ⟨q1, q2, q3⟩ := h2
  rw [hx] at q1 q2
  replace q1 : w2 = .inl 0 := q1
  subst q1
  refine x_if_eq (tgt := 119) dX4_readOrder_103 (by decide) ⟨by omega, by omega⟩ (fun hb103 => ?_) (fun h => (h (by omega)).elim)
  refine x_iconst dX4_readOrder_119 ?_
  exact x_ireturn dX4_readOrder_120 rfl (jbool (by first | exact Or.inl rfl | exact Or.inr rfl)).1 ⟨Nat.le_refl _, Nat.le_refl _⟩ ⟨rfl, _, rfl, q2, fun x k h => by rw [q3 x k (fun w => h ⟨w.1, by have := w.2; omega, by have := w.2; omega⟩), vX x k (fun w => h ⟨w.1, by have := w.2; omega, by have := w.2; omega⟩)], rfl⟩
theorem ord_3_yn {G : JG} {S : JS} {D : JD} {d : Nat} {o n : Int} {f : Int → Int} {p q a q5 : Int} (hO : jOr S o) (hn : D o 1 = n) (hf : D (o + 1) = f) (n0 : 0 ≤ n) (n1 : n ≤ 60) (fr : ∀ z : Int, 0 ≤ f z ∧ f z ≤ 65535) (hp : D o 2 = p) (p0 : 0 ≤ p) (p1 : p ≤ n) (hW : oW f p (oE f n p) = 3) (hx : oNm f n (oE f n p) 0 11 = (some a, q)) (hy : oNm f n q 0 3 = (none, q5)) : JX G yX4_readOrder cX4_readOrder 1 (some .boolean) (d + 8) (0, 0) (0, 0) S D 18 [some (.inr (.inr (some o)))] [] (jrP S (fun w D2 => jRo D D2 o (oRd f n p) w)) := by
  have hres : oRd f n p = (none, q5) := by
    unfold oRd
    rw [if_neg (by rw [hW]; decide), hW]
    unfold oAr
    rw [show oM1 3 = 11 from rfl, hx]
    show (if (3 : Int) = 2 then ((some (3, a, 0), q) : Option oOrd × Int) else match oNm f n q (oL2 3) (oM2 3) with | (none, q2) => (none, q2) | (some b, q2) => (some (3, a, b), q2)) = _
    rw [if_neg (by decide), show oL2 3 = 0 from rfl, show oM2 3 = 3 from rfl, hy]
  rw [hres]
  obtain ⟨ok, ot, tk, tl⟩ := id hO
  have eb := oE_b (f := f) p1
  refine x_aload_n dX4_readOrder_18 rfl ?_
  refine c_RX4_46p dX4_readOrder_19 rfl (kX4_readVerb hO hn hf n0 n1 fr hp p0 p1) (by assumption) (Nat.le_of_ble_eq_true rfl) (Nat.le_of_ble_eq_true rfl) ⟨Nat.le_refl _, Nat.le_refl _⟩ (fun D1 h1 => ?_)
  obtain ⟨v3, v2, vX⟩ := h1
  rw [hW] at v3 v2
  rw [if_neg (by decide)] at v2
  have hp1 : D1 o 2 = oE f n p := v2
  have hn1 : D1 o 1 = n := by rw [vX o 1 (by omega)]; exact hn
  have hf1 : D1 (o + 1) = f := by rw [← hf]; funext z; exact vX _ z (by omega)
  refine x_aload_n dX4_readOrder_22 rfl ?_
  refine gf_RX4_22 dX4_readOrder_23 rfl (by assumption) ?_
  rw [v3]
  refine x_switch (tgt := 97) dX4_readOrder_26 ⟨by omega, by omega⟩ (by decide) (by decide) ?_
  refine x_aload_n dX4_readOrder_97 rfl ?_
  refine x_bipush dX4_readOrder_98 (by decide) ?_
  refine c_RX4_49p dX4_readOrder_100 rfl (kX4_readFirst hO hn1 hf1 n0 n1 fr hp1 (by omega) (by omega) ⟨by omega, by omega⟩) (by assumption) (Nat.le_of_ble_eq_true rfl) (Nat.le_of_ble_eq_true rfl) ⟨Nat.le_refl _, Nat.le_refl _⟩ (fun w2 D2 h2 => ?_)
  obtain ⟨q1, q2, q3⟩ := h2
  rw [hx] at q1 q2
  obtain ⟨q1, q4⟩ := (q1 : w2 = .inl 1 ∧ D2 o 4 = a)
  subst q1
  replace q2 : D2 o 2 = q := q2
  have qb := oNm_b eb.2 hx
  have hp2 : D2 o 2 = q := q2
  have hn2 : D2 o 1 = n := by rw [q3 o 1 (by omega)]; exact hn1
  have hf2 : D2 (o + 1) = f := by rw [← hf1]; funext z; exact q3 _ z (by omega)
  refine x_if_eq (tgt := 119) dX4_readOrder_103 (by decide) ⟨by omega, by omega⟩ (fun h => absurd h (by omega)) (fun hb103 => ?_)
  refine x_aload_n dX4_readOrder_106 rfl ?_
  refine x_iconst dX4_readOrder_107 ?_
  refine x_iconst dX4_readOrder_108 ?_
  refine c_RX4_53p dX4_readOrder_109 rfl (kX4_readSecond hO hn2 hf2 n0 n1 fr hp2 (by omega) (by omega) (by omega) ⟨by omega, by omega⟩ ⟨by omega, by omega⟩) (by assumption) (Nat.le_of_ble_eq_true rfl) (Nat.le_of_ble_eq_true rfl) ⟨Nat.le_refl _, Nat.le_refl _⟩ (fun w3 D3 h3 => ?_)
  obtain ⟨z1, z2, z3⟩ := h3
  rw [hy] at z1 z2
  replace z1 : w3 = .inl 0 := z1
  subst z1
  refine x_if_eq (tgt := 119) dX4_readOrder_112 (by decide) ⟨by omega, by omega⟩ (fun hb112 => ?_) (fun h => (h (by omega)).elim)
  refine x_iconst dX4_readOrder_119 ?_
  exact x_ireturn dX4_readOrder_120 rfl (jbool (by first | exact Or.inl rfl | exact Or.inr rfl)).1 ⟨Nat.le_refl _, Nat.le_refl _⟩ ⟨rfl, _, rfl, z2, fun x k h => by rw [z3 x k (fun w => h ⟨w.1, by have := w.2; omega, by have := w.2; omega⟩), q3 x k (fun w => h ⟨w.1, by have := w.2; omega, by have := w.2; omega⟩), vX x k (fun w => h ⟨w.1, by have := w.2; omega, by have := w.2; omega⟩)], rfl⟩
theorem ord_3_yy {G : JG} {S : JS} {D : JD} {d : Nat} {o n : Int} {f : Int → Int} {p q a q5 b : Int} (hO : jOr S o) (hn : D o 1 = n) (hf : D (o + 1) = f) (n0 : 0 ≤ n) (n1 : n ≤ 60) (fr : ∀ z : Int, 0 ≤ f z ∧ f z ≤ 65535) (hp : D o 2 = p) (p0 : 0 ≤ p) (p1 : p ≤ n) (hW : oW f p (oE f n p) = 3) (hx : oNm f n (oE f n p) 0 11 = (some a, q)) (hy : oNm f n q 0 3 = (some b, q5)) : JX G yX4_readOrder cX4_readOrder 1 (some .boolean) (d + 8) (0, 0) (0, 0) S D 18 [some (.inr (.inr (some o)))] [] (jrP S (fun w D2 => jRo D D2 o (oRd f n p) w)) := by
  have hres : oRd f n p = (some (3, a, b), q5) := by
    unfold oRd
    rw [if_neg (by rw [hW]; decide), hW]
    unfold oAr
    rw [show oM1 3 = 11 from rfl, hx]
    show (if (3 : Int) = 2 then ((some (3, a, 0), q) : Option oOrd × Int) else match oNm f n q (oL2 3) (oM2 3) with | (none, q2) => (none, q2) | (some b, q2) => (some (3, a, b), q2)) = _
    rw [if_neg (by decide), show oL2 3 = 0 from rfl, show oM2 3 = 3 from rfl, hy]
  rw [hres]
  obtain ⟨ok, ot, tk, tl⟩ := id hO
  have eb := oE_b (f := f) p1
  refine x_aload_n dX4_readOrder_18 rfl ?_
  refine c_RX4_46p dX4_readOrder_19 rfl (kX4_readVerb hO hn hf n0 n1 fr hp p0 p1) (by assumption) (Nat.le_of_ble_eq_true rfl) (Nat.le_of_ble_eq_true rfl) ⟨Nat.le_refl _, Nat.le_refl _⟩ (fun D1 h1 => ?_)
  obtain ⟨v3, v2, vX⟩ := h1
  rw [hW] at v3 v2
  rw [if_neg (by decide)] at v2
  have hp1 : D1 o 2 = oE f n p := v2
  have hn1 : D1 o 1 = n := by rw [vX o 1 (by omega)]; exact hn
  have hf1 : D1 (o + 1) = f := by rw [← hf]; funext z; exact vX _ z (by omega)
  refine x_aload_n dX4_readOrder_22 rfl ?_
  refine gf_RX4_22 dX4_readOrder_23 rfl (by assumption) ?_
  rw [v3]
  refine x_switch (tgt := 97) dX4_readOrder_26 ⟨by omega, by omega⟩ (by decide) (by decide) ?_
  refine x_aload_n dX4_readOrder_97 rfl ?_
  refine x_bipush dX4_readOrder_98 (by decide) ?_
  refine c_RX4_49p dX4_readOrder_100 rfl (kX4_readFirst hO hn1 hf1 n0 n1 fr hp1 (by omega) (by omega) ⟨by omega, by omega⟩) (by assumption) (Nat.le_of_ble_eq_true rfl) (Nat.le_of_ble_eq_true rfl) ⟨Nat.le_refl _, Nat.le_refl _⟩ (fun w2 D2 h2 => ?_)
  obtain ⟨q1, q2, q3⟩ := h2
  rw [hx] at q1 q2
  obtain ⟨q1, q4⟩ := (q1 : w2 = .inl 1 ∧ D2 o 4 = a)
  subst q1
  replace q2 : D2 o 2 = q := q2
  have qb := oNm_b eb.2 hx
  have hp2 : D2 o 2 = q := q2
  have hn2 : D2 o 1 = n := by rw [q3 o 1 (by omega)]; exact hn1
  have hf2 : D2 (o + 1) = f := by rw [← hf1]; funext z; exact q3 _ z (by omega)
  refine x_if_eq (tgt := 119) dX4_readOrder_103 (by decide) ⟨by omega, by omega⟩ (fun h => absurd h (by omega)) (fun hb103 => ?_)
  refine x_aload_n dX4_readOrder_106 rfl ?_
  refine x_iconst dX4_readOrder_107 ?_
  refine x_iconst dX4_readOrder_108 ?_
  refine c_RX4_53p dX4_readOrder_109 rfl (kX4_readSecond hO hn2 hf2 n0 n1 fr hp2 (by omega) (by omega) (by omega) ⟨by omega, by omega⟩ ⟨by omega, by omega⟩) (by assumption) (Nat.le_of_ble_eq_true rfl) (Nat.le_of_ble_eq_true rfl) ⟨Nat.le_refl _, Nat.le_refl _⟩ (fun w3 D3 h3 => ?_)
  obtain ⟨z1, z2, z3⟩ := h3
  rw [hy] at z1 z2
  obtain ⟨z1, z4⟩ := (z1 : w3 = .inl 1 ∧ D3 o 5 = b)
  subst z1
  refine x_if_eq (tgt := 119) dX4_readOrder_112 (by decide) ⟨by omega, by omega⟩ (fun h => absurd h (by omega)) (fun hb112 => ?_)
  refine x_iconst dX4_readOrder_115 ?_
  refine x_goto (tgt := 120) dX4_readOrder_116 (by decide) ?_
  exact x_ireturn dX4_readOrder_120 rfl (jbool (by first | exact Or.inl rfl | exact Or.inr rfl)).1 ⟨Nat.le_refl _, Nat.le_refl _⟩ ⟨rfl, _, rfl, z2, fun x k h => by rw [z3 x k (fun w => h ⟨w.1, by have := w.2; omega, by have := w.2; omega⟩), q3 x k (fun w => h ⟨w.1, by have := w.2; omega, by have := w.2; omega⟩), vX x k (fun w => h ⟨w.1, by have := w.2; omega, by have := w.2; omega⟩)], rfl, by rw [z3 o 3 (by omega), q3 o 3 (by omega)]; exact v3, by rw [z3 o 4 (by omega)]; exact q4, fun _ => z4⟩
theorem ord_5_n {G : JG} {S : JS} {D : JD} {d : Nat} {o n : Int} {f : Int → Int} {p q : Int} (hO : jOr S o) (hn : D o 1 = n) (hf : D (o + 1) = f) (n0 : 0 ≤ n) (n1 : n ≤ 60) (fr : ∀ z : Int, 0 ≤ f z ∧ f z ≤ 65535) (hp : D o 2 = p) (p0 : 0 ≤ p) (p1 : p ≤ n) (hW : oW f p (oE f n p) = 5) (hx : oNm f n (oE f n p) 0 11 = (none, q)) : JX G yX4_readOrder cX4_readOrder 1 (some .boolean) (d + 8) (0, 0) (0, 0) S D 18 [some (.inr (.inr (some o)))] [] (jrP S (fun w D2 => jRo D D2 o (oRd f n p) w)) := by
  have hres : oRd f n p = (none, q) := by
    unfold oRd
    rw [if_neg (by rw [hW]; decide), hW]
    unfold oAr
    rw [show oM1 5 = 11 from rfl, hx]
  rw [hres]
  obtain ⟨ok, ot, tk, tl⟩ := id hO
  have eb := oE_b (f := f) p1
  refine x_aload_n dX4_readOrder_18 rfl ?_
  refine c_RX4_46p dX4_readOrder_19 rfl (kX4_readVerb hO hn hf n0 n1 fr hp p0 p1) (by assumption) (Nat.le_of_ble_eq_true rfl) (Nat.le_of_ble_eq_true rfl) ⟨Nat.le_refl _, Nat.le_refl _⟩ (fun D1 h1 => ?_)
  obtain ⟨v3, v2, vX⟩ := h1
  rw [hW] at v3 v2
  rw [if_neg (by decide)] at v2
  have hp1 : D1 o 2 = oE f n p := v2
  have hn1 : D1 o 1 = n := by rw [vX o 1 (by omega)]; exact hn
  have hf1 : D1 (o + 1) = f := by rw [← hf]; funext z; exact vX _ z (by omega)
  refine x_aload_n dX4_readOrder_22 rfl ?_
  refine gf_RX4_22 dX4_readOrder_23 rfl (by assumption) ?_
  rw [v3]
  refine x_switch (tgt := 121) dX4_readOrder_26 ⟨by omega, by omega⟩ (by decide) (by decide) ?_
  refine x_aload_n dX4_readOrder_121 rfl ?_
  refine x_bipush dX4_readOrder_122 (by decide) ?_
  refine c_RX4_49p dX4_readOrder_124 rfl (kX4_readFirst hO hn1 hf1 n0 n1 fr hp1 (by omega) (by omega) ⟨by omega, by omega⟩) (by assumption) (Nat.le_of_ble_eq_true rfl) (Nat.le_of_ble_eq_true rfl) ⟨Nat.le_refl _, Nat.le_refl _⟩ (fun w2 D2 h2 => ?_)
  obtain ⟨q1, q2, q3⟩ := h2
  rw [hx] at q1 q2
  replace q1 : w2 = .inl 0 := q1
  subst q1
  refine x_if_eq (tgt := 145) dX4_readOrder_127 (by decide) ⟨by omega, by omega⟩ (fun hb127 => ?_) (fun h => (h (by omega)).elim)
  refine x_iconst dX4_readOrder_145 ?_
  exact x_ireturn dX4_readOrder_146 rfl (jbool (by first | exact Or.inl rfl | exact Or.inr rfl)).1 ⟨Nat.le_refl _, Nat.le_refl _⟩ ⟨rfl, _, rfl, q2, fun x k h => by rw [q3 x k (fun w => h ⟨w.1, by have := w.2; omega, by have := w.2; omega⟩), vX x k (fun w => h ⟨w.1, by have := w.2; omega, by have := w.2; omega⟩)], rfl⟩
theorem ord_5_yn {G : JG} {S : JS} {D : JD} {d : Nat} {o n : Int} {f : Int → Int} {p q a q5 : Int} (hO : jOr S o) (hn : D o 1 = n) (hf : D (o + 1) = f) (n0 : 0 ≤ n) (n1 : n ≤ 60) (fr : ∀ z : Int, 0 ≤ f z ∧ f z ≤ 65535) (hp : D o 2 = p) (p0 : 0 ≤ p) (p1 : p ≤ n) (hW : oW f p (oE f n p) = 5) (hx : oNm f n (oE f n p) 0 11 = (some a, q)) (hy : oNm f n q 1 999 = (none, q5)) : JX G yX4_readOrder cX4_readOrder 1 (some .boolean) (d + 8) (0, 0) (0, 0) S D 18 [some (.inr (.inr (some o)))] [] (jrP S (fun w D2 => jRo D D2 o (oRd f n p) w)) := by
  have hres : oRd f n p = (none, q5) := by
    unfold oRd
    rw [if_neg (by rw [hW]; decide), hW]
    unfold oAr
    rw [show oM1 5 = 11 from rfl, hx]
    show (if (5 : Int) = 2 then ((some (5, a, 0), q) : Option oOrd × Int) else match oNm f n q (oL2 5) (oM2 5) with | (none, q2) => (none, q2) | (some b, q2) => (some (5, a, b), q2)) = _
    rw [if_neg (by decide), show oL2 5 = 1 from rfl, show oM2 5 = 999 from rfl, hy]
  rw [hres]
  obtain ⟨ok, ot, tk, tl⟩ := id hO
  have eb := oE_b (f := f) p1
  refine x_aload_n dX4_readOrder_18 rfl ?_
  refine c_RX4_46p dX4_readOrder_19 rfl (kX4_readVerb hO hn hf n0 n1 fr hp p0 p1) (by assumption) (Nat.le_of_ble_eq_true rfl) (Nat.le_of_ble_eq_true rfl) ⟨Nat.le_refl _, Nat.le_refl _⟩ (fun D1 h1 => ?_)
  obtain ⟨v3, v2, vX⟩ := h1
  rw [hW] at v3 v2
  rw [if_neg (by decide)] at v2
  have hp1 : D1 o 2 = oE f n p := v2
  have hn1 : D1 o 1 = n := by rw [vX o 1 (by omega)]; exact hn
  have hf1 : D1 (o + 1) = f := by rw [← hf]; funext z; exact vX _ z (by omega)
  refine x_aload_n dX4_readOrder_22 rfl ?_
  refine gf_RX4_22 dX4_readOrder_23 rfl (by assumption) ?_
  rw [v3]
  refine x_switch (tgt := 121) dX4_readOrder_26 ⟨by omega, by omega⟩ (by decide) (by decide) ?_
  refine x_aload_n dX4_readOrder_121 rfl ?_
  refine x_bipush dX4_readOrder_122 (by decide) ?_
  refine c_RX4_49p dX4_readOrder_124 rfl (kX4_readFirst hO hn1 hf1 n0 n1 fr hp1 (by omega) (by omega) ⟨by omega, by omega⟩) (by assumption) (Nat.le_of_ble_eq_true rfl) (Nat.le_of_ble_eq_true rfl) ⟨Nat.le_refl _, Nat.le_refl _⟩ (fun w2 D2 h2 => ?_)
  obtain ⟨q1, q2, q3⟩ := h2
  rw [hx] at q1 q2
  obtain ⟨q1, q4⟩ := (q1 : w2 = .inl 1 ∧ D2 o 4 = a)
  subst q1
  replace q2 : D2 o 2 = q := q2
  have qb := oNm_b eb.2 hx
  have hp2 : D2 o 2 = q := q2
  have hn2 : D2 o 1 = n := by rw [q3 o 1 (by omega)]; exact hn1
  have hf2 : D2 (o + 1) = f := by rw [← hf1]; funext z; exact q3 _ z (by omega)
  refine x_if_eq (tgt := 145) dX4_readOrder_127 (by decide) ⟨by omega, by omega⟩ (fun h => absurd h (by omega)) (fun hb127 => ?_)
  refine x_aload_n dX4_readOrder_130 rfl ?_
  refine x_iconst dX4_readOrder_131 ?_
  refine x_sipush dX4_readOrder_132 (by decide) ?_
  refine c_RX4_53p dX4_readOrder_135 rfl (kX4_readSecond hO hn2 hf2 n0 n1 fr hp2 (by omega) (by omega) (by omega) ⟨by omega, by omega⟩ ⟨by omega, by omega⟩) (by assumption) (Nat.le_of_ble_eq_true rfl) (Nat.le_of_ble_eq_true rfl) ⟨Nat.le_refl _, Nat.le_refl _⟩ (fun w3 D3 h3 => ?_)
  obtain ⟨z1, z2, z3⟩ := h3
  rw [hy] at z1 z2
  replace z1 : w3 = .inl 0 := z1
  subst z1
  refine x_if_eq (tgt := 145) dX4_readOrder_138 (by decide) ⟨by omega, by omega⟩ (fun hb138 => ?_) (fun h => (h (by omega)).elim)
  refine x_iconst dX4_readOrder_145 ?_
  exact x_ireturn dX4_readOrder_146 rfl (jbool (by first | exact Or.inl rfl | exact Or.inr rfl)).1 ⟨Nat.le_refl _, Nat.le_refl _⟩ ⟨rfl, _, rfl, z2, fun x k h => by rw [z3 x k (fun w => h ⟨w.1, by have := w.2; omega, by have := w.2; omega⟩), q3 x k (fun w => h ⟨w.1, by have := w.2; omega, by have := w.2; omega⟩), vX x k (fun w => h ⟨w.1, by have := w.2; omega, by have := w.2; omega⟩)], rfl⟩
theorem ord_5_yy {G : JG} {S : JS} {D : JD} {d : Nat} {o n : Int} {f : Int → Int} {p q a q5 b : Int} (hO : jOr S o) (hn : D o 1 = n) (hf : D (o + 1) = f) (n0 : 0 ≤ n) (n1 : n ≤ 60) (fr : ∀ z : Int, 0 ≤ f z ∧ f z ≤ 65535) (hp : D o 2 = p) (p0 : 0 ≤ p) (p1 : p ≤ n) (hW : oW f p (oE f n p) = 5) (hx : oNm f n (oE f n p) 0 11 = (some a, q)) (hy : oNm f n q 1 999 = (some b, q5)) : JX G yX4_readOrder cX4_readOrder 1 (some .boolean) (d + 8) (0, 0) (0, 0) S D 18 [some (.inr (.inr (some o)))] [] (jrP S (fun w D2 => jRo D D2 o (oRd f n p) w)) := by
  have hres : oRd f n p = (some (5, a, b), q5) := by
    unfold oRd
    rw [if_neg (by rw [hW]; decide), hW]
    unfold oAr
    rw [show oM1 5 = 11 from rfl, hx]
    show (if (5 : Int) = 2 then ((some (5, a, 0), q) : Option oOrd × Int) else match oNm f n q (oL2 5) (oM2 5) with | (none, q2) => (none, q2) | (some b, q2) => (some (5, a, b), q2)) = _
    rw [if_neg (by decide), show oL2 5 = 1 from rfl, show oM2 5 = 999 from rfl, hy]
  rw [hres]
  obtain ⟨ok, ot, tk, tl⟩ := id hO
  have eb := oE_b (f := f) p1
  refine x_aload_n dX4_readOrder_18 rfl ?_
  refine c_RX4_46p dX4_readOrder_19 rfl (kX4_readVerb hO hn hf n0 n1 fr hp p0 p1) (by assumption) (Nat.le_of_ble_eq_true rfl) (Nat.le_of_ble_eq_true rfl) ⟨Nat.le_refl _, Nat.le_refl _⟩ (fun D1 h1 => ?_)
  obtain ⟨v3, v2, vX⟩ := h1
  rw [hW] at v3 v2
  rw [if_neg (by decide)] at v2
  have hp1 : D1 o 2 = oE f n p := v2
  have hn1 : D1 o 1 = n := by rw [vX o 1 (by omega)]; exact hn
  have hf1 : D1 (o + 1) = f := by rw [← hf]; funext z; exact vX _ z (by omega)
  refine x_aload_n dX4_readOrder_22 rfl ?_
  refine gf_RX4_22 dX4_readOrder_23 rfl (by assumption) ?_
  rw [v3]
  refine x_switch (tgt := 121) dX4_readOrder_26 ⟨by omega, by omega⟩ (by decide) (by decide) ?_
  refine x_aload_n dX4_readOrder_121 rfl ?_
  refine x_bipush dX4_readOrder_122 (by decide) ?_
  refine c_RX4_49p dX4_readOrder_124 rfl (kX4_readFirst hO hn1 hf1 n0 n1 fr hp1 (by omega) (by omega) ⟨by omega, by omega⟩) (by assumption) (Nat.le_of_ble_eq_true rfl) (Nat.le_of_ble_eq_true rfl) ⟨Nat.le_refl _, Nat.le_refl _⟩ (fun w2 D2 h2 => ?_)
  obtain ⟨q1, q2, q3⟩ := h2
  rw [hx] at q1 q2
  obtain ⟨q1, q4⟩ := (q1 : w2 = .inl 1 ∧ D2 o 4 = a)
  subst q1
  replace q2 : D2 o 2 = q := q2
  have qb := oNm_b eb.2 hx
  have hp2 : D2 o 2 = q := q2
  have hn2 : D2 o 1 = n := by rw [q3 o 1 (by omega)]; exact hn1
  have hf2 : D2 (o + 1) = f := by rw [← hf1]; funext z; exact q3 _ z (by omega)
  refine x_if_eq (tgt := 145) dX4_readOrder_127 (by decide) ⟨by omega, by omega⟩ (fun h => absurd h (by omega)) (fun hb127 => ?_)
  refine x_aload_n dX4_readOrder_130 rfl ?_
  refine x_iconst dX4_readOrder_131 ?_
  refine x_sipush dX4_readOrder_132 (by decide) ?_
  refine c_RX4_53p dX4_readOrder_135 rfl (kX4_readSecond hO hn2 hf2 n0 n1 fr hp2 (by omega) (by omega) (by omega) ⟨by omega, by omega⟩ ⟨by omega, by omega⟩) (by assumption) (Nat.le_of_ble_eq_true rfl) (Nat.le_of_ble_eq_true rfl) ⟨Nat.le_refl _, Nat.le_refl _⟩ (fun w3 D3 h3 => ?_)
  obtain ⟨z1, z2, z3⟩ := h3
  rw [hy] at z1 z2
  obtain ⟨z1, z4⟩ := (z1 : w3 = .inl 1 ∧ D3 o 5 = b)
  subst z1
  refine x_if_eq (tgt := 145) dX4_readOrder_138 (by decide) ⟨by omega, by omega⟩ (fun h => absurd h (by omega)) (fun hb138 => ?_)
  refine x_iconst dX4_readOrder_141 ?_
  refine x_goto (tgt := 146) dX4_readOrder_142 (by decide) ?_
  exact x_ireturn dX4_readOrder_146 rfl (jbool (by first | exact Or.inl rfl | exact Or.inr rfl)).1 ⟨Nat.le_refl _, Nat.le_refl _⟩ ⟨rfl, _, rfl, z2, fun x k h => by rw [z3 x k (fun w => h ⟨w.1, by have := w.2; omega, by have := w.2; omega⟩), q3 x k (fun w => h ⟨w.1, by have := w.2; omega, by have := w.2; omega⟩), vX x k (fun w => h ⟨w.1, by have := w.2; omega, by have := w.2; omega⟩)], rfl, by rw [z3 o 3 (by omega), q3 o 3 (by omega)]; exact v3, by rw [z3 o 4 (by omega)]; exact q4, fun _ => z4⟩
theorem ord_6_n {G : JG} {S : JS} {D : JD} {d : Nat} {o n : Int} {f : Int → Int} {p q : Int} (hO : jOr S o) (hn : D o 1 = n) (hf : D (o + 1) = f) (n0 : 0 ≤ n) (n1 : n ≤ 60) (fr : ∀ z : Int, 0 ≤ f z ∧ f z ≤ 65535) (hp : D o 2 = p) (p0 : 0 ≤ p) (p1 : p ≤ n) (hW : oW f p (oE f n p) = 6) (hx : oNm f n (oE f n p) 0 11 = (none, q)) : JX G yX4_readOrder cX4_readOrder 1 (some .boolean) (d + 8) (0, 0) (0, 0) S D 18 [some (.inr (.inr (some o)))] [] (jrP S (fun w D2 => jRo D D2 o (oRd f n p) w)) := by
  have hres : oRd f n p = (none, q) := by
    unfold oRd
    rw [if_neg (by rw [hW]; decide), hW]
    unfold oAr
    rw [show oM1 6 = 11 from rfl, hx]
  rw [hres]
  obtain ⟨ok, ot, tk, tl⟩ := id hO
  have eb := oE_b (f := f) p1
  refine x_aload_n dX4_readOrder_18 rfl ?_
  refine c_RX4_46p dX4_readOrder_19 rfl (kX4_readVerb hO hn hf n0 n1 fr hp p0 p1) (by assumption) (Nat.le_of_ble_eq_true rfl) (Nat.le_of_ble_eq_true rfl) ⟨Nat.le_refl _, Nat.le_refl _⟩ (fun D1 h1 => ?_)
  obtain ⟨v3, v2, vX⟩ := h1
  rw [hW] at v3 v2
  rw [if_neg (by decide)] at v2
  have hp1 : D1 o 2 = oE f n p := v2
  have hn1 : D1 o 1 = n := by rw [vX o 1 (by omega)]; exact hn
  have hf1 : D1 (o + 1) = f := by rw [← hf]; funext z; exact vX _ z (by omega)
  refine x_aload_n dX4_readOrder_22 rfl ?_
  refine gf_RX4_22 dX4_readOrder_23 rfl (by assumption) ?_
  rw [v3]
  refine x_switch (tgt := 121) dX4_readOrder_26 ⟨by omega, by omega⟩ (by decide) (by decide) ?_
  refine x_aload_n dX4_readOrder_121 rfl ?_
  refine x_bipush dX4_readOrder_122 (by decide) ?_
  refine c_RX4_49p dX4_readOrder_124 rfl (kX4_readFirst hO hn1 hf1 n0 n1 fr hp1 (by omega) (by omega) ⟨by omega, by omega⟩) (by assumption) (Nat.le_of_ble_eq_true rfl) (Nat.le_of_ble_eq_true rfl) ⟨Nat.le_refl _, Nat.le_refl _⟩ (fun w2 D2 h2 => ?_)
  obtain ⟨q1, q2, q3⟩ := h2
  rw [hx] at q1 q2
  replace q1 : w2 = .inl 0 := q1
  subst q1
  refine x_if_eq (tgt := 145) dX4_readOrder_127 (by decide) ⟨by omega, by omega⟩ (fun hb127 => ?_) (fun h => (h (by omega)).elim)
  refine x_iconst dX4_readOrder_145 ?_
  exact x_ireturn dX4_readOrder_146 rfl (jbool (by first | exact Or.inl rfl | exact Or.inr rfl)).1 ⟨Nat.le_refl _, Nat.le_refl _⟩ ⟨rfl, _, rfl, q2, fun x k h => by rw [q3 x k (fun w => h ⟨w.1, by have := w.2; omega, by have := w.2; omega⟩), vX x k (fun w => h ⟨w.1, by have := w.2; omega, by have := w.2; omega⟩)], rfl⟩
theorem ord_6_yn {G : JG} {S : JS} {D : JD} {d : Nat} {o n : Int} {f : Int → Int} {p q a q5 : Int} (hO : jOr S o) (hn : D o 1 = n) (hf : D (o + 1) = f) (n0 : 0 ≤ n) (n1 : n ≤ 60) (fr : ∀ z : Int, 0 ≤ f z ∧ f z ≤ 65535) (hp : D o 2 = p) (p0 : 0 ≤ p) (p1 : p ≤ n) (hW : oW f p (oE f n p) = 6) (hx : oNm f n (oE f n p) 0 11 = (some a, q)) (hy : oNm f n q 1 999 = (none, q5)) : JX G yX4_readOrder cX4_readOrder 1 (some .boolean) (d + 8) (0, 0) (0, 0) S D 18 [some (.inr (.inr (some o)))] [] (jrP S (fun w D2 => jRo D D2 o (oRd f n p) w)) := by
  have hres : oRd f n p = (none, q5) := by
    unfold oRd
    rw [if_neg (by rw [hW]; decide), hW]
    unfold oAr
    rw [show oM1 6 = 11 from rfl, hx]
    show (if (6 : Int) = 2 then ((some (6, a, 0), q) : Option oOrd × Int) else match oNm f n q (oL2 6) (oM2 6) with | (none, q2) => (none, q2) | (some b, q2) => (some (6, a, b), q2)) = _
    rw [if_neg (by decide), show oL2 6 = 1 from rfl, show oM2 6 = 999 from rfl, hy]
  rw [hres]
  obtain ⟨ok, ot, tk, tl⟩ := id hO
  have eb := oE_b (f := f) p1
  refine x_aload_n dX4_readOrder_18 rfl ?_
  refine c_RX4_46p dX4_readOrder_19 rfl (kX4_readVerb hO hn hf n0 n1 fr hp p0 p1) (by assumption) (Nat.le_of_ble_eq_true rfl) (Nat.le_of_ble_eq_true rfl) ⟨Nat.le_refl _, Nat.le_refl _⟩ (fun D1 h1 => ?_)
  obtain ⟨v3, v2, vX⟩ := h1
  rw [hW] at v3 v2
  rw [if_neg (by decide)] at v2
  have hp1 : D1 o 2 = oE f n p := v2
  have hn1 : D1 o 1 = n := by rw [vX o 1 (by omega)]; exact hn
  have hf1 : D1 (o + 1) = f := by rw [← hf]; funext z; exact vX _ z (by omega)
  refine x_aload_n dX4_readOrder_22 rfl ?_
  refine gf_RX4_22 dX4_readOrder_23 rfl (by assumption) ?_
  rw [v3]
  refine x_switch (tgt := 121) dX4_readOrder_26 ⟨by omega, by omega⟩ (by decide) (by decide) ?_
  refine x_aload_n dX4_readOrder_121 rfl ?_
  refine x_bipush dX4_readOrder_122 (by decide) ?_
  refine c_RX4_49p dX4_readOrder_124 rfl (kX4_readFirst hO hn1 hf1 n0 n1 fr hp1 (by omega) (by omega) ⟨by omega, by omega⟩) (by assumption) (Nat.le_of_ble_eq_true rfl) (Nat.le_of_ble_eq_true rfl) ⟨Nat.le_refl _, Nat.le_refl _⟩ (fun w2 D2 h2 => ?_)
  obtain ⟨q1, q2, q3⟩ := h2
  rw [hx] at q1 q2
  obtain ⟨q1, q4⟩ := (q1 : w2 = .inl 1 ∧ D2 o 4 = a)
  subst q1
  replace q2 : D2 o 2 = q := q2
  have qb := oNm_b eb.2 hx
  have hp2 : D2 o 2 = q := q2
  have hn2 : D2 o 1 = n := by rw [q3 o 1 (by omega)]; exact hn1
  have hf2 : D2 (o + 1) = f := by rw [← hf1]; funext z; exact q3 _ z (by omega)
  refine x_if_eq (tgt := 145) dX4_readOrder_127 (by decide) ⟨by omega, by omega⟩ (fun h => absurd h (by omega)) (fun hb127 => ?_)
  refine x_aload_n dX4_readOrder_130 rfl ?_
  refine x_iconst dX4_readOrder_131 ?_
  refine x_sipush dX4_readOrder_132 (by decide) ?_
  refine c_RX4_53p dX4_readOrder_135 rfl (kX4_readSecond hO hn2 hf2 n0 n1 fr hp2 (by omega) (by omega) (by omega) ⟨by omega, by omega⟩ ⟨by omega, by omega⟩) (by assumption) (Nat.le_of_ble_eq_true rfl) (Nat.le_of_ble_eq_true rfl) ⟨Nat.le_refl _, Nat.le_refl _⟩ (fun w3 D3 h3 => ?_)
  obtain ⟨z1, z2, z3⟩ := h3
  rw [hy] at z1 z2
  replace z1 : w3 = .inl 0 := z1
  subst z1
  refine x_if_eq (tgt := 145) dX4_readOrder_138 (by decide) ⟨by omega, by omega⟩ (fun hb138 => ?_) (fun h => (h (by omega)).elim)
  refine x_iconst dX4_readOrder_145 ?_
  exact x_ireturn dX4_readOrder_146 rfl (jbool (by first | exact Or.inl rfl | exact Or.inr rfl)).1 ⟨Nat.le_refl _, Nat.le_refl _⟩ ⟨rfl, _, rfl, z2, fun x k h => by rw [z3 x k (fun w => h ⟨w.1, by have := w.2; omega, by have := w.2; omega⟩), q3 x k (fun w => h ⟨w.1, by have := w.2; omega, by have := w.2; omega⟩), vX x k (fun w => h ⟨w.1, by have := w.2; omega, by have := w.2; omega⟩)], rfl⟩
theorem ord_6_yy {G : JG} {S : JS} {D : JD} {d : Nat} {o n : Int} {f : Int → Int} {p q a q5 b : Int} (hO : jOr S o) (hn : D o 1 = n) (hf : D (o + 1) = f) (n0 : 0 ≤ n) (n1 : n ≤ 60) (fr : ∀ z : Int, 0 ≤ f z ∧ f z ≤ 65535) (hp : D o 2 = p) (p0 : 0 ≤ p) (p1 : p ≤ n) (hW : oW f p (oE f n p) = 6) (hx : oNm f n (oE f n p) 0 11 = (some a, q)) (hy : oNm f n q 1 999 = (some b, q5)) : JX G yX4_readOrder cX4_readOrder 1 (some .boolean) (d + 8) (0, 0) (0, 0) S D 18 [some (.inr (.inr (some o)))] [] (jrP S (fun w D2 => jRo D D2 o (oRd f n p) w)) := by
  have hres : oRd f n p = (some (6, a, b), q5) := by
    unfold oRd
    rw [if_neg (by rw [hW]; decide), hW]
    unfold oAr
    rw [show oM1 6 = 11 from rfl, hx]
    show (if (6 : Int) = 2 then ((some (6, a, 0), q) : Option oOrd × Int) else match oNm f n q (oL2 6) (oM2 6) with | (none, q2) => (none, q2) | (some b, q2) => (some (6, a, b), q2)) = _
    rw [if_neg (by decide), show oL2 6 = 1 from rfl, show oM2 6 = 999 from rfl, hy]
  rw [hres]
  obtain ⟨ok, ot, tk, tl⟩ := id hO
  have eb := oE_b (f := f) p1
  refine x_aload_n dX4_readOrder_18 rfl ?_
  refine c_RX4_46p dX4_readOrder_19 rfl (kX4_readVerb hO hn hf n0 n1 fr hp p0 p1) (by assumption) (Nat.le_of_ble_eq_true rfl) (Nat.le_of_ble_eq_true rfl) ⟨Nat.le_refl _, Nat.le_refl _⟩ (fun D1 h1 => ?_)
  obtain ⟨v3, v2, vX⟩ := h1
  rw [hW] at v3 v2
  rw [if_neg (by decide)] at v2
  have hp1 : D1 o 2 = oE f n p := v2
  have hn1 : D1 o 1 = n := by rw [vX o 1 (by omega)]; exact hn
  have hf1 : D1 (o + 1) = f := by rw [← hf]; funext z; exact vX _ z (by omega)
  refine x_aload_n dX4_readOrder_22 rfl ?_
  refine gf_RX4_22 dX4_readOrder_23 rfl (by assumption) ?_
  rw [v3]
  refine x_switch (tgt := 121) dX4_readOrder_26 ⟨by omega, by omega⟩ (by decide) (by decide) ?_
  refine x_aload_n dX4_readOrder_121 rfl ?_
  refine x_bipush dX4_readOrder_122 (by decide) ?_
  refine c_RX4_49p dX4_readOrder_124 rfl (kX4_readFirst hO hn1 hf1 n0 n1 fr hp1 (by omega) (by omega) ⟨by omega, by omega⟩) (by assumption) (Nat.le_of_ble_eq_true rfl) (Nat.le_of_ble_eq_true rfl) ⟨Nat.le_refl _, Nat.le_refl _⟩ (fun w2 D2 h2 => ?_)
  obtain ⟨q1, q2, q3⟩ := h2
  rw [hx] at q1 q2
  obtain ⟨q1, q4⟩ := (q1 : w2 = .inl 1 ∧ D2 o 4 = a)
  subst q1
  replace q2 : D2 o 2 = q := q2
  have qb := oNm_b eb.2 hx
  have hp2 : D2 o 2 = q := q2
  have hn2 : D2 o 1 = n := by rw [q3 o 1 (by omega)]; exact hn1
  have hf2 : D2 (o + 1) = f := by rw [← hf1]; funext z; exact q3 _ z (by omega)
  refine x_if_eq (tgt := 145) dX4_readOrder_127 (by decide) ⟨by omega, by omega⟩ (fun h => absurd h (by omega)) (fun hb127 => ?_)
  refine x_aload_n dX4_readOrder_130 rfl ?_
  refine x_iconst dX4_readOrder_131 ?_
  refine x_sipush dX4_readOrder_132 (by decide) ?_
  refine c_RX4_53p dX4_readOrder_135 rfl (kX4_readSecond hO hn2 hf2 n0 n1 fr hp2 (by omega) (by omega) (by omega) ⟨by omega, by omega⟩ ⟨by omega, by omega⟩) (by assumption) (Nat.le_of_ble_eq_true rfl) (Nat.le_of_ble_eq_true rfl) ⟨Nat.le_refl _, Nat.le_refl _⟩ (fun w3 D3 h3 => ?_)
  obtain ⟨z1, z2, z3⟩ := h3
  rw [hy] at z1 z2
  obtain ⟨z1, z4⟩ := (z1 : w3 = .inl 1 ∧ D3 o 5 = b)
  subst z1
  refine x_if_eq (tgt := 145) dX4_readOrder_138 (by decide) ⟨by omega, by omega⟩ (fun h => absurd h (by omega)) (fun hb138 => ?_)
  refine x_iconst dX4_readOrder_141 ?_
  refine x_goto (tgt := 146) dX4_readOrder_142 (by decide) ?_
  exact x_ireturn dX4_readOrder_146 rfl (jbool (by first | exact Or.inl rfl | exact Or.inr rfl)).1 ⟨Nat.le_refl _, Nat.le_refl _⟩ ⟨rfl, _, rfl, z2, fun x k h => by rw [z3 x k (fun w => h ⟨w.1, by have := w.2; omega, by have := w.2; omega⟩), q3 x k (fun w => h ⟨w.1, by have := w.2; omega, by have := w.2; omega⟩), vX x k (fun w => h ⟨w.1, by have := w.2; omega, by have := w.2; omega⟩)], rfl, by rw [z3 o 3 (by omega), q3 o 3 (by omega)]; exact v3, by rw [z3 o 4 (by omega)]; exact q4, fun _ => z4⟩
theorem ord_tail {G : JG} {S : JS} {D : JD} {d : Nat} {o n : Int} {f : Int → Int} {p : Int} (hO : jOr S o) (hn : D o 1 = n) (hf : D (o + 1) = f) (n0 : 0 ≤ n) (n1 : n ≤ 60) (fr : ∀ z : Int, 0 ≤ f z ∧ f z ≤ 65535) (hp : D o 2 = p) (p0 : 0 ≤ p) (p1 : p ≤ n) : JX G yX4_readOrder cX4_readOrder 1 (some .boolean) (d + 8) (0, 0) (0, 0) S D 18 [some (.inr (.inr (some o)))] [] (jrP S (fun w D2 => jRo D D2 o (oRd f n p) w)) := by
  have wr := oW_r f p (oE f n p)
  by_cases h0 : oW f p (oE f n p) = 0
  · cases hx : oNm f n (oE f n p) 0 3 with
    | mk x q =>
      cases x with
      | none => exact ord_0_n hO hn hf n0 n1 fr hp p0 p1 h0 hx
      | some a =>
        cases hy : oNm f n q 0 1 with
        | mk x5 q5 =>
          cases x5 with
          | none => exact ord_0_yn hO hn hf n0 n1 fr hp p0 p1 h0 hx hy
          | some b => exact ord_0_yy hO hn hf n0 n1 fr hp p0 p1 h0 hx hy
  by_cases h1 : oW f p (oE f n p) = 1
  · cases hx : oNm f n (oE f n p) 0 3 with
    | mk x q =>
      cases x with
      | none => exact ord_1_n hO hn hf n0 n1 fr hp p0 p1 h1 hx
      | some a =>
        cases hy : oNm f n q 0 1 with
        | mk x5 q5 =>
          cases x5 with
          | none => exact ord_1_yn hO hn hf n0 n1 fr hp p0 p1 h1 hx hy
          | some b => exact ord_1_yy hO hn hf n0 n1 fr hp p0 p1 h1 hx hy
  by_cases h2 : oW f p (oE f n p) = 2
  · cases hx : oNm f n (oE f n p) 0 3 with
    | mk x q =>
      cases x with
      | none => exact ord_2_n hO hn hf n0 n1 fr hp p0 p1 h2 hx
      | some a =>
        exact ord_2_y hO hn hf n0 n1 fr hp p0 p1 h2 hx
  by_cases h3 : oW f p (oE f n p) = 3
  · cases hx : oNm f n (oE f n p) 0 11 with
    | mk x q =>
      cases x with
      | none => exact ord_3_n hO hn hf n0 n1 fr hp p0 p1 h3 hx
      | some a =>
        cases hy : oNm f n q 0 3 with
        | mk x5 q5 =>
          cases x5 with
          | none => exact ord_3_yn hO hn hf n0 n1 fr hp p0 p1 h3 hx hy
          | some b => exact ord_3_yy hO hn hf n0 n1 fr hp p0 p1 h3 hx hy
  by_cases h4 : oW f p (oE f n p) = 4
  · cases hx : oNm f n (oE f n p) 0 3 with
    | mk x q =>
      cases x with
      | none => exact ord_4_n hO hn hf n0 n1 fr hp p0 p1 h4 hx
      | some a =>
        cases hy : oNm f n q 0 1 with
        | mk x5 q5 =>
          cases x5 with
          | none => exact ord_4_yn hO hn hf n0 n1 fr hp p0 p1 h4 hx hy
          | some b => exact ord_4_yy hO hn hf n0 n1 fr hp p0 p1 h4 hx hy
  by_cases h5 : oW f p (oE f n p) = 5
  · cases hx : oNm f n (oE f n p) 0 11 with
    | mk x q =>
      cases x with
      | none => exact ord_5_n hO hn hf n0 n1 fr hp p0 p1 h5 hx
      | some a =>
        cases hy : oNm f n q 1 999 with
        | mk x5 q5 =>
          cases x5 with
          | none => exact ord_5_yn hO hn hf n0 n1 fr hp p0 p1 h5 hx hy
          | some b => exact ord_5_yy hO hn hf n0 n1 fr hp p0 p1 h5 hx hy
  by_cases h6 : oW f p (oE f n p) = 6
  · cases hx : oNm f n (oE f n p) 0 11 with
    | mk x q =>
      cases x with
      | none => exact ord_6_n hO hn hf n0 n1 fr hp p0 p1 h6 hx
      | some a =>
        cases hy : oNm f n q 1 999 with
        | mk x5 q5 =>
          cases x5 with
          | none => exact ord_6_yn hO hn hf n0 n1 fr hp p0 p1 h6 hx hy
          | some b => exact ord_6_yy hO hn hf n0 n1 fr hp p0 p1 h6 hx hy
  exact ord_no hO hn hf n0 n1 fr hp p0 p1 (by omega)
theorem kX4_readOrder_0 {G : JG} {S : JS} {D : JD} {d : Nat} {o n : Int} {f : Int → Int} {p : Int} (hO : jOr S o) (hn : D o 1 = n) (hf : D (o + 1) = f) (n0 : 0 ≤ n) (n1 : n ≤ 60) (fr : ∀ z : Int, 0 ≤ f z ∧ f z ≤ 65535) (hp : D o 2 = p) (p0 : 0 ≤ p) (p1 : p ≤ n) (h : ¬ 0 < p) : JM G yX4_readOrder cX4_readOrder 1 (some .boolean) (d + 8) (0, 0) S D [.inr (.inr (some o))] (jrP S (fun w D2 => jRo D D2 o (oRo f n p) w)) := by
  obtain ⟨ok, ot, tk, tl⟩ := id hO
  unfold oRo
  rw [if_neg h]
  show JX _ _ _ _ _ _ _ _ _ _ _ [_] _ _
  refine x_aload_n dX4_readOrder_0 rfl ?_
  refine gf_RX4_19 dX4_readOrder_1 rfl (by assumption) ?_
  rw [hp]
  refine x_if_le (tgt := 18) dX4_readOrder_4 (by decide) ⟨by omega, by omega⟩ (fun hb4 => ?_) (fun h => (h (by omega)).elim)
  exact ord_tail hO hn hf n0 n1 fr hp p0 p1
theorem kX4_readOrder_n {G : JG} {S : JS} {D : JD} {d : Nat} {o n : Int} {f : Int → Int} {p : Int} (hO : jOr S o) (hn : D o 1 = n) (hf : D (o + 1) = f) (n0 : 0 ≤ n) (n1 : n ≤ 60) (fr : ∀ z : Int, 0 ≤ f z ∧ f z ≤ 65535) (hp : D o 2 = p) (p0 : 0 ≤ p) (p1 : p ≤ n) (h : 0 < p) (hs : ¬ (p < n ∧ f p = 59)) : JM G yX4_readOrder cX4_readOrder 1 (some .boolean) (d + 8) (0, 0) S D [.inr (.inr (some o))] (jrP S (fun w D2 => jRo D D2 o (oRo f n p) w)) := by
  obtain ⟨ok, ot, tk, tl⟩ := id hO
  unfold oRo
  rw [if_pos h, if_neg hs]
  show JX _ _ _ _ _ _ _ _ _ _ _ [_] _ _
  refine x_aload_n dX4_readOrder_0 rfl ?_
  refine gf_RX4_19 dX4_readOrder_1 rfl (by assumption) ?_
  rw [hp]
  refine x_if_le (tgt := 18) dX4_readOrder_4 (by decide) ⟨by omega, by omega⟩ (fun h => absurd h (by omega)) (fun hb4 => ?_)
  refine x_aload_n dX4_readOrder_7 rfl ?_
  refine x_bipush dX4_readOrder_8 (by decide) ?_
  refine c_RX4_42p dX4_readOrder_10 rfl (kX4_readSign hO hn hf n0 n1 fr hp p0 p1 ⟨by omega, by omega⟩) (by assumption) (Nat.le_of_ble_eq_true rfl) (Nat.le_of_ble_eq_true rfl) ⟨Nat.le_refl _, Nat.le_refl _⟩ (fun w1 D1 h1 => ?_)
  obtain ⟨hw, g⟩ := h1
  subst hw
  rw [if_neg hs] at g ⊢
  refine x_if_ne (tgt := 18) dX4_readOrder_13 (by decide) ⟨by omega, by omega⟩ (fun h => absurd h (by omega)) (fun hb13 => ?_)
  refine x_iconst dX4_readOrder_16 ?_
  exact x_ireturn dX4_readOrder_17 rfl (jbool (by first | exact Or.inl rfl | exact Or.inr rfl)).1 ⟨Nat.le_refl _, Nat.le_refl _⟩ ⟨rfl, _, rfl, g.1, fun x k h => g.2 x k (fun w => h ⟨w.1, by omega, by omega⟩), rfl⟩
theorem kX4_readOrder_y {G : JG} {S : JS} {D : JD} {d : Nat} {o n : Int} {f : Int → Int} {p : Int} (hO : jOr S o) (hn : D o 1 = n) (hf : D (o + 1) = f) (n0 : 0 ≤ n) (n1 : n ≤ 60) (fr : ∀ z : Int, 0 ≤ f z ∧ f z ≤ 65535) (hp : D o 2 = p) (p0 : 0 ≤ p) (p1 : p ≤ n) (h : 0 < p) (hs : p < n ∧ f p = 59) : JM G yX4_readOrder cX4_readOrder 1 (some .boolean) (d + 8) (0, 0) S D [.inr (.inr (some o))] (jrP S (fun w D2 => jRo D D2 o (oRo f n p) w)) := by
  obtain ⟨ok, ot, tk, tl⟩ := id hO
  unfold oRo
  rw [if_pos h, if_pos hs]
  show JX _ _ _ _ _ _ _ _ _ _ _ [_] _ _
  refine x_aload_n dX4_readOrder_0 rfl ?_
  refine gf_RX4_19 dX4_readOrder_1 rfl (by assumption) ?_
  rw [hp]
  refine x_if_le (tgt := 18) dX4_readOrder_4 (by decide) ⟨by omega, by omega⟩ (fun h => absurd h (by omega)) (fun hb4 => ?_)
  refine x_aload_n dX4_readOrder_7 rfl ?_
  refine x_bipush dX4_readOrder_8 (by decide) ?_
  refine c_RX4_42p dX4_readOrder_10 rfl (kX4_readSign hO hn hf n0 n1 fr hp p0 p1 ⟨by omega, by omega⟩) (by assumption) (Nat.le_of_ble_eq_true rfl) (Nat.le_of_ble_eq_true rfl) ⟨Nat.le_refl _, Nat.le_refl _⟩ (fun w1 D1 h1 => ?_)
  obtain ⟨hw, g⟩ := h1
  subst hw
  rw [if_pos hs] at g ⊢
  refine x_if_ne (tgt := 18) dX4_readOrder_13 (by decide) ⟨by omega, by omega⟩ (fun hb13 => ?_) (fun h => (h (by omega)).elim)
  refine (ord_tail (D := D1) hO (by rw [g.n (by omega)]; exact hn) (by rw [g.x (by omega)]; exact hf) n0 n1 fr g.1 (by omega) (by omega)).mono ?_
  rintro v S2 D2 ⟨rfl, w, rfl, r1, r2, r3⟩
  exact ⟨rfl, w, rfl, r1, fun x k h => by rw [r2 x k h, g.2 x k (fun w => h ⟨w.1, by omega, by omega⟩)], r3⟩
theorem kX4_readOrder {G : JG} {S : JS} {D : JD} {d : Nat} {o n : Int} {f : Int → Int} {p : Int} (hO : jOr S o) (hn : D o 1 = n) (hf : D (o + 1) = f) (n0 : 0 ≤ n) (n1 : n ≤ 60) (fr : ∀ z : Int, 0 ≤ f z ∧ f z ≤ 65535) (hp : D o 2 = p) (p0 : 0 ≤ p) (p1 : p ≤ n) : JM G yX4_readOrder cX4_readOrder 1 (some .boolean) (d + 8) (0, 0) S D [.inr (.inr (some o))] (jrP S (fun w D2 => jRo D D2 o (oRo f n p) w)) := by
  by_cases h : 0 < p
  · by_cases hs : p < n ∧ f p = 59
    · exact kX4_readOrder_y hO hn hf n0 n1 fr hp p0 p1 h hs
    · exact kX4_readOrder_n hO hn hf n0 n1 fr hp p0 p1 h hs
  · exact kX4_readOrder_0 hO hn hf n0 n1 fr hp p0 p1 h
/-- the first fault, or -1 -/
def jFw (res : List oOrd ⊕ Int) (w : JV) : Prop := match res with
  | .inl _ => w = .inl (-1)
  | .inr e => w = .inl e
def jFf (D D2 : JD) (o : Int) (res : List oOrd ⊕ Int) (w : JV) : Prop := jFw res w ∧ ∀ x k : Int, ¬ (x = o ∧ 2 ≤ k ∧ k ≤ 5) → D2 x k = D x k
theorem ff_bad {G : JG} {S : JS} {D : JD} {d : Nat} {o e i : Int} (hO : jOr S o) (he : D o 2 = e) (i0 : 0 ≤ i ∧ i ≤ 100) : JX G yX4_findFault cX4_findFault 3 (some .int) (d + 9) (0, 0) (0, 0) S D 11 [some (.inr (.inr (some o))), some (.inl 0), some (.inl i)] [] (jrP S (fun w D2 => w = .inl e ∧ D2 = D)) := by
  obtain ⟨ok, ot, tk, tl⟩ := id hO
  refine x_iload_n dX4_findFault_11 rfl ?_
  refine x_bipush dX4_findFault_12 (by decide) ?_
  refine x_ic_ge (tgt := 39) dX4_findFault_14 (by decide) ⟨by omega, by omega⟩ ⟨by omega, by omega⟩ (fun hb14 => ?_) (fun hb14 => ?_)
  · refine x_iload_n dX4_findFault_39 rfl ?_
    refine x_if_eq (tgt := 47) dX4_findFault_40 (by decide) ⟨by omega, by omega⟩ (fun hb40 => ?_) (fun h => (h (by omega)).elim)
    refine x_aload_n dX4_findFault_47 rfl ?_
    refine gf_RX4_19 dX4_findFault_48 rfl (by assumption) ?_
    rw [he]
    exact x_ireturn dX4_findFault_51 rfl rfl ⟨Nat.le_refl _, Nat.le_refl _⟩ ⟨rfl, _, rfl, rfl, rfl⟩
  · refine x_iload_n dX4_findFault_17 rfl ?_
    refine x_if_eq (tgt := 39) dX4_findFault_18 (by decide) ⟨by omega, by omega⟩ (fun hb18 => ?_) (fun h => (h (by omega)).elim)
    refine x_iload_n dX4_findFault_39 rfl ?_
    refine x_if_eq (tgt := 47) dX4_findFault_40 (by decide) ⟨by omega, by omega⟩ (fun hb40 => ?_) (fun h => (h (by omega)).elim)
    refine x_aload_n dX4_findFault_47 rfl ?_
    refine gf_RX4_19 dX4_findFault_48 rfl (by assumption) ?_
    rw [he]
    exact x_ireturn dX4_findFault_51 rfl rfl ⟨Nat.le_refl _, Nat.le_refl _⟩ ⟨rfl, _, rfl, rfl, rfl⟩
theorem ff_loop {G : JG} {S : JS} {D0 : JD} {d : Nat} {o n : Int} {f : Int → Int} (hO : jOr S o) (hn0 : D0 o 1 = n) (hf0 : D0 (o + 1) = f) (n0 : 0 ≤ n) (n1 : n ≤ 60) (fr : ∀ z : Int, 0 ≤ f z ∧ f z ≤ 65535) : ∀ (K : Nat) (i p : Int) (D : JD), n - p ≤ K → 0 ≤ i → i + (n - p) ≤ 60 → D o 2 = p → 0 ≤ p → p ≤ n → (∀ x k : Int, ¬ (x = o ∧ 2 ≤ k ∧ k ≤ 5) → D x k = D0 x k) → JX G yX4_findFault cX4_findFault 3 (some .int) (d + 9) (0, 0) (0, 0) S D 11 [some (.inr (.inr (some o))), some (.inl 1), some (.inl i)] [] (jrP S (fun w D2 => jFf D0 D2 o (if n ≤ p then .inl [] else oAll f n K p) w)) := by
  obtain ⟨ok, ot, tk, tl⟩ := id hO
  intro K
  induction K with
  | zero =>
    intro i p D hk i0 hi hp p0 p1 hX
    have hn : D o 1 = n := by rw [hX o 1 (by omega)]; exact hn0
    have hf : D (o + 1) = f := by rw [← hf0]; funext z; exact hX _ z (by omega)
    rw [if_pos (show n ≤ p by omega)]
    refine x_iload_n dX4_findFault_11 rfl ?_
    refine x_bipush dX4_findFault_12 (by decide) ?_
    refine x_ic_ge (tgt := 39) dX4_findFault_14 (by decide) ⟨by omega, by omega⟩ ⟨by omega, by omega⟩ (fun hb14 => ?_) (fun hb14 => ?_)
    · refine x_iload_n dX4_findFault_39 rfl ?_
      refine x_if_eq (tgt := 47) dX4_findFault_40 (by decide) ⟨by omega, by omega⟩ (fun h => absurd h (by omega)) (fun hb40 => ?_)
      refine x_iconst dX4_findFault_43 ?_
      refine x_goto (tgt := 51) dX4_findFault_44 (by decide) ?_
      exact x_ireturn dX4_findFault_51 rfl rfl ⟨Nat.le_refl _, Nat.le_refl _⟩ ⟨rfl, _, rfl, rfl, hX⟩
    · refine x_iload_n dX4_findFault_17 rfl ?_
      refine x_if_eq (tgt := 39) dX4_findFault_18 (by decide) ⟨by omega, by omega⟩ (fun h => absurd h (by omega)) (fun hb18 => ?_)
      refine x_aload_n dX4_findFault_21 rfl ?_
      refine c_RX4_39d dX4_findFault_22 rfl (kX4_hasMore hO hn hf n0 n1 fr hp p0 p1) (by assumption) (Nat.le_of_ble_eq_true rfl) (Nat.le_of_ble_eq_true rfl) ⟨Nat.le_refl _, Nat.le_refl _⟩ ?_
      refine x_if_eq (tgt := 39) dX4_findFault_25 (by decide) ⟨by split <;> omega, by split <;> omega⟩ (fun hb25 => ?_) (fun h => (h (by omega)).elim)
      refine x_iload_n dX4_findFault_39 rfl ?_
      refine x_if_eq (tgt := 47) dX4_findFault_40 (by decide) ⟨by omega, by omega⟩ (fun h => absurd h (by omega)) (fun hb40 => ?_)
      refine x_iconst dX4_findFault_43 ?_
      refine x_goto (tgt := 51) dX4_findFault_44 (by decide) ?_
      exact x_ireturn dX4_findFault_51 rfl rfl ⟨Nat.le_refl _, Nat.le_refl _⟩ ⟨rfl, _, rfl, rfl, hX⟩
  | succ K ih =>
    intro i p D hk i0 hi hp p0 p1 hX
    have hn : D o 1 = n := by rw [hX o 1 (by omega)]; exact hn0
    have hf : D (o + 1) = f := by rw [← hf0]; funext z; exact hX _ z (by omega)
    by_cases hnp : n ≤ p
    · rw [if_pos hnp]
      refine x_iload_n dX4_findFault_11 rfl ?_
      refine x_bipush dX4_findFault_12 (by decide) ?_
      refine x_ic_ge (tgt := 39) dX4_findFault_14 (by decide) ⟨by omega, by omega⟩ ⟨by omega, by omega⟩ (fun hb14 => ?_) (fun hb14 => ?_)
      · refine x_iload_n dX4_findFault_39 rfl ?_
        refine x_if_eq (tgt := 47) dX4_findFault_40 (by decide) ⟨by omega, by omega⟩ (fun h => absurd h (by omega)) (fun hb40 => ?_)
        refine x_iconst dX4_findFault_43 ?_
        refine x_goto (tgt := 51) dX4_findFault_44 (by decide) ?_
        exact x_ireturn dX4_findFault_51 rfl rfl ⟨Nat.le_refl _, Nat.le_refl _⟩ ⟨rfl, _, rfl, rfl, hX⟩
      · refine x_iload_n dX4_findFault_17 rfl ?_
        refine x_if_eq (tgt := 39) dX4_findFault_18 (by decide) ⟨by omega, by omega⟩ (fun h => absurd h (by omega)) (fun hb18 => ?_)
        refine x_aload_n dX4_findFault_21 rfl ?_
        refine c_RX4_39d dX4_findFault_22 rfl (kX4_hasMore hO hn hf n0 n1 fr hp p0 p1) (by assumption) (Nat.le_of_ble_eq_true rfl) (Nat.le_of_ble_eq_true rfl) ⟨Nat.le_refl _, Nat.le_refl _⟩ ?_
        refine x_if_eq (tgt := 39) dX4_findFault_25 (by decide) ⟨by split <;> omega, by split <;> omega⟩ (fun hb25 => ?_) (fun h => (h (by omega)).elim)
        refine x_iload_n dX4_findFault_39 rfl ?_
        refine x_if_eq (tgt := 47) dX4_findFault_40 (by decide) ⟨by omega, by omega⟩ (fun h => absurd h (by omega)) (fun hb40 => ?_)
        refine x_iconst dX4_findFault_43 ?_
        refine x_goto (tgt := 51) dX4_findFault_44 (by decide) ?_
        exact x_ireturn dX4_findFault_51 rfl rfl ⟨Nat.le_refl _, Nat.le_refl _⟩ ⟨rfl, _, rfl, rfl, hX⟩
    · rw [if_neg hnp]
      cases hr : oRo f n p with
      | mk x q =>
        cases x with
        | none =>
          have ea : oAll f n (K + 1) p = .inr q := by unfold oAll; rw [hr]
          rw [ea]
          refine x_iload_n dX4_findFault_11 rfl ?_
          refine x_bipush dX4_findFault_12 (by decide) ?_
          refine x_ic_ge (tgt := 39) dX4_findFault_14 (by decide) ⟨by omega, by omega⟩ ⟨by omega, by omega⟩ (fun h => absurd h (by omega)) (fun hb14 => ?_)
          refine x_iload_n dX4_findFault_17 rfl ?_
          refine x_if_eq (tgt := 39) dX4_findFault_18 (by decide) ⟨by omega, by omega⟩ (fun h => absurd h (by omega)) (fun hb18 => ?_)
          refine x_aload_n dX4_findFault_21 rfl ?_
          refine c_RX4_39d dX4_findFault_22 rfl (kX4_hasMore hO hn hf n0 n1 fr hp p0 p1) (by assumption) (Nat.le_of_ble_eq_true rfl) (Nat.le_of_ble_eq_true rfl) ⟨Nat.le_refl _, Nat.le_refl _⟩ ?_
          refine x_if_eq (tgt := 39) dX4_findFault_25 (by decide) ⟨by split <;> omega, by split <;> omega⟩ (fun h => absurd h (by omega)) (fun hb25 => ?_)
          refine x_aload_n dX4_findFault_28 rfl ?_
          refine c_RX4_35p dX4_findFault_29 rfl (kX4_readOrder hO hn hf n0 n1 fr hp p0 p1) (by assumption) (Nat.le_of_ble_eq_true rfl) (Nat.le_of_ble_eq_true rfl) ⟨Nat.le_refl _, Nat.le_refl _⟩ (fun w1 D1 h1 => ?_)
          obtain ⟨r1, r2, r3⟩ := h1
          rw [hr] at r1 r3
          replace r3 : w1 = .inl 0 := r3
          subst r3
          refine x_istore_n dX4_findFault_32 (by decide) ?_
          show JX _ _ _ _ _ _ _ _ _ _ _ [_, _, _] _ _
          refine x_iinc dX4_findFault_33 rfl (by decide) ?_
          show JX _ _ _ _ _ _ _ _ _ _ _ [_, _, _] _ _
          refine x_goto (tgt := 11) dX4_findFault_36 (by decide) ?_
          refine (ff_bad (D := D1) (e := q) hO r1 ⟨by omega, by omega⟩).mono ?_
          rintro v S2 D2 ⟨rfl, w, rfl, g1, g2⟩
          exact ⟨rfl, w, rfl, g1, fun x k h => by rw [g2, r2 x k h, hX x k h]⟩
        | some t =>
          have qb := oRo_b p1 hr
          have ea : oAll f n (K + 1) p = if n ≤ q then .inl [t] else match oAll f n K q with | .inl l => .inl (t :: l) | .inr e => .inr e := by
            show (match oRo f n p with | (none, q) => (.inr q : List oOrd ⊕ Int) | (some o, q) => if n ≤ q then .inl [o] else match oAll f n K q with | .inl l => .inl (o :: l) | .inr e => .inr e) = _
            rw [hr]
          rw [ea]
          refine x_iload_n dX4_findFault_11 rfl ?_
          refine x_bipush dX4_findFault_12 (by decide) ?_
          refine x_ic_ge (tgt := 39) dX4_findFault_14 (by decide) ⟨by omega, by omega⟩ ⟨by omega, by omega⟩ (fun h => absurd h (by omega)) (fun hb14 => ?_)
          refine x_iload_n dX4_findFault_17 rfl ?_
          refine x_if_eq (tgt := 39) dX4_findFault_18 (by decide) ⟨by omega, by omega⟩ (fun h => absurd h (by omega)) (fun hb18 => ?_)
          refine x_aload_n dX4_findFault_21 rfl ?_
          refine c_RX4_39d dX4_findFault_22 rfl (kX4_hasMore hO hn hf n0 n1 fr hp p0 p1) (by assumption) (Nat.le_of_ble_eq_true rfl) (Nat.le_of_ble_eq_true rfl) ⟨Nat.le_refl _, Nat.le_refl _⟩ ?_
          refine x_if_eq (tgt := 39) dX4_findFault_25 (by decide) ⟨by split <;> omega, by split <;> omega⟩ (fun h => absurd h (by omega)) (fun hb25 => ?_)
          refine x_aload_n dX4_findFault_28 rfl ?_
          refine c_RX4_35p dX4_findFault_29 rfl (kX4_readOrder hO hn hf n0 n1 fr hp p0 p1) (by assumption) (Nat.le_of_ble_eq_true rfl) (Nat.le_of_ble_eq_true rfl) ⟨Nat.le_refl _, Nat.le_refl _⟩ (fun w1 D1 h1 => ?_)
          obtain ⟨r1, r2, r3⟩ := h1
          rw [hr] at r1 r3
          obtain ⟨r3, -⟩ := r3
          subst r3
          refine x_istore_n dX4_findFault_32 (by decide) ?_
          show JX _ _ _ _ _ _ _ _ _ _ _ [_, _, _] _ _
          refine x_iinc dX4_findFault_33 rfl (by decide) ?_
          show JX _ _ _ _ _ _ _ _ _ _ _ [_, _, _] _ _
          refine x_goto (tgt := 11) dX4_findFault_36 (by decide) ?_
          refine (ih (i + 1) q D1 (by omega) (by omega) (by omega) r1 (by omega) qb.2.1 (fun x k h => by rw [r2 x k h]; exact hX x k h)).mono ?_
          rintro v S2 D2 ⟨rfl, w, rfl, g1, g2⟩
          refine ⟨rfl, w, rfl, ?_, g2⟩
          by_cases hq : n ≤ q
          · rw [if_pos hq] at g1 ⊢; exact g1
          · rw [if_neg hq] at g1 ⊢
            cases hh : oAll f n K q with
            | inl l => rw [hh] at g1; exact g1
            | inr e => rw [hh] at g1; exact g1
theorem kX4_findFault_n {G : JG} {S : JS} {D : JD} {d : Nat} {o n : Int} {f : Int → Int} {q : Int} (hO : jOr S o) (hn : D o 1 = n) (hf : D (o + 1) = f) (n0 : 0 ≤ n) (n1 : n ≤ 60) (fr : ∀ z : Int, 0 ≤ f z ∧ f z ≤ 65535) (hr : oRo f n 0 = (none, q)) : JM G yX4_findFault cX4_findFault 3 (some .int) (d + 9) (0, 0) S D [.inr (.inr (some o))] (jrP S (fun w D2 => jFf D D2 o (oAll f n 61 0) w)) := by
  obtain ⟨ok, ot, tk, tl⟩ := id hO
  have hn1 : (jup D o 2 0) o 1 = n := by rw [jup_nk (by omega)]; exact hn
  have hf1 : (jup D o 2 0) (o + 1) = f := by rw [jup_off (by omega)]; exact hf
  have hp1 : (jup D o 2 0) o 2 = 0 := jup_eq
  have hX1 : ∀ x k : Int, ¬ (x = o ∧ 2 ≤ k ∧ k ≤ 5) → jup D o 2 0 x k = D x k := fun x k h => by
    by_cases q : x = o
    · rw [q, jup_nk (fun w => h ⟨q, by omega, by omega⟩)]
    · exact jup_ne q
  show JX _ _ _ _ _ _ _ _ _ _ _ [_, _, _] _ _
  refine x_aload_n dX4_findFault_0 rfl ?_
  refine c_RX4_32d dX4_findFault_1 rfl (kX4_rewind hO) (by assumption) (Nat.le_of_ble_eq_true rfl) (Nat.le_of_ble_eq_true rfl) ⟨Nat.le_refl _, Nat.le_refl _⟩ ?_
  refine x_aload_n dX4_findFault_4 rfl ?_
  refine c_RX4_35p dX4_findFault_5 rfl (kX4_readOrder hO hn1 hf1 n0 n1 fr hp1 (by omega) n0) (by assumption) (Nat.le_of_ble_eq_true rfl) (Nat.le_of_ble_eq_true rfl) ⟨Nat.le_refl _, Nat.le_refl _⟩ (fun w1 D1 h1 => ?_)
  obtain ⟨r1, r2, r3⟩ := h1
  rw [hr] at r1 r3
  replace r3 : w1 = .inl 0 := r3
  subst r3
  refine x_istore_n dX4_findFault_8 (by decide) ?_
  show JX _ _ _ _ _ _ _ _ _ _ _ [_, _, _] _ _
  refine x_iconst dX4_findFault_9 ?_
  refine x_istore_n dX4_findFault_10 (by decide) ?_
  show JX _ _ _ _ _ _ _ _ _ _ _ [_, _, _] _ _
  refine (ff_bad (D := D1) (e := q) hO r1 ⟨by omega, by omega⟩).mono ?_
  rintro v S2 D2 ⟨rfl, w, rfl, g1, g2⟩
  refine ⟨rfl, w, rfl, ?_, fun x k h => by rw [g2, r2 x k h, hX1 x k h]⟩
  rw [show oAll f n 61 0 = .inr q by unfold oAll; rw [hr]]
  exact g1
theorem kX4_findFault_y {G : JG} {S : JS} {D : JD} {d : Nat} {o n : Int} {f : Int → Int} {q : Int} {t : oOrd} (hO : jOr S o) (hn : D o 1 = n) (hf : D (o + 1) = f) (n0 : 0 ≤ n) (n1 : n ≤ 60) (fr : ∀ z : Int, 0 ≤ f z ∧ f z ≤ 65535) (hr : oRo f n 0 = (some t, q)) : JM G yX4_findFault cX4_findFault 3 (some .int) (d + 9) (0, 0) S D [.inr (.inr (some o))] (jrP S (fun w D2 => jFf D D2 o (oAll f n 61 0) w)) := by
  obtain ⟨ok, ot, tk, tl⟩ := id hO
  have hn1 : (jup D o 2 0) o 1 = n := by rw [jup_nk (by omega)]; exact hn
  have hf1 : (jup D o 2 0) (o + 1) = f := by rw [jup_off (by omega)]; exact hf
  have hp1 : (jup D o 2 0) o 2 = 0 := jup_eq
  have hX1 : ∀ x k : Int, ¬ (x = o ∧ 2 ≤ k ∧ k ≤ 5) → jup D o 2 0 x k = D x k := fun x k h => by
    by_cases q : x = o
    · rw [q, jup_nk (fun w => h ⟨q, by omega, by omega⟩)]
    · exact jup_ne q
  show JX _ _ _ _ _ _ _ _ _ _ _ [_, _, _] _ _
  refine x_aload_n dX4_findFault_0 rfl ?_
  refine c_RX4_32d dX4_findFault_1 rfl (kX4_rewind hO) (by assumption) (Nat.le_of_ble_eq_true rfl) (Nat.le_of_ble_eq_true rfl) ⟨Nat.le_refl _, Nat.le_refl _⟩ ?_
  refine x_aload_n dX4_findFault_4 rfl ?_
  refine c_RX4_35p dX4_findFault_5 rfl (kX4_readOrder hO hn1 hf1 n0 n1 fr hp1 (by omega) n0) (by assumption) (Nat.le_of_ble_eq_true rfl) (Nat.le_of_ble_eq_true rfl) ⟨Nat.le_refl _, Nat.le_refl _⟩ (fun w1 D1 h1 => ?_)
  obtain ⟨r1, r2, r3⟩ := h1
  rw [hr] at r1 r3
  obtain ⟨r3, -⟩ := r3
  subst r3
  have qb := oRo_b n0 hr
  refine x_istore_n dX4_findFault_8 (by decide) ?_
  show JX _ _ _ _ _ _ _ _ _ _ _ [_, _, _] _ _
  refine x_iconst dX4_findFault_9 ?_
  refine x_istore_n dX4_findFault_10 (by decide) ?_
  show JX _ _ _ _ _ _ _ _ _ _ _ [_, _, _] _ _
  refine (ff_loop (D0 := D) hO hn hf n0 n1 fr 60 0 q D1 (by omega) (by omega) (by omega) r1 (by omega) qb.2.1 (fun x k h => by rw [r2 x k h, hX1 x k h])).mono ?_
  rintro v S2 D2 ⟨rfl, w, rfl, g1, g2⟩
  refine ⟨rfl, w, rfl, ?_, g2⟩
  rw [show oAll f n 61 0 = if n ≤ q then .inl [t] else match oAll f n 60 q with | .inl l => .inl (t :: l) | .inr e => .inr e from by
    show (match oRo f n 0 with | (none, q) => (.inr q : List oOrd ⊕ Int) | (some o, q) => if n ≤ q then .inl [o] else match oAll f n 60 q with | .inl l => .inl (o :: l) | .inr e => .inr e) = _
    rw [hr]]
  by_cases hq : n ≤ q
  · rw [if_pos hq] at g1 ⊢; exact g1
  · rw [if_neg hq] at g1 ⊢
    cases hh : oAll f n 60 q with
    | inl l => rw [hh] at g1; exact g1
    | inr e => rw [hh] at g1; exact g1
theorem kX4_findFault {G : JG} {S : JS} {D : JD} {d : Nat} {o n : Int} {f : Int → Int} (hO : jOr S o) (hn : D o 1 = n) (hf : D (o + 1) = f) (n0 : 0 ≤ n) (n1 : n ≤ 60) (fr : ∀ z : Int, 0 ≤ f z ∧ f z ≤ 65535) : JM G yX4_findFault cX4_findFault 3 (some .int) (d + 9) (0, 0) S D [.inr (.inr (some o))] (jrP S (fun w D2 => jFf D D2 o (oAll f n 61 0) w)) := by
  cases hr : oRo f n 0 with
  | mk x q =>
    cases x with
    | none => exact kX4_findFault_n hO hn hf n0 n1 fr hr
    | some t => exact kX4_findFault_y hO hn hf n0 n1 fr hr
