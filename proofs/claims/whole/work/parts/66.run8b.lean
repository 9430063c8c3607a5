/-! THE REFERENCE: runOrders -/
theorem oSeq_len {f : Int → Int} {n : Int} : ∀ (l : List oOrd) (p : Int), p ≤ n → oSeq f n l p → p + 5 * l.length ≤ n
  | [], p, hp, _ => by rw [List.length_nil]; omega
  | o :: l, p, hp, h => by
    obtain ⟨h1, q, h2, h3⟩ := h
    have hl : (((o :: l).length : Nat) : Int) = l.length + 1 := by rw [List.length_cons]; omega
    have qb := oRo_b hp h2
    have ih := oSeq_len l q qb.2.1 h3
    omega
/-- the end of runOrders: N states in the history hs, the row r, the orders or the fault -/
def jRu (D : JD) (M N : Int) (hs : Int → Int → Int) (r : Int → Int) (res : List oOrd ⊕ Int) (w : JV) (D2 : JD) : Prop :=
  (∀ x : Int, x ≠ M → x ≠ M + 1 → x ≠ M + 2 → x ≠ M + 3 → x ≠ M + 7 → D2 x = D x) ∧ D2 M 7 = D M 7 ∧ (match res with
    | .inl l => w = .inl (oRun l r).1 ∧ D2 (M + 1) = sAll (oRun l r).2.1 ∧ jMh D2 M (sRecN N) (sRecH N hs r) ∧ D2 M 6 = (if (oRun l r).2.2 = 0 then D M 6 else (oRun l r).2.2)
    | .inr e => w = .inl (-100 - e) ∧ D2 (M + 1) = r ∧ jMh D2 M N hs ∧ D2 M 6 = D M 6)
theorem ru_bad {G : JG} {S : JS} {D : JD} {d : Nat} {M e : Int} (hM : jMo S M) (hF : D M 10 = e) (e0 : 0 ≤ e ∧ e ≤ 60) : JX G yX8_runOrders cX8_runOrders 2 (some .int) (d + 8) (0, 0) (0, 0) S D 55 [some (.inr (.inr (some M))), none] [] (jrP S (fun w D2 => w = .inl (-100 - e) ∧ D2 = D)) := by
  have mk := hM.1
  refine x_aload_n dX8_runOrders_55 rfl ?_
  refine gf_RX8_187 dX8_runOrders_56 rfl (by assumption) ?_
  rw [hF]
  refine x_if_lt (tgt := 70) dX8_runOrders_59 (by decide) ⟨by omega, by omega⟩ (fun h => absurd h (by omega)) (fun hb59 => ?_)
  refine x_bipush dX8_runOrders_62 (by decide) ?_
  refine x_aload_n dX8_runOrders_64 rfl ?_
  refine gf_RX8_187 dX8_runOrders_65 rfl (by assumption) ?_
  rw [hF]
  refine x_isub dX8_runOrders_68 ?_
  exact x_ireturn dX8_runOrders_69 rfl rfl ⟨Nat.le_refl _, Nat.le_refl _⟩ ⟨rfl, _, rfl, rfl, rfl⟩
theorem ru_good {G : JG} {S : JS} {D0 D : JD} {d : Nat} {M N t : Int} {hs : Int → Int → Int} {r : Int → Int} {L : List oOrd} (hM : jMo S M) (hr0 : D0 (M + 1) = r) (hI : rIn t r) (ht : t + 100 ≤ 60000) (hm0 : jMh D0 M N hs) (hL : (L.length : Int) ≤ 25) (hg : jPg D0 D M L) : JX G yX8_runOrders cX8_runOrders 2 (some .int) (d + 8) (0, 0) (0, 0) S D 55 [some (.inr (.inr (some M))), none] [] (jrP S (jRu D0 M N hs r (.inl L))) := by
  obtain ⟨hA, hk, hF, hz⟩ := hg
  have hr : D (M + 1) = r := by rw [hz.1 _ (by omega) (by omega)]; exact hr0
  have hm : jMh D M N hs := hm0.frame (hz.2 3 (by omega) (by omega) (by omega)) (hz.1 _ (by omega) (by omega))
  have hM0 := hM
  have mk := hM.1
  have rb := oRun_b L t r hI (by omega)
  refine x_aload_n dX8_runOrders_55 rfl ?_
  refine gf_RX8_187 dX8_runOrders_56 rfl (by assumption) ?_
  rw [hF]
  refine x_if_lt (tgt := 70) dX8_runOrders_59 (by decide) ⟨by omega, by omega⟩ (fun hb59 => ?_) (fun h => (h (by omega)).elim)
  refine x_aload_n dX8_runOrders_70 rfl ?_
  refine c_RX8_53p dX8_runOrders_71 rfl (kX8_begin hM0 hr) (by assumption) (Nat.le_of_ble_eq_true rfl) (Nat.le_of_ble_eq_true rfl) ⟨Nat.le_refl _, Nat.le_refl _⟩ (fun D1 h1 => ?_)
  obtain ⟨hsc, bx⟩ := h1
  have hr1 : D1 (M + 1) = r := by rw [bx _ (by omega)]; exact hr
  have hm1 : jMh D1 M N hs := hm.frame (by rw [bx M (by omega)]) (bx _ (by omega))
  have hA1 : oArr D1 M 0 L := oArr.cong L 0 hA (fun j _ => by rw [bx _ (by omega)])
  have hk1 : D1 M 11 = L.length := by rw [bx M (by omega)]; exact hk
  refine x_iconst dX8_runOrders_74 ?_
  refine x_istore_n dX8_runOrders_75 (by decide) ?_
  show JX _ _ _ _ _ _ _ _ _ _ _ [_, _] _ _
  refine run_loop hM L 0 t r D1 (by omega) (by omega) (by omega) (by rw [hk1]; omega) hA1 hr1 hI (fun D2 a1 a2 a3 a4 => ?_)
  have hd : jDo D2 M r ((oRun L r).1, some (oRun L r).2.1, 0) (.inl (oRun L r).1) D2 := ⟨rfl, fun _ _ _ => rfl, fun _ _ => rfl, a1, by rw [if_pos rfl]⟩
  have hm2 : jMh D2 M N hs := hm1.frame (a4 3 (by omega)) (a3 _ (by omega) (by omega))
  have hsc2 : ∀ k : Int, 0 ≤ k → k < 213 → D2 (M + 2) k = r k := fun k x y => by rw [a3 _ (by omega) (by omega)]; exact hsc k x y
  rw [show (0 : Int) + (oRun L r).1 = (oRun L r).1 by omega]
  refine x_aload_n dX8_runOrders_106 rfl ?_
  refine x_iload_n dX8_runOrders_107 rfl ?_
  refine c_RX8_110p dX8_runOrders_108 rfl (kX8_doneZ (t := t + 99) (z := ((oRun L r).1, some (oRun L r).2.1, 0)) hM hm2 hsc2 (by omega) hd (zGood_s (by omega) (by omega) (rb.2.2.mono (by omega)))) (by assumption) (Nat.le_of_ble_eq_true rfl) (Nat.le_of_ble_eq_true rfl) ⟨Nat.le_refl _, Nat.le_refl _⟩ (fun w9 D9 h9 => ?_)
  obtain ⟨hw, b1, b2, b3, b4, b5⟩ := h9
  subst hw
  have d6 : D2 M 6 = if (oRun L r).2.2 = 0 then D0 M 6 else (oRun L r).2.2 := by rw [a2, bx M (by omega), hz.2 6 (by omega) (by omega) (by omega)]
  exact x_ireturn dX8_runOrders_111 rfl rfl ⟨Nat.le_refl _, Nat.le_refl _⟩ ⟨rfl, _, rfl, fun x p q u v y => by rw [b1 x p q u v, a3 x p q, bx x u, hz.1 x p y], by rw [b2 7 (by omega) (by omega), a4 7 (by omega), bx M (by omega), hz.2 7 (by omega) (by omega) (by omega)], rfl, b3, b4, by rw [b5]; exact d6⟩
theorem ru_n {G : JG} {S : JS} {D : JD} {d : Nat} {n M N t : Int} {f : Int → Int} {hs : Int → Int → Int} {r : Int → Int} {q : Int} (hM : jMo S M) (hn : D M 7 = n) (hf : D (M + 6) = f) (n0 : 0 ≤ n) (n1 : n ≤ 60) (fr : ∀ z : Int, 0 ≤ f z ∧ f z ≤ 65535) (hr : D (M + 1) = r) (hI : rIn t r) (ht : t + 100 ≤ 60000) (hm : jMh D M N hs) (hx : oRd f n 0 = (none, q)) : JM G yX8_runOrders cX8_runOrders 2 (some .int) (d + 8) (0, 0) S D [.inr (.inr (some M))] (jrP S (jRu D M N hs r (oAll f n 61 0))) := by
  have mk := hM.1
  have qq := oRd_q (f := f) n0
  rw [hx] at qq
  replace qq : 0 ≤ q ∧ q ≤ n := qq
  rw [show oAll f n 61 0 = .inr q by unfold oAll oRo; rw [if_neg (by omega), hx]]
  show JX _ _ _ _ _ _ _ _ _ _ _ [_, _] _ _
  refine x_aload_n dX8_runOrders_0 rfl ?_
  refine x_iconst dX8_runOrders_1 ?_
  refine pf_RX8_190 dX8_runOrders_2 rfl (by assumption) ?_
  refine x_aload_n dX8_runOrders_5 rfl ?_
  refine x_ldc (e := -100000005) dX8_runOrders_6 ct_RX8_48 (by decide) ?_
  refine pf_RX8_187 dX8_runOrders_8 rfl (by assumption) ?_
  refine x_aload_n dX8_runOrders_11 rfl ?_
  refine x_iconst dX8_runOrders_12 ?_
  refine pf_RX8_203 dX8_runOrders_13 rfl (by assumption) ?_
  refine x_aload_n dX8_runOrders_16 rfl ?_
  refine c_RX8_209p dX8_runOrders_17 rfl (kX8_readOrder (p := 0) (F := -100000005) (k := 0) hM (by (repeat (first | rw [jup_eq] | rw [jup_ne (by omega)] | rw [jup_nk (by omega)])); exact hn) (by (repeat (rw [jup_off (by omega)])); exact hf) n0 n1 fr (by repeat (first | rw [jup_eq] | rw [jup_ne (by omega)] | rw [jup_nk (by omega)])) (by omega) n0 (by repeat (first | rw [jup_eq] | rw [jup_ne (by omega)] | rw [jup_nk (by omega)])) ⟨by omega, by omega⟩ (by omega) jup_eq (by omega) (by omega)) (by assumption) (Nat.le_of_ble_eq_true rfl) (Nat.le_of_ble_eq_true rfl) ⟨Nat.le_refl _, Nat.le_refl _⟩ (fun D2 h2 => ?_)
  obtain ⟨r1, r2, r3, r4⟩ := h2
  rw [hx] at r4
  have hz : jPz D D2 M := ⟨fun y p q => by rw [r1 y p q, jup_off p, jup_off p, jup_off p], fun z p q s => by rw [r2 z p q s, jup_nk s, jup_nk q, jup_nk p]⟩
  refine (par_bad (D0 := D) (e := q) hM ⟨by omega, by omega⟩ ⟨r4, hz⟩ ((ru_bad hM r4 ⟨by omega, by omega⟩).mono ?_))
  rintro v S2 D4 ⟨rfl, w, rfl, g1, g2⟩
  subst g2
  exact ⟨rfl, _, rfl, fun x p q u v y => hz.1 x p y, hz.2 7 (by omega) (by omega) (by omega), g1, by rw [hz.1 _ (by omega) (by omega)]; exact hr, hm.frame (hz.2 3 (by omega) (by omega) (by omega)) (hz.1 _ (by omega) (by omega)), hz.2 6 (by omega) (by omega) (by omega)⟩
theorem ru_f {G : JG} {S : JS} {D : JD} {d : Nat} {n M N t : Int} {f : Int → Int} {hs : Int → Int → Int} {r : Int → Int} {q : Int} {o : oOrd} (hM : jMo S M) (hn : D M 7 = n) (hf : D (M + 6) = f) (n0 : 0 ≤ n) (n1 : n ≤ 60) (fr : ∀ z : Int, 0 ≤ f z ∧ f z ≤ 65535) (hr : D (M + 1) = r) (hI : rIn t r) (ht : t + 100 ≤ 60000) (hm : jMh D M N hs) (hx : oRd f n 0 = (some o, q)) (hb : q < n ∧ f q ≠ 59) : JM G yX8_runOrders cX8_runOrders 2 (some .int) (d + 8) (0, 0) S D [.inr (.inr (some M))] (jrP S (jRu D M N hs r (oAll f n 61 0))) := by
  have mk := hM.1
  have qb := oRd_b n0 hx
  have ea : oAll f n 61 0 = if n ≤ q then .inl [o] else match oAll f n 60 q with | .inl l => .inl (o :: l) | .inr e => .inr e := by
    show (match oRo f n 0 with | (none, q) => (.inr q : List oOrd ⊕ Int) | (some o, q) => if n ≤ q then .inl [o] else match oAll f n 60 q with | .inl l => .inl (o :: l) | .inr e => .inr e) = _
    unfold oRo
    rw [if_neg (by omega), hx]
  rw [ea, if_neg (by omega)]
  have e9 : oRo f n q = (none, q) := by unfold oRo; rw [if_pos (by omega), if_neg (fun w => hb.2 w.2)]
  rw [show oAll f n 60 q = .inr q by unfold oAll; rw [e9]]
  show JX _ _ _ _ _ _ _ _ _ _ _ [_, _] _ _
  refine x_aload_n dX8_runOrders_0 rfl ?_
  refine x_iconst dX8_runOrders_1 ?_
  refine pf_RX8_190 dX8_runOrders_2 rfl (by assumption) ?_
  refine x_aload_n dX8_runOrders_5 rfl ?_
  refine x_ldc (e := -100000005) dX8_runOrders_6 ct_RX8_48 (by decide) ?_
  refine pf_RX8_187 dX8_runOrders_8 rfl (by assumption) ?_
  refine x_aload_n dX8_runOrders_11 rfl ?_
  refine x_iconst dX8_runOrders_12 ?_
  refine pf_RX8_203 dX8_runOrders_13 rfl (by assumption) ?_
  refine x_aload_n dX8_runOrders_16 rfl ?_
  refine c_RX8_209p dX8_runOrders_17 rfl (kX8_readOrder (p := 0) (F := -100000005) (k := 0) hM (by (repeat (first | rw [jup_eq] | rw [jup_ne (by omega)] | rw [jup_nk (by omega)])); exact hn) (by (repeat (rw [jup_off (by omega)])); exact hf) n0 n1 fr (by repeat (first | rw [jup_eq] | rw [jup_ne (by omega)] | rw [jup_nk (by omega)])) (by omega) n0 (by repeat (first | rw [jup_eq] | rw [jup_ne (by omega)] | rw [jup_nk (by omega)])) ⟨by omega, by omega⟩ (by omega) jup_eq (by omega) (by omega)) (by assumption) (Nat.le_of_ble_eq_true rfl) (Nat.le_of_ble_eq_true rfl) ⟨Nat.le_refl _, Nat.le_refl _⟩ (fun D2 h2 => ?_)
  obtain ⟨r1, r2, r3, r4⟩ := h2
  rw [hx] at r4
  have hz : jPz D D2 M := ⟨fun y p q => by rw [r1 y p q, jup_off p, jup_off p, jup_off p], fun z p q s => by rw [r2 z p q s, jup_nk s, jup_nk q, jup_nk p]⟩
  obtain ⟨x9, x11, w0, w1, w2, x10⟩ := r4
  rw [if_pos hb] at x10
  refine (par_bad (D0 := D) (e := q) hM ⟨by omega, by omega⟩ ⟨x10, hz⟩ ((ru_bad hM x10 ⟨by omega, by omega⟩).mono ?_))
  rintro v S2 D4 ⟨rfl, w, rfl, g1, g2⟩
  subst g2
  exact ⟨rfl, _, rfl, fun x p q u v y => hz.1 x p y, hz.2 7 (by omega) (by omega) (by omega), g1, by rw [hz.1 _ (by omega) (by omega)]; exact hr, hm.frame (hz.2 3 (by omega) (by omega) (by omega)) (hz.1 _ (by omega) (by omega)), hz.2 6 (by omega) (by omega) (by omega)⟩
theorem ru_y {G : JG} {S : JS} {D : JD} {d : Nat} {n M N t : Int} {f : Int → Int} {hs : Int → Int → Int} {r : Int → Int} {q : Int} {o : oOrd} (hM : jMo S M) (hn : D M 7 = n) (hf : D (M + 6) = f) (n0 : 0 ≤ n) (n1 : n ≤ 60) (fr : ∀ z : Int, 0 ≤ f z ∧ f z ≤ 65535) (hr : D (M + 1) = r) (hI : rIn t r) (ht : t + 100 ≤ 60000) (hm : jMh D M N hs) (hx : oRd f n 0 = (some o, q)) (hb : ¬ (q < n ∧ f q ≠ 59)) : JM G yX8_runOrders cX8_runOrders 2 (some .int) (d + 8) (0, 0) S D [.inr (.inr (some M))] (jrP S (jRu D M N hs r (oAll f n 61 0))) := by
  have mk := hM.1
  have qb := oRd_b n0 hx
  have ea : oAll f n 61 0 = if n ≤ q then .inl [o] else match oAll f n 60 q with | .inl l => .inl (o :: l) | .inr e => .inr e := by
    show (match oRo f n 0 with | (none, q) => (.inr q : List oOrd ⊕ Int) | (some o, q) => if n ≤ q then .inl [o] else match oAll f n 60 q with | .inl l => .inl (o :: l) | .inr e => .inr e) = _
    unfold oRo
    rw [if_neg (by omega), hx]
  show JX _ _ _ _ _ _ _ _ _ _ _ [_, _] _ _
  refine x_aload_n dX8_runOrders_0 rfl ?_
  refine x_iconst dX8_runOrders_1 ?_
  refine pf_RX8_190 dX8_runOrders_2 rfl (by assumption) ?_
  refine x_aload_n dX8_runOrders_5 rfl ?_
  refine x_ldc (e := -100000005) dX8_runOrders_6 ct_RX8_48 (by decide) ?_
  refine pf_RX8_187 dX8_runOrders_8 rfl (by assumption) ?_
  refine x_aload_n dX8_runOrders_11 rfl ?_
  refine x_iconst dX8_runOrders_12 ?_
  refine pf_RX8_203 dX8_runOrders_13 rfl (by assumption) ?_
  refine x_aload_n dX8_runOrders_16 rfl ?_
  refine c_RX8_209p dX8_runOrders_17 rfl (kX8_readOrder (p := 0) (F := -100000005) (k := 0) hM (by (repeat (first | rw [jup_eq] | rw [jup_ne (by omega)] | rw [jup_nk (by omega)])); exact hn) (by (repeat (rw [jup_off (by omega)])); exact hf) n0 n1 fr (by repeat (first | rw [jup_eq] | rw [jup_ne (by omega)] | rw [jup_nk (by omega)])) (by omega) n0 (by repeat (first | rw [jup_eq] | rw [jup_ne (by omega)] | rw [jup_nk (by omega)])) ⟨by omega, by omega⟩ (by omega) jup_eq (by omega) (by omega)) (by assumption) (Nat.le_of_ble_eq_true rfl) (Nat.le_of_ble_eq_true rfl) ⟨Nat.le_refl _, Nat.le_refl _⟩ (fun D2 h2 => ?_)
  obtain ⟨r1, r2, r3, r4⟩ := h2
  rw [hx] at r4
  have hz : jPz D D2 M := ⟨fun y p q => by rw [r1 y p q, jup_off p, jup_off p, jup_off p], fun z p q s => by rw [r2 z p q s, jup_nk s, jup_nk q, jup_nk p]⟩
  obtain ⟨x9, x11, w0, w1, w2, x10⟩ := r4
  rw [if_neg hb] at x10
  have hl1 : ((([o] : List oOrd).length : Nat) : Int) = 1 := rfl
  refine par_loop (D0 := D) (f := f) (n := n) hM hn hf n0 n1 fr 60 q [o] D2 (by omega) (by omega) qb.2.1 (by rw [hl1]; omega) (fun w => Classical.byContradiction (fun w2 => hb ⟨w, w2⟩)) ⟨w0, w1, w2, qb.2.2, trivial⟩ (by rw [hl1]; exact x11) x10 x9 hz ?_
  have hall : ∀ L : List oOrd, oAll f n 61 0 = .inl L → (L.length : Int) ≤ 25 := fun L hL => by
    have := oSeq_len L 0 n0 (oAll_seq 61 0 L (by omega) n0 hL)
    omega
  have hflt : ∀ e : Int, oAll f n 61 0 = .inr e → 0 ≤ e ∧ e ≤ n := fun e he => oAll_fault 61 0 e (by omega) n0 he
  by_cases hq : n ≤ q
  · rw [if_pos hq] at ea ⊢
    show ∀ D3 : JD, jPg D D3 M ([o] ++ []) → _
    intro D3 hg
    rw [List.append_nil] at hg
    rw [ea]
    exact ru_good hM hr hI ht hm (hall [o] ea) hg
  · rw [if_neg hq] at ea ⊢
    cases hh : oAll f n 60 q with
    | inl l =>
      rw [hh] at ea
      show ∀ D3 : JD, jPg D D3 M ([o] ++ l) → _
      intro D3 hg
      rw [ea]
      exact ru_good hM hr hI ht hm (hall (o :: l) ea) hg
    | inr e =>
      rw [hh] at ea
      show ∀ D3 : JD, jPb D D3 M e → _
      intro D3 hg
      have eb := hflt e ea
      rw [ea]
      refine (ru_bad hM hg.1 ⟨by omega, by omega⟩).mono ?_
      rintro v S2 D4 ⟨rfl, w, rfl, g1, g2⟩
      subst g2
      have hz3 := hg.2
      exact ⟨rfl, _, rfl, fun x p q u v y => hz3.1 x p y, hz3.2 7 (by omega) (by omega) (by omega), g1, by rw [hz3.1 _ (by omega) (by omega)]; exact hr, hm.frame (hz3.2 3 (by omega) (by omega) (by omega)) (hz3.1 _ (by omega) (by omega)), hz3.2 6 (by omega) (by omega) (by omega)⟩
theorem kX8_runOrders {G : JG} {S : JS} {D : JD} {d : Nat} {n M N t : Int} {f : Int → Int} {hs : Int → Int → Int} {r : Int → Int} (hM : jMo S M) (hn : D M 7 = n) (hf : D (M + 6) = f) (n0 : 0 ≤ n) (n1 : n ≤ 60) (fr : ∀ z : Int, 0 ≤ f z ∧ f z ≤ 65535) (hr : D (M + 1) = r) (hI : rIn t r) (ht : t + 100 ≤ 60000) (hm : jMh D M N hs) : JM G yX8_runOrders cX8_runOrders 2 (some .int) (d + 8) (0, 0) S D [.inr (.inr (some M))] (jrP S (jRu D M N hs r (oAll f n 61 0))) := by
  cases hx : oRd f n 0 with
  | mk x q =>
    cases x with
    | none => exact ru_n hM hn hf n0 n1 fr hr hI ht hm hx
    | some o =>
      by_cases hb : q < n ∧ f q ≠ 59
      · exact ru_f hM hn hf n0 n1 fr hr hI ht hm hx hb
      · exact ru_y hM hn hf n0 n1 fr hr hI ht hm hx hb
