/-! THE LAW: its invariant, and what each kind of call makes of it -/
def jTx (D : JD) (X M : Int) : Prop := D (X + 250) 1 = D M 7 ∧ 0 ≤ D M 7 ∧ D M 7 ≤ 60 ∧ D (X + 250 + 1) = D (M + 6) ∧ ∀ z : Int, 0 ≤ D (M + 6) z ∧ D (M + 6) z ≤ 65535
/-- the slot i of both: empty, or a flight of the class and a row of the reference that hold the same -/
def jSl (S : JS) (D : JD) (X M t i : Int) : Prop := (jR S (X + 249) i = none ∧ D (M + 5) i = 0) ∨ ∃ (f : Int) (s : Int → Int), jR S (X + 249) i = some f ∧ D (M + 5) i = 1 ∧ jFl S f ∧ M + 8 ≤ f ∧ f + 41 ≤ S.1 ∧ jFR D f s ∧ rIn t s ∧ ∀ j : Int, 0 ≤ j → j < 213 → D (M + 4) (213 * i + j) = s j
def jAp (S : JS) (X : Int) : Prop := ∀ i f g : Int, (i = 0 ∨ i = 1) → jR S (X + 249) i = some f → jR S (X + 249) (1 - i) = some g → f + 41 ≤ g ∨ g + 41 ≤ f
def jInv (S : JS) (D : JD) (X M t n : Int) (hs : Int → Int → Int) (r : Int → Int) (q : Int) : Prop :=
  jBL S X ∧ jMo S M ∧ M = X + 252 ∧ M + 8 ≤ S.1 ∧ jSt D X t 0 n hs r q ∧ D (M + 1) = r ∧ D M 6 = q ∧ jMh D M n hs ∧ jTx D X M ∧ (∀ i : Int, (i = 0 ∨ i = 1) → jSl S D X M t i) ∧ jAp S X
abbrev jIx (S : JS) (D : JD) (X M t : Int) : Prop := ∃ (n : Int) (hs : Int → Int → Int) (r : Int → Int) (q : Int), jInv S D X M t n hs r q
section LAW
variable {S : JS} {D D1 D2 : JD} {X M t n q : Int} {hs : Int → Int → Int} {r : Int → Int} {z : Zr} {w w2 : JV}
theorem jSl.frame {t2 i : Int} (h : jSl S D X M t i) (ht : t ≤ t2) (e4 : D2 (M + 4) = D (M + 4)) (e5 : D2 (M + 5) = D (M + 5)) (e : ∀ x k : Int, M + 8 ≤ x → D2 x k = D x k) : jSl S D2 X M t2 i := by
  rcases h with ⟨h1, h2⟩ | ⟨f, s, a1, a2, a3, a4, a5, a6, a7, a8⟩
  · exact Or.inl ⟨h1, by rw [e5]; exact h2⟩
  · exact Or.inr ⟨f, s, a1, by rw [e5]; exact a2, a3, a4, a5, a6.frame a7 (fun x k p q => e x k (by omega)), a7.mono ht, fun j x y => by rw [e4]; exact a8 j x y⟩
theorem jInv.step {t2 n2 q2 : Int} {hs2 : Int → Int → Int} {r2 : Int → Int} (hI : jInv S D X M t n hs r q) (ht : t ≤ t2) (hst : jSt D2 X t2 0 n2 hs2 r2 q2) (hr : D2 (M + 1) = r2) (hq : D2 M 6 = q2) (hm : jMh D2 M n2 hs2) (h7 : D2 M 7 = D M 7)
    (e : ∀ x k : Int, X + 249 ≤ x → x ≠ M → x ≠ M + 1 → x ≠ M + 2 → x ≠ M + 3 → x ≠ M + 7 → ¬ (x = X + 250 ∧ 2 ≤ k ∧ k ≤ 5) → D2 x k = D x k) : jInv S D2 X M t2 n2 hs2 r2 q2 := by
  obtain ⟨hB, hM, hX, hN, -, -, -, -, ⟨x1, x2, x3, x4, x5⟩, hs0, hap⟩ := hI
  have e6 : D2 (M + 6) = D (M + 6) := funext fun k => e _ k (by omega) (by omega) (by omega) (by omega) (by omega) (by omega) (by omega)
  refine ⟨hB, hM, hX, hN, hst, hr, hq, hm, ⟨?_, by rw [h7]; exact x2, by rw [h7]; exact x3, ?_, by rw [e6]; exact x5⟩, fun i hi => (hs0 i hi).frame ht ?_ ?_ ?_, hap⟩
  · rw [h7, e (X + 250) 1 (by omega) (by omega) (by omega) (by omega) (by omega) (by omega) (by omega)]; exact x1
  · rw [e6, show D2 (X + 250 + 1) = D (X + 250 + 1) from funext fun k => e _ k (by omega) (by omega) (by omega) (by omega) (by omega) (by omega) (by omega)]; exact x4
  · exact funext fun k => e _ k (by omega) (by omega) (by omega) (by omega) (by omega) (by omega) (by omega)
  · exact funext fun k => e _ k (by omega) (by omega) (by omega) (by omega) (by omega) (by omega) (by omega)
  · exact fun x k hx => e x k (by omega) (by omega) (by omega) (by omega) (by omega) (by omega) (by omega)
theorem jInv.mono {t2 : Int} (hI : jInv S D X M t n hs r q) (ht : t ≤ t2) : jInv S D X M t2 n hs r q :=
  hI.step ht (hI.2.2.2.2.1.mono ht) hI.2.2.2.2.2.1 hI.2.2.2.2.2.2.1 hI.2.2.2.2.2.2.2.1 rfl (fun _ _ _ _ _ _ _ _ _ => rfl)
theorem jInv.off (hI : jInv S D X M t n hs r q) (h : ∀ x k : Int, X + 252 ≤ x → D1 x k = D x k) : D1 (M + 1) = r ∧ jMh D1 M n hs ∧ D1 M 6 = q ∧ D1 M 7 = D M 7 ∧ D1 (M + 6) = D (M + 6) ∧ D1 (M + 4) = D (M + 4) ∧ D1 (M + 5) = D (M + 5) := by
  obtain ⟨hB, hM, hX, hN, hst, hr, hq, hm, -, -, -⟩ := hI
  exact ⟨by rw [← hr]; exact funext fun k => h _ k (by omega), hm.frame (h _ _ (by omega)) (funext fun k => h _ k (by omega)), by rw [← hq]; exact h _ _ (by omega), h _ _ (by omega), funext fun k => h _ k (by omega), funext fun k => h _ k (by omega), funext fun k => h _ k (by omega)⟩
theorem jInv.act (hI : jInv S D X M t n hs r q) (h1 : jCl D X (t + 100) 0 n hs r q z w D1) (h2 : jRf D1 M n hs r z w2 D2) : jIx S D2 X M (t + 100) := by
  obtain ⟨-, hx, h1⟩ := h1
  obtain ⟨-, ex, ek, h2⟩ := h2
  have hX := hI.2.2.1
  obtain ⟨o1, o2, o3, o7, o6, o4, o5⟩ := hI.off (fun x k p => hx x k (by omega))
  have fr : ∀ x k : Int, X ≤ x → x < X + 249 → D2 x k = D1 x k := fun x k p q => by rw [ex x (by omega) (by omega) (by omega) (by omega)]
  have ee : ∀ x k : Int, X + 249 ≤ x → x ≠ M → x ≠ M + 1 → x ≠ M + 2 → x ≠ M + 3 → x ≠ M + 7 → ¬ (x = X + 250 ∧ 2 ≤ k ∧ k ≤ 5) → D2 x k = D x k := fun x k p0 p1 p2 p3 p4 _ _ => by rw [ex x p1 p2 p3 p4]; exact hx x k (by omega)
  have h7 : D2 M 7 = D M 7 := by rw [ek 7 (by decide) (by decide)]; exact o7
  revert h1 h2
  cases z.2.1 with
  | none =>
    intro h1 h2
    obtain ⟨g1, g2, g3⟩ := h2
    exact ⟨_, _, _, _, hI.step (by omega) (h1.fr fr) g1 (by rw [g3, o3]) g2 h7 ee⟩
  | some r2 =>
    intro h1 h2
    obtain ⟨g1, g2, g3⟩ := h2
    exact ⟨_, _, _, _, hI.step (by omega) (h1.fr fr) g1 (by rw [g3, o3]) g2 h7 ee⟩
theorem jSt.cg {t : Int} {cz : Int} {r2 : Int → Int} (h : jSt D X t cz n hs r q) (e : ∀ j : Int, 0 ≤ j → j < 213 → r2 j = r j) : jSt D X t cz n hs r2 q := ⟨h.1, h.2.1, h.2.2.1.cong h.2.2.2.1 e, h.2.2.2.1.cong e, h.2.2.2.2⟩
theorem jInv.undo (hI : jInv S D X M t n hs r q) (h1 : jUn D X (t + 100) 0 n hs r q w D1) (h2 : jUr D1 M n hs w2 D2) : (∃ v : Int, w = .inl v ∧ w2 = .inl v) ∧ jIx S D2 X M (t + 100) := by
  obtain ⟨hx, h1⟩ := h1
  obtain ⟨ex, ek, h2⟩ := h2
  have hX := hI.2.2.1
  obtain ⟨o1, o2, o3, o7, o6, o4, o5⟩ := hI.off (fun x k p => hx x k (by omega))
  have fr : ∀ x k : Int, X ≤ x → x < X + 249 → D2 x k = D1 x k := fun x k p q => by rw [ex x (by omega) (by omega)]
  have ee : ∀ x k : Int, X + 249 ≤ x → x ≠ M → x ≠ M + 1 → x ≠ M + 2 → x ≠ M + 3 → x ≠ M + 7 → ¬ (x = X + 250 ∧ 2 ≤ k ∧ k ≤ 5) → D2 x k = D x k := fun x k p0 p1 p2 p3 p4 _ _ => by rw [ex x p1 p2]; exact hx x k (by omega)
  have h7 : D2 M 7 = D M 7 := by rw [ek 7 (by decide)]; exact o7
  have h6 : D2 M 6 = q := by rw [ek 6 (by decide)]; exact o3
  have e3 : D2 (M + 3) = D1 (M + 3) := ex _ (by omega) (by omega)
  by_cases hn : n = 0
  · rw [if_pos hn] at h1 h2
    obtain ⟨g1, g2, g3⟩ := h2
    exact ⟨⟨_, h1.1, g1⟩, _, _, _, _, hI.step (by omega) (h1.2.fr fr) (by rw [g3, o1]) h6 (o2.frame g2 e3) h7 ee⟩
  · rw [if_neg hn] at h1 h2
    obtain ⟨g1, g2, g3⟩ := h2
    obtain ⟨m1, m2, m3, m4⟩ := o2
    exact ⟨⟨_, h1.1, g1⟩, n - 1, hs, D2 (M + 1), q, hI.step (by omega) ((h1.2.fr fr).cg (fun j x y => g3 j x y)) rfl h6 ⟨g2, by omega, by omega, fun k j a b c d => by rw [e3]; exact m4 k j a (by omega) c d⟩ h7 ee⟩
theorem jInv.rest {s : Int → Int} (hI : jInv S D X M t n hs r q) (h1 : jRs D X (t + 100) 0 n hs s q r w D1) (h2 : jRr D1 M n hs r s w2 D2) : (∃ v : Int, w = .inl v ∧ w2 = .inl v) ∧ jIx S D2 X M (t + 100) := by
  obtain ⟨hx, h1, h1s⟩ := h1
  obtain ⟨h2, ex, ek, hm, hrow⟩ := h2
  have hX := hI.2.2.1
  obtain ⟨o1, o2, o3, o7, o6, o4, o5⟩ := hI.off (fun x k p => hx x k (by omega))
  have fr : ∀ x k : Int, X ≤ x → x < X + 249 → D2 x k = D1 x k := fun x k p q => by rw [ex x (by omega) (by omega) (by omega) (by omega)]
  exact ⟨⟨_, h1, h2⟩, _, _, D2 (M + 1), q, hI.step (by omega) ((h1s.fr fr).cg (fun j x y => hrow j x y)) rfl (by rw [ek 6 (by decide)]; exact o3) hm (by rw [ek 7 (by decide)]; exact o7) (fun x k p0 p1 p2 p3 p4 _ _ => by rw [ex x p1 p2 p3 p4]; exact hx x k (by omega))⟩
theorem jInv.run {res : List oOrd ⊕ Int} (hI : jInv S D X M t n hs r q) (h1 : jRc D X (t + 100) n hs r q res w D1) (h2 : jRu D1 M n hs r res w2 D2) : (∃ v : Int, w = .inl v ∧ w2 = .inl v) ∧ jIx S D2 X M (t + 100) := by
  obtain ⟨hx, h1⟩ := h1
  obtain ⟨ex, e7, h2⟩ := h2
  have hX := hI.2.2.1
  obtain ⟨o1, o2, o3, o7, o6, o4, o5⟩ := hI.off (fun x k p => hx x k (by omega) (by omega))
  have fr : ∀ x k : Int, X ≤ x → x < X + 249 → D2 x k = D1 x k := fun x k p q => by rw [ex x (by omega) (by omega) (by omega) (by omega) (by omega)]
  have ee : ∀ x k : Int, X + 249 ≤ x → x ≠ M → x ≠ M + 1 → x ≠ M + 2 → x ≠ M + 3 → x ≠ M + 7 → ¬ (x = X + 250 ∧ 2 ≤ k ∧ k ≤ 5) → D2 x k = D x k := fun x k p0 p1 p2 p3 p4 p5 p6 => by rw [ex x p1 p2 p3 p4 p5]; exact hx x k (by omega) p6
  have h7 : D2 M 7 = D M 7 := by rw [e7]; exact o7
  cases res with
  | inl l =>
    obtain ⟨c1, c2⟩ := h1
    obtain ⟨g1, g2, g3, g4⟩ := h2
    exact ⟨⟨_, c1, g1⟩, _, _, _, _, hI.step (by omega) (c2.fr fr) g2 (by rw [g4, o3]) g3 h7 ee⟩
  | inr e =>
    obtain ⟨c1, c2⟩ := h1
    obtain ⟨g1, g2, g3, g4⟩ := h2
    exact ⟨⟨_, c1, g1⟩, _, _, _, _, hI.step (by omega) (c2.fr fr) g2 (by rw [g4, o3]) g3 h7 ee⟩
/-- the text: a place of both has c, both lengths are m -/
theorem jInv.text {m : Int} (hI : jInv S D X M t n hs r q) (h0 : 0 ≤ m ∧ m ≤ 60) (h6 : D2 (X + 250 + 1) = D2 (M + 6) ∧ ∀ z : Int, 0 ≤ D2 (M + 6) z ∧ D2 (M + 6) z ≤ 65535) (h1 : D2 (X + 250) 1 = m) (h7 : D2 M 7 = m) (e7 : ∀ k : Int, k ≠ 7 → D2 M k = D M k)
    (e : ∀ x k : Int, x ≠ X + 250 → x ≠ X + 250 + 1 → x ≠ M → x ≠ M + 6 → D2 x k = D x k) : jInv S D2 X M t n hs r q := by
  obtain ⟨hB, hM, hX, hN, hst, hr, hq, hm, -, hs0, hap⟩ := hI
  refine ⟨hB, hM, hX, hN, hst.fr (fun x k p q => e x k (by omega) (by omega) (by omega) (by omega)), by rw [← hr]; exact funext fun k => e _ k (by omega) (by omega) (by omega) (by omega), by rw [← hq]; exact e7 6 (by decide), hm.frame (e7 3 (by decide)) (funext fun k => e _ k (by omega) (by omega) (by omega) (by omega)),
    ⟨by rw [h1, h7], by omega, by omega, h6.1, h6.2⟩, fun i hi => (hs0 i hi).frame (Int.le_refl _) (funext fun k => e _ k (by omega) (by omega) (by omega) (by omega)) (funext fun k => e _ k (by omega) (by omega) (by omega) (by omega)) (fun x k p => e x k (by omega) (by omega) (by omega) (by omega)), hap⟩
theorem jInv.keep {S2 : JS} {i f : Int} {v : Option JV} (hI : jInv S D X M t n hs r q) (hi : i = 0 ∨ i = 1) (hf : M + 8 ≤ f) (hap : ∀ g : Int, jR S (X + 249) (1 - i) = some g → f + 41 ≤ g ∨ g + 41 ≤ f) (h1 : jKe S D X t 0 n hs r q i f v S2 D1) (h2 : jKp D1 M i r w2 D2) : jInv S2 D2 X M t n hs r q := by
  obtain ⟨-, c2, c3, c4, c5, c6, c7, ⟨c8, c9⟩, c10, c11, c12⟩ := h1
  obtain ⟨-, g2, g3, g4, g5, g6⟩ := h2
  obtain ⟨hB, hM, hX, hN, hst, hr, hq, hm, ⟨x1, x2, x3, x4, x5⟩, hs0, -⟩ := hI
  have e : ∀ x k : Int, x < M + 8 → x ≠ M + 4 → x ≠ M + 5 → D2 x k = D x k := fun x k p0 p1 p2 => by rw [g2 x p1 p2]; exact c10 x k (by omega) (by omega)
  have e6 : D2 (M + 6) = D (M + 6) := funext fun k => e _ k (by omega) (by omega) (by omega)
  have e7 : D2 M 7 = D M 7 := e M 7 (by omega) (by omega) (by omega)
  refine ⟨hB.ext (fun x p q s => c7 x (by omega) s) c8 c9, hM.ext (fun x p q => c7 x (by omega) (by omega)), hX, by omega, c2.fr (fun x k p q => by rw [g2 x (by omega) (by omega)]), by rw [← hr]; exact funext fun k => e _ k (by omega) (by omega) (by omega), by rw [← hq]; exact e _ _ (by omega) (by omega) (by omega), hm.frame (e _ _ (by omega) (by omega) (by omega)) (funext fun k => e _ k (by omega) (by omega) (by omega)),
    ⟨by rw [e7, e (X + 250) 1 (by omega) (by omega) (by omega)]; exact x1, by rw [e7]; exact x2, by rw [e7]; exact x3, by rw [e6, show D2 (X + 250 + 1) = D (X + 250 + 1) from funext fun k => e _ k (by omega) (by omega) (by omega)]; exact x4, by rw [e6]; exact x5⟩, fun j hj => ?_, fun j a b hj ha hb => ?_⟩
  · by_cases hji : j = i
    · subst hji
      exact Or.inr ⟨f, r, c5, g5, c3, hf, c12, c4.frame hst.2.2.2.1 (fun x k p q => by rw [g2 x (by omega) (by omega)]), hst.2.2.2.1, g3⟩
    · have e5 : D2 (M + 5) j = D (M + 5) j := by rw [g6 j hji]; exact c10 _ _ (by omega) (by omega)
      rcases hs0 j hj with ⟨b1, b2⟩ | ⟨g, s, a1, a2, a3, a4, a5, a6, a7, a8⟩
      · exact Or.inl ⟨by rw [c6 j hji]; exact b1, by rw [e5]; exact b2⟩
      · have ag := hap g (by rw [show 1 - i = j by omega]; exact a1)
        exact Or.inr ⟨g, s, by rw [c6 j hji]; exact a1, by rw [e5]; exact a2, a3.ext (fun x p q => c7 x (by omega) (by omega)), a4, by omega, a6.frame a7 (fun x k p q => by rw [g2 x (by omega) (by omega)]; exact c10 x k (by omega) (by omega)), a7, fun k x y => by
          rw [g4 _ (by omega), c10 _ _ (by omega) (by omega)]; exact a8 k x y⟩
  · by_cases hji : j = i
    · subst hji
      rw [c5] at ha
      rw [c6 _ (by omega)] at hb
      cases ha
      exact hap b hb
    · have ej : 1 - j = i := by omega
      rw [c6 j hji] at ha
      rw [ej, c5] at hb
      cases hb
      have := hap a (by rw [show 1 - i = j by omega]; exact ha)
      omega
end LAW
section LROW
variable {G : JG} {y : MethodName} {cc : ByteArray} {nL : Nat} {rt : Option FieldType} {d : Nat} {kb kc : Nat × Nat} {S : JS} {D : JD} {pc : Nat} {ls : List (Option JV)} {st : List JV} {Q : Option JV → JS → JD → Prop}
theorem x_ic_same {a off : Int} {tgt : Nat} (hd : decode cc pc = .ok (.if_icmp .eq off, 3)) (ht : (pc : Int) + off = (tgt : Int)) (Kt : JX G y cc nL rt d kb kc S D tgt ls st Q) : JX G y cc nL rt d kb kc S D pc ls (.inl a :: .inl a :: st) Q := by
  intro p l e9 R s m args below meth c H locs A QM C h1 h2 h3 h4 hS hl hA hK
  exact lv_icmp_eq C.1 C.2.1 hd ht (fun _ => Kt p l e9 R s m args below meth c H locs A QM C h1 h2 h3 h4 hS hl hA hK) (fun q => absurd rfl q)
theorem x_lcmp_same {a : Int} (hd : decode cc pc = .ok (.lcmp, 1)) (K : JX G y cc nL rt d kb kc S D (pc + 1) ls (.inl 0 :: st) Q) : JX G y cc nL rt d kb kc S D pc ls (.inr (.inl a) :: .inr (.inl a) :: st) Q := by
  intro p l e9 R s m args below meth c H locs A QM C h1 h2 h3 h4 hS hl hA hK
  refine W.lcmp C.1 C.2.1 hd ?_
  have z : lg_cmp (Int64.ofInt a) (Int64.ofInt a) = Int32.ofInt 0 := by
    have w1 : ¬ Int64.ofInt a > Int64.ofInt a := by rw [gt_iff_lt, Int64.lt_iff_toInt_lt]; omega
    unfold lg_cmp
    rw [if_neg w1, if_pos rfl]
    rfl
  rw [z]
  exact K p l e9 R s m args below meth c H locs A QM C h1 h2 h3 h4 hS hl hA hK
end LROW
theorem gxi {x : Int32} : i32 x.toInt := by
  have h1 := Int32.le_toInt x
  have h2 := Int32.toInt_lt x
  constructor <;> omega
