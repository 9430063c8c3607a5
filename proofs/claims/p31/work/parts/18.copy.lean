/-! COPIES -/
theorem dWc_off {D : JD} {w o x k : Int} (h : x ≠ o) : dWc D w o x k = D x k := by simp only [dWc, jup_ne h]
theorem dWc_at {D : JD} {w o k : Int} (h : w ≠ o) (h0 : 0 ≤ k) (h1 : k < 5) : dWc D w o o k = D w k := by
  rcases (by omega : k = 0 ∨ k = 1 ∨ k = 2 ∨ k = 3 ∨ k = 4) with rfl | rfl | rfl | rfl | rfl <;> simp [dWc, jup, h]
theorem dSc_off {D : JD} {w o x k : Int} (h : x ≠ o) : dSc D w o x k = D x k := by simp only [dSc, jup_ne h]
theorem dSc_at {D : JD} {w o k : Int} (h : w ≠ o) (h0 : 0 ≤ k) (h1 : k < 3) : dSc D w o o k = D w k := by
  rcases (by omega : k = 0 ∨ k = 1 ∨ k = 2) with rfl | rfl | rfl <;> simp [dSc, jup, h]
theorem dBc_off {D : JD} {w o x k : Int} (h : x ≠ o) : dBc D w o x k = D x k := by simp only [dBc, jup_ne h]
theorem dBc_at {D : JD} {w o k : Int} (h : w ≠ o) (h0 : 0 ≤ k) (h1 : k < 8) : dBc D w o o k = D w k := by
  rcases (by omega : k = 0 ∨ k = 1 ∨ k = 2 ∨ k = 3 ∨ k = 4 ∨ k = 5 ∨ k = 6 ∨ k = 7) with rfl | rfl | rfl | rfl | rfl | rfl | rfl | rfl <;> simp [dBc, jup, h]
theorem dCc_off {D : JD} {c o x k : Int} (h : x < o ∨ o + 5 ≤ x) : dCc D c o x k = D x k := by
  simp only [dCc]
  rw [jup_ne (by omega), jup_ne (by omega), jup_ne (by omega), jup_ne (by omega), jcp_ne (by omega), dSc_off (by omega), dSc_off (by omega), dWc_off (by omega)]
theorem dCc_w {D : JD} {c o k : Int} (h : c + 5 ≤ o ∨ o + 5 ≤ c) (h0 : 0 ≤ k) (h1 : k < 5) : dCc D c o (o + 1) k = D (c + 1) k := by
  simp only [dCc]
  rw [jup_ne (by omega), jup_ne (by omega), jup_ne (by omega), jup_ne (by omega), jcp_ne (by omega), dSc_off (by omega), dSc_off (by omega), dWc_at (by omega) h0 h1]
theorem dCc_l {D : JD} {c o k : Int} (h : c + 5 ≤ o ∨ o + 5 ≤ c) (h0 : 0 ≤ k) (h1 : k < 3) : dCc D c o (o + 2) k = D (c + 2) k := by
  simp only [dCc]
  rw [jup_ne (by omega), jup_ne (by omega), jup_ne (by omega), jup_ne (by omega), jcp_ne (by omega), dSc_off (by omega), dSc_at (by omega) h0 h1, dWc_off (by omega)]
theorem dCc_u {D : JD} {c o k : Int} (h : c + 5 ≤ o ∨ o + 5 ≤ c) (h0 : 0 ≤ k) (h1 : k < 3) : dCc D c o (o + 3) k = D (c + 3) k := by
  simp only [dCc]
  rw [jup_ne (by omega), jup_ne (by omega), jup_ne (by omega), jup_ne (by omega), jcp_ne (by omega), dSc_at (by omega) h0 h1, dSc_off (by omega), dWc_off (by omega)]
theorem jcp_at {D : JD} {a0 sp a dp n z : Int} (h0 : dp ≤ z) (h1 : z < dp + n) : jcp D a0 sp a dp n a z = D a0 (sp + (z - dp)) := by
  unfold jcp
  rw [if_pos ⟨rfl, h0, h1⟩]
theorem jcp_out {D : JD} {a0 sp a dp n x z : Int} (h : z < dp ∨ dp + n ≤ z) : jcp D a0 sp a dp n x z = D x z := by
  unfold jcp
  rw [if_neg (by omega)]
theorem dCc_r {D : JD} {c o k : Int} (h : c + 5 ≤ o ∨ o + 5 ≤ c) (h0 : 0 ≤ k) (h1 : k < 12) : dCc D c o (o + 4) k = D (c + 4) k := by
  simp only [dCc]
  rw [jup_ne (by omega), jup_ne (by omega), jup_ne (by omega), jup_ne (by omega), jcp_at (by omega) (by omega), dSc_off (by omega), dSc_off (by omega), dWc_off (by omega)]
  congr 1
  omega
theorem dCc_at {D : JD} {c o k : Int} (h : c + 5 ≤ o ∨ o + 5 ≤ c) (h0 : 4 ≤ k) (h1 : k < 8) : dCc D c o o k = D c k := by
  have hne : c ≠ o := by omega
  have q : ∀ z : Int, jcp (dSc (dSc (dWc D (c + 1) (o + 1)) (c + 2) (o + 2)) (c + 3) (o + 3)) (c + 4) 0 (o + 4) 0 12 c z = D c z := fun z => by
    rw [jcp_ne (by omega), dSc_off (by omega), dSc_off (by omega), dWc_off (by omega)]
  simp only [dCc]
  rcases (by omega : k = 4 ∨ k = 5 ∨ k = 6 ∨ k = 7) with rfl | rfl | rfl | rfl
  · rw [jup_nk (by omega), jup_nk (by omega), jup_nk (by omega), jup_eq, q]
  · rw [jup_nk (by omega), jup_nk (by omega), jup_eq, jup_ne hne, q]
  · rw [jup_nk (by omega), jup_eq, jup_ne hne, jup_ne hne, q]
  · rw [jup_eq, jup_ne hne, jup_ne hne, jup_ne hne, q]
/-- the flight at o holds what the one at b holds -/
def jCp (D2 : JD) (o : Int) (D : JD) (b : Int) : Prop :=
  (∀ k : Int, 3 ≤ k → k < 9 → D2 o k = D b k) ∧ (∀ i k : Int, 0 ≤ i → i < 5 → 0 ≤ k → k < 5 → D2 (o + 4 + i) k = D (b + 4 + i) k) ∧
  (∀ i k : Int, 0 ≤ i → i < 4 → (0 ≤ k → k < 5 → D2 (o + 9 + 5 * i + 1) k = D (b + 9 + 5 * i + 1) k) ∧ (0 ≤ k → k < 3 → D2 (o + 9 + 5 * i + 2) k = D (b + 9 + 5 * i + 2) k) ∧ (0 ≤ k → k < 3 → D2 (o + 9 + 5 * i + 3) k = D (b + 9 + 5 * i + 3) k) ∧ (0 ≤ k → k < 12 → D2 (o + 9 + 5 * i + 4) k = D (b + 9 + 5 * i + 4) k) ∧ (4 ≤ k → k < 8 → D2 (o + 9 + 5 * i) k = D (b + 9 + 5 * i) k)) ∧
  (∀ i k : Int, 0 ≤ i → i < 12 → 0 ≤ k → k < 8 → D2 (o + 29 + i) k = D (b + 29 + i) k)
theorem sCn_le {t : Int} {r : Int → Int} (hI : rIn t r) (w : Int) : sCn r w ≤ 12 := by
  have b1 := hI.1
  unfold sCn
  have := jsum_le (f := fun b => if r (71 + 8 * b) = w then (1 : Int) else 0) (M := 1) (n := (r 2).toNat) (fun k _ _ => by show (if r (71 + 8 * k) = w then (1 : Int) else 0) ≤ 1; split <;> omega)
  omega
theorem jFR.copy {t : Int} {D D2 : JD} {b o : Int} {r : Int → Int} (h : jFR D b r) (hI : rIn t r) (hc : jCp D2 o D b) : jFR D2 o r := by
  obtain ⟨⟨a0, a1, a2, a3, a4, a5⟩, aw, ac, ab⟩ := h
  have b1 := hI.1
  obtain ⟨c0, c1, c2, c3⟩ := hc
  refine ⟨⟨by rw [c0 3 (by omega) (by omega)]; exact a0, by rw [c0 4 (by omega) (by omega)]; exact a1, by rw [c0 5 (by omega) (by omega)]; exact a2, by rw [c0 6 (by omega) (by omega)]; exact a3, by rw [c0 7 (by omega) (by omega)]; exact a4, by rw [c0 8 (by omega) (by omega)]; exact a5⟩, fun i x y => ?_, fun c x y => ?_, fun k z x y p q => ?_⟩
  · have e := aw i x y
    unfold jWR at e ⊢
    rw [c1 i 0 x (by omega) (by omega) (by omega), c1 i 1 x (by omega) (by omega) (by omega), c1 i 2 x (by omega) (by omega) (by omega), c1 i 3 x (by omega) (by omega) (by omega), c1 i 4 x (by omega) (by omega) (by omega)]
    exact e
  · obtain ⟨e, e2⟩ := ac c x y
    have g := fun k => c2 c k x (by omega)
    refine ⟨?_, ?_⟩
    · unfold jWR at e ⊢
      rw [(g 0).1 (by omega) (by omega), (g 1).1 (by omega) (by omega), (g 2).1 (by omega) (by omega), (g 3).1 (by omega) (by omega), (g 4).1 (by omega) (by omega)]
      exact e
    · have co := (hI.2.2.1 c x y).2
      unfold rCo at co
      have hl := sCn_le hI (100 + c)
      obtain ⟨e5, e6, e7, e4, er, q⟩ := e2
      unfold jCR
      rw [(g 5).2.2.2.2 (by omega) (by omega), (g 6).2.2.2.2 (by omega) (by omega), (g 7).2.2.2.2 (by omega) (by omega), (g 4).2.2.2.2 (by omega) (by omega), (g 0).2.1 (by omega) (by omega), (g 1).2.1 (by omega) (by omega), (g 2).2.1 (by omega) (by omega), (g 0).2.2.1 (by omega) (by omega), (g 1).2.2.1 (by omega) (by omega), (g 2).2.2.1 (by omega) (by omega)]
      refine ⟨e5, e6, e7, e4, fun z p1 p2 => ?_, q⟩
      rw [(g z).2.2.2.1 p1 (by omega)]
      exact er z p1 p2
  · rw [c3 k z x (by omega) p q]
    exact ab k z x y p q
theorem copy3 {G : JG} {S : JS} {D0 : JD} {d : Nat} {b o : Int} (hF : jFl S b) (hO : jFl S o) (hdis : b + 41 ≤ o ∨ o + 41 ≤ b) : ∀ (n i : Nat) (D : JD), (i : Int) + n = 12 → (∀ j k : Int, 0 ≤ j → j < i → 0 ≤ k → k < 8 → D (o + 29 + j) k = D0 (b + 29 + j) k) → (∀ x k : Int, x < o ∨ o + 41 ≤ x → D x k = D0 x k) → (∀ j k : Int, 0 ≤ j → j < 5 → 0 ≤ k → k < 5 → D (o + 4 + j) k = D0 (b + 4 + j) k) → (∀ j k : Int, 0 ≤ j → j < 4 → (0 ≤ k → k < 5 → D (o + 9 + 5 * j + 1) k = D0 (b + 9 + 5 * j + 1) k) ∧ (0 ≤ k → k < 3 → D (o + 9 + 5 * j + 2) k = D0 (b + 9 + 5 * j + 2) k) ∧ (0 ≤ k → k < 3 → D (o + 9 + 5 * j + 3) k = D0 (b + 9 + 5 * j + 3) k) ∧ (0 ≤ k → k < 12 → D (o + 9 + 5 * j + 4) k = D0 (b + 9 + 5 * j + 4) k) ∧ (4 ≤ k → k < 8 → D (o + 9 + 5 * j) k = D0 (b + 9 + 5 * j) k)) → JX G yX2_copyTo cX2_copyTo 3 none (d + 2) (0, 0) (0, 0) S D 120 [some (.inr (.inr (some b))), some (.inr (.inr (some o))), some (.inl i)] [] (jnP S (fun D2 => jCp D2 o D0 b ∧ jFx D0 D2 o)) := by
  have hbo : b ≠ o := by omega
  intro n
  induction n with
  | zero =>
    intro i D hn hS hX
    obtain ⟨fk, f0, f1, f2, k1, l1, k2, l2, k3, l3, fr, fc, fb⟩ := hF
    obtain ⟨ok, o0, o1, o2, ok1, ol1, ok2, ol2, ok3, ol3, ofr, ofc, ofb⟩ := hO
    intro h1 h2
    refine x_iload_n dX2_copyTo_120 rfl ?_
    refine x_aload_n dX2_copyTo_121 rfl ?_
    refine gf_RX2_25 dX2_copyTo_122 rfl (by assumption) ?_
    rw [f2]
    refine x_alen (c := 14) dX2_copyTo_125 (by decide) (by assumption) ?_
    refine x_ic_ge (tgt := 177) dX2_copyTo_126 (by decide) ⟨by omega, by omega⟩ ⟨by omega, by omega⟩ (fun hb126 => ?_) (fun h => (h (by omega)).elim)
    refine x_aload_n dX2_copyTo_177 rfl ?_
    refine x_aload_n dX2_copyTo_178 rfl ?_
    refine gf_RX2_32 dX2_copyTo_179 rfl (by assumption) ?_
    refine pf_RX2_32 dX2_copyTo_182 rfl (by assumption) ?_
    refine x_aload_n dX2_copyTo_185 rfl ?_
    refine x_aload_n dX2_copyTo_186 rfl ?_
    refine gf_RX2_36 dX2_copyTo_187 rfl (by assumption) ?_
    refine pf_RX2_36 dX2_copyTo_190 rfl (by assumption) ?_
    refine x_aload_n dX2_copyTo_193 rfl ?_
    refine x_aload_n dX2_copyTo_194 rfl ?_
    refine gf_RX2_39 dX2_copyTo_195 rfl (by assumption) ?_
    refine pf_RX2_39 dX2_copyTo_198 rfl (by assumption) ?_
    refine x_aload_n dX2_copyTo_201 rfl ?_
    refine x_aload_n dX2_copyTo_202 rfl ?_
    refine gf_RX2_42 dX2_copyTo_203 rfl (by assumption) ?_
    refine pf_RX2_42 dX2_copyTo_206 rfl (by assumption) ?_
    refine x_aload_n dX2_copyTo_209 rfl ?_
    refine x_aload_n dX2_copyTo_210 rfl ?_
    refine gf_RX2_45 dX2_copyTo_211 rfl (by assumption) ?_
    refine pf_RX2_45 dX2_copyTo_214 rfl (by assumption) ?_
    refine x_aload_n dX2_copyTo_217 rfl ?_
    refine x_aload_n dX2_copyTo_218 rfl ?_
    refine gf_RX2_49 dX2_copyTo_219 rfl (by assumption) ?_
    refine pf_RX2_49 dX2_copyTo_222 rfl (by assumption) ?_
    refine x_return dX2_copyTo_225 rfl ⟨Nat.le_refl _, Nat.le_refl _⟩ ?_
    refine ⟨rfl, rfl, ⟨fun k x y => ?_, fun j k x y p q => ?_, fun j k x y => ?_, fun j k x y p q => ?_⟩, fun x k hx => ?_⟩
    · have e : ∀ z : Int, D b z = D0 b z := fun z => hX b z (by omega)
      rcases (by omega : k = 3 ∨ k = 4 ∨ k = 5 ∨ k = 6 ∨ k = 7 ∨ k = 8) with rfl | rfl | rfl | rfl | rfl | rfl <;> simp [jup, e, hbo]
    · simp only [jup_ne (show o + 4 + j ≠ o by omega)]
      exact h1 j k x y p q
    · simp only [jup_ne (show o + 9 + 5 * j + 1 ≠ o by omega), jup_ne (show o + 9 + 5 * j + 2 ≠ o by omega), jup_ne (show o + 9 + 5 * j + 3 ≠ o by omega), jup_ne (show o + 9 + 5 * j + 4 ≠ o by omega), jup_ne (show o + 9 + 5 * j ≠ o by omega)]
      exact h2 j k x y
    · simp only [jup_ne (show o + 29 + j ≠ o by omega)]
      exact hS j k x (by omega) p q
    · simp only [jup_ne (show x ≠ o by omega)]
      exact hX x k hx
  | succ n ih =>
    intro i D hn hS hX
    obtain ⟨fk, f0, f1, f2, k1, l1, k2, l2, k3, l3, fr, fc, fb⟩ := hF
    obtain ⟨ok, o0, o1, o2, ok1, ol1, ok2, ol2, ok3, ol3, ofr, ofc, ofb⟩ := hO
    intro h1 h2
    have fbi := fb i (by omega) (by omega)
    have obi := ofb i (by omega) (by omega)
    have fbk := fbi.2
    have obk := obi.2
    refine x_iload_n dX2_copyTo_120 rfl ?_
    refine x_aload_n dX2_copyTo_121 rfl ?_
    refine gf_RX2_25 dX2_copyTo_122 rfl (by assumption) ?_
    rw [f2]
    refine x_alen (c := 14) dX2_copyTo_125 (by decide) (by assumption) ?_
    refine x_ic_ge (tgt := 177) dX2_copyTo_126 (by decide) ⟨by omega, by omega⟩ ⟨by omega, by omega⟩ (fun h => absurd h (by omega)) (fun hb126 => ?_)
    refine x_iload_n dX2_copyTo_129 rfl ?_
    refine x_aload_n dX2_copyTo_130 rfl ?_
    refine gf_RX2_25 dX2_copyTo_131 rfl (by assumption) ?_
    rw [o2]
    refine x_alen (c := 14) dX2_copyTo_134 (by decide) (by assumption) ?_
    refine x_ic_ge (tgt := 177) dX2_copyTo_135 (by decide) ⟨by omega, by omega⟩ ⟨by omega, by omega⟩ (fun h => absurd h (by omega)) (fun hb135 => ?_)
    refine x_aload_n dX2_copyTo_138 rfl ?_
    refine gf_RX2_25 dX2_copyTo_139 rfl (by assumption) ?_
    rw [f2]
    refine x_iload_n dX2_copyTo_142 rfl ?_
    refine x_aald (c := 14) dX2_copyTo_143 (by decide) rfl (by assumption) ⟨by omega, by omega⟩ ?_
    rw [fbi.1]
    refine x_ifnull (tgt := 171) dX2_copyTo_144 (by decide) (fun h => by cases h) (fun hb144 => ?_)
    refine x_aload_n dX2_copyTo_147 rfl ?_
    refine gf_RX2_25 dX2_copyTo_148 rfl (by assumption) ?_
    rw [o2]
    refine x_iload_n dX2_copyTo_151 rfl ?_
    refine x_aald (c := 14) dX2_copyTo_152 (by decide) rfl (by assumption) ⟨by omega, by omega⟩ ?_
    rw [obi.1]
    refine x_ifnull (tgt := 171) dX2_copyTo_153 (by decide) (fun h => by cases h) (fun hb153 => ?_)
    refine x_aload_n dX2_copyTo_156 rfl ?_
    refine gf_RX2_25 dX2_copyTo_157 rfl (by assumption) ?_
    rw [f2]
    refine x_iload_n dX2_copyTo_160 rfl ?_
    refine x_aald (c := 14) dX2_copyTo_161 (by decide) rfl (by assumption) ⟨by omega, by omega⟩ ?_
    rw [fbi.1]
    refine x_aload_n dX2_copyTo_162 rfl ?_
    refine gf_RX2_25 dX2_copyTo_163 rfl (by assumption) ?_
    rw [o2]
    refine x_iload_n dX2_copyTo_166 rfl ?_
    refine x_aald (c := 14) dX2_copyTo_167 (by decide) rfl (by assumption) ⟨by omega, by omega⟩ ?_
    rw [obi.1]
    refine c_RX2_163d dX2_copyTo_168 rfl (kX0_copyTo fbk obk) (by assumption) (Nat.le_of_ble_eq_true rfl) (Nat.le_of_ble_eq_true rfl) ⟨Nat.le_refl _, Nat.le_refl _⟩ ?_
    refine x_iinc dX2_copyTo_171 rfl (by decide) ?_
    show JX _ _ _ _ _ _ _ _ _ _ _ [_, _, _] _ _
    refine x_goto (tgt := 120) dX2_copyTo_174 (by decide) ?_
    refine ih (i + 1) _ (by omega) (fun j k x y p q => ?_) (fun x k hx => ?_) (fun j k x y p q => ?_) (fun j k x y => ?_)
    · by_cases e : j = i
      · subst e
        rw [dBc_at (by omega) p q]
        exact hX _ _ (by omega)
      · rw [dBc_off (by omega)]
        exact hS j k x (by omega) p q
    · rw [dBc_off (by omega)]
      exact hX x k hx
    · rw [dBc_off (by omega)]
      exact h1 j k x y p q
    · rw [dBc_off (by omega), dBc_off (by omega), dBc_off (by omega), dBc_off (by omega), dBc_off (by omega)]
      exact h2 j k x y
theorem copy2 {G : JG} {S : JS} {D0 : JD} {d : Nat} {b o : Int} (hF : jFl S b) (hO : jFl S o) (hdis : b + 41 ≤ o ∨ o + 41 ≤ b) : ∀ (n i : Nat) (D : JD), (i : Int) + n = 4 → (∀ j k : Int, 0 ≤ j → j < i → (0 ≤ k → k < 5 → D (o + 9 + 5 * j + 1) k = D0 (b + 9 + 5 * j + 1) k) ∧ (0 ≤ k → k < 3 → D (o + 9 + 5 * j + 2) k = D0 (b + 9 + 5 * j + 2) k) ∧ (0 ≤ k → k < 3 → D (o + 9 + 5 * j + 3) k = D0 (b + 9 + 5 * j + 3) k) ∧ (0 ≤ k → k < 12 → D (o + 9 + 5 * j + 4) k = D0 (b + 9 + 5 * j + 4) k) ∧ (4 ≤ k → k < 8 → D (o + 9 + 5 * j) k = D0 (b + 9 + 5 * j) k)) → (∀ x k : Int, x < o ∨ o + 41 ≤ x → D x k = D0 x k) → (∀ j k : Int, 0 ≤ j → j < 5 → 0 ≤ k → k < 5 → D (o + 4 + j) k = D0 (b + 4 + j) k) → JX G yX2_copyTo cX2_copyTo 3 none (d + 2) (0, 0) (0, 0) S D 61 [some (.inr (.inr (some b))), some (.inr (.inr (some o))), some (.inl i)] [] (jnP S (fun D2 => jCp D2 o D0 b ∧ jFx D0 D2 o)) := by
  have hbo : b ≠ o := by omega
  have c3 := copy3 (G := G) (D0 := D0) (d := d) hF hO hdis
  intro n
  induction n with
  | zero =>
    intro i D hn hS hX
    obtain ⟨fk, f0, f1, f2, k1, l1, k2, l2, k3, l3, fr, fc, fb⟩ := hF
    obtain ⟨ok, o0, o1, o2, ok1, ol1, ok2, ol2, ok3, ol3, ofr, ofc, ofb⟩ := hO
    intro h1
    refine x_iload_n dX2_copyTo_61 rfl ?_
    refine x_aload_n dX2_copyTo_62 rfl ?_
    refine gf_RX2_19 dX2_copyTo_63 rfl (by assumption) ?_
    rw [f1]
    refine x_alen (c := 13) dX2_copyTo_66 (by decide) (by assumption) ?_
    refine x_ic_ge (tgt := 118) dX2_copyTo_67 (by decide) ⟨by omega, by omega⟩ ⟨by omega, by omega⟩ (fun hb67 => ?_) (fun h => (h (by omega)).elim)
    refine x_iconst dX2_copyTo_118 ?_
    refine x_istore_n dX2_copyTo_119 (by decide) ?_
    show JX _ _ _ _ _ _ _ _ _ _ _ [_, _, _] _ _
    exact c3 12 0 D (by omega) (fun j k x y => absurd y (by omega)) hX h1 (fun j k x y => hS j k x (by omega))
  | succ n ih =>
    intro i D hn hS hX
    obtain ⟨fk, f0, f1, f2, k1, l1, k2, l2, k3, l3, fr, fc, fb⟩ := hF
    obtain ⟨ok, o0, o1, o2, ok1, ol1, ok2, ol2, ok3, ol3, ofr, ofc, ofb⟩ := hO
    intro h1
    have fci := fc i (by omega) (by omega)
    have oci := ofc i (by omega) (by omega)
    refine x_iload_n dX2_copyTo_61 rfl ?_
    refine x_aload_n dX2_copyTo_62 rfl ?_
    refine gf_RX2_19 dX2_copyTo_63 rfl (by assumption) ?_
    rw [f1]
    refine x_alen (c := 13) dX2_copyTo_66 (by decide) (by assumption) ?_
    refine x_ic_ge (tgt := 118) dX2_copyTo_67 (by decide) ⟨by omega, by omega⟩ ⟨by omega, by omega⟩ (fun h => absurd h (by omega)) (fun hb67 => ?_)
    refine x_iload_n dX2_copyTo_70 rfl ?_
    refine x_aload_n dX2_copyTo_71 rfl ?_
    refine gf_RX2_19 dX2_copyTo_72 rfl (by assumption) ?_
    rw [o1]
    refine x_alen (c := 13) dX2_copyTo_75 (by decide) (by assumption) ?_
    refine x_ic_ge (tgt := 118) dX2_copyTo_76 (by decide) ⟨by omega, by omega⟩ ⟨by omega, by omega⟩ (fun h => absurd h (by omega)) (fun hb76 => ?_)
    refine x_aload_n dX2_copyTo_79 rfl ?_
    refine gf_RX2_19 dX2_copyTo_80 rfl (by assumption) ?_
    rw [f1]
    refine x_iload_n dX2_copyTo_83 rfl ?_
    refine x_aald (c := 13) dX2_copyTo_84 (by decide) rfl (by assumption) ⟨by omega, by omega⟩ ?_
    rw [fci.1]
    refine x_ifnull (tgt := 112) dX2_copyTo_85 (by decide) (fun h => by cases h) (fun hb85 => ?_)
    refine x_aload_n dX2_copyTo_88 rfl ?_
    refine gf_RX2_19 dX2_copyTo_89 rfl (by assumption) ?_
    rw [o1]
    refine x_iload_n dX2_copyTo_92 rfl ?_
    refine x_aald (c := 13) dX2_copyTo_93 (by decide) rfl (by assumption) ⟨by omega, by omega⟩ ?_
    rw [oci.1]
    refine x_ifnull (tgt := 112) dX2_copyTo_94 (by decide) (fun h => by cases h) (fun hb94 => ?_)
    refine x_aload_n dX2_copyTo_97 rfl ?_
    refine gf_RX2_19 dX2_copyTo_98 rfl (by assumption) ?_
    rw [f1]
    refine x_iload_n dX2_copyTo_101 rfl ?_
    refine x_aald (c := 13) dX2_copyTo_102 (by decide) rfl (by assumption) ⟨by omega, by omega⟩ ?_
    rw [fci.1]
    refine x_aload_n dX2_copyTo_103 rfl ?_
    refine gf_RX2_19 dX2_copyTo_104 rfl (by assumption) ?_
    rw [o1]
    refine x_iload_n dX2_copyTo_107 rfl ?_
    refine x_aald (c := 13) dX2_copyTo_108 (by decide) rfl (by assumption) ⟨by omega, by omega⟩ ?_
    rw [oci.1]
    refine c_RX2_160d dX2_copyTo_109 rfl (kX1_copyTo fci.2 oci.2) fci.2.1 (Nat.le_of_ble_eq_true rfl) (Nat.le_of_ble_eq_true rfl) ⟨Nat.le_refl _, Nat.le_refl _⟩ ?_
    refine x_iinc dX2_copyTo_112 rfl (by decide) ?_
    show JX _ _ _ _ _ _ _ _ _ _ _ [_, _, _] _ _
    refine x_goto (tgt := 61) dX2_copyTo_115 (by decide) ?_
    refine ih (i + 1) _ (by omega) (fun j k x y => ?_) (fun x k hx => ?_) (fun j k x y p q => ?_)
    · by_cases e : j = i
      · subst e
        refine ⟨fun p q => ?_, fun p q => ?_, fun p q => ?_, fun p q => ?_, fun p q => ?_⟩
        · rw [dCc_w (by omega) p q]; exact hX _ _ (by omega)
        · rw [dCc_l (by omega) p q]; exact hX _ _ (by omega)
        · rw [dCc_u (by omega) p q]; exact hX _ _ (by omega)
        · rw [dCc_r (by omega) p q]; exact hX _ _ (by omega)
        · rw [dCc_at (by omega) p q]; exact hX _ _ (by omega)
      · rw [dCc_off (by omega), dCc_off (by omega), dCc_off (by omega), dCc_off (by omega), dCc_off (by omega)]
        exact hS j k x (by omega)
    · rw [dCc_off (by omega)]
      exact hX x k hx
    · rw [dCc_off (by omega)]
      exact h1 j k x y p q
theorem copy1 {G : JG} {S : JS} {D0 : JD} {d : Nat} {b o : Int} (hF : jFl S b) (hO : jFl S o) (hdis : b + 41 ≤ o ∨ o + 41 ≤ b) : ∀ (n i : Nat) (D : JD), (i : Int) + n = 5 → (∀ j k : Int, 0 ≤ j → j < i → 0 ≤ k → k < 5 → D (o + 4 + j) k = D0 (b + 4 + j) k) → (∀ x k : Int, x < o ∨ o + 41 ≤ x → D x k = D0 x k) → JX G yX2_copyTo cX2_copyTo 3 none (d + 2) (0, 0) (0, 0) S D 2 [some (.inr (.inr (some b))), some (.inr (.inr (some o))), some (.inl i)] [] (jnP S (fun D2 => jCp D2 o D0 b ∧ jFx D0 D2 o)) := by
  have hbo : b ≠ o := by omega
  have c2 := copy2 (G := G) (D0 := D0) (d := d) hF hO hdis
  intro n
  induction n with
  | zero =>
    intro i D hn hS hX
    obtain ⟨fk, f0, f1, f2, k1, l1, k2, l2, k3, l3, fr, fc, fb⟩ := hF
    obtain ⟨ok, o0, o1, o2, ok1, ol1, ok2, ol2, ok3, ol3, ofr, ofc, ofb⟩ := hO
    refine x_iload_n dX2_copyTo_2 rfl ?_
    refine x_aload_n dX2_copyTo_3 rfl ?_
    refine gf_RX2_11 dX2_copyTo_4 rfl (by assumption) ?_
    rw [f0]
    refine x_alen (c := 12) dX2_copyTo_7 (by decide) (by assumption) ?_
    refine x_ic_ge (tgt := 59) dX2_copyTo_8 (by decide) ⟨by omega, by omega⟩ ⟨by omega, by omega⟩ (fun hb8 => ?_) (fun h => (h (by omega)).elim)
    refine x_iconst dX2_copyTo_59 ?_
    refine x_istore_n dX2_copyTo_60 (by decide) ?_
    show JX _ _ _ _ _ _ _ _ _ _ _ [_, _, _] _ _
    exact c2 4 0 D (by omega) (fun j k x y => absurd y (by omega)) hX (fun j k x y => hS j k x (by omega))
  | succ n ih =>
    intro i D hn hS hX
    obtain ⟨fk, f0, f1, f2, k1, l1, k2, l2, k3, l3, fr, fc, fb⟩ := hF
    obtain ⟨ok, o0, o1, o2, ok1, ol1, ok2, ol2, ok3, ol3, ofr, ofc, ofb⟩ := hO
    have fri := fr i (by omega) (by omega)
    have ori := ofr i (by omega) (by omega)
    have frk := fri.2
    have ork := ori.2
    refine x_iload_n dX2_copyTo_2 rfl ?_
    refine x_aload_n dX2_copyTo_3 rfl ?_
    refine gf_RX2_11 dX2_copyTo_4 rfl (by assumption) ?_
    rw [f0]
    refine x_alen (c := 12) dX2_copyTo_7 (by decide) (by assumption) ?_
    refine x_ic_ge (tgt := 59) dX2_copyTo_8 (by decide) ⟨by omega, by omega⟩ ⟨by omega, by omega⟩ (fun h => absurd h (by omega)) (fun hb8 => ?_)
    refine x_iload_n dX2_copyTo_11 rfl ?_
    refine x_aload_n dX2_copyTo_12 rfl ?_
    refine gf_RX2_11 dX2_copyTo_13 rfl (by assumption) ?_
    rw [o0]
    refine x_alen (c := 12) dX2_copyTo_16 (by decide) (by assumption) ?_
    refine x_ic_ge (tgt := 59) dX2_copyTo_17 (by decide) ⟨by omega, by omega⟩ ⟨by omega, by omega⟩ (fun h => absurd h (by omega)) (fun hb17 => ?_)
    refine x_aload_n dX2_copyTo_20 rfl ?_
    refine gf_RX2_11 dX2_copyTo_21 rfl (by assumption) ?_
    rw [f0]
    refine x_iload_n dX2_copyTo_24 rfl ?_
    refine x_aald (c := 12) dX2_copyTo_25 (by decide) rfl (by assumption) ⟨by omega, by omega⟩ ?_
    rw [fri.1]
    refine x_ifnull (tgt := 53) dX2_copyTo_26 (by decide) (fun h => by cases h) (fun hb26 => ?_)
    refine x_aload_n dX2_copyTo_29 rfl ?_
    refine gf_RX2_11 dX2_copyTo_30 rfl (by assumption) ?_
    rw [o0]
    refine x_iload_n dX2_copyTo_33 rfl ?_
    refine x_aald (c := 12) dX2_copyTo_34 (by decide) rfl (by assumption) ⟨by omega, by omega⟩ ?_
    rw [ori.1]
    refine x_ifnull (tgt := 53) dX2_copyTo_35 (by decide) (fun h => by cases h) (fun hb35 => ?_)
    refine x_aload_n dX2_copyTo_38 rfl ?_
    refine gf_RX2_11 dX2_copyTo_39 rfl (by assumption) ?_
    rw [f0]
    refine x_iload_n dX2_copyTo_42 rfl ?_
    refine x_aald (c := 12) dX2_copyTo_43 (by decide) rfl (by assumption) ⟨by omega, by omega⟩ ?_
    rw [fri.1]
    refine x_aload_n dX2_copyTo_44 rfl ?_
    refine gf_RX2_11 dX2_copyTo_45 rfl (by assumption) ?_
    rw [o0]
    refine x_iload_n dX2_copyTo_48 rfl ?_
    refine x_aald (c := 12) dX2_copyTo_49 (by decide) rfl (by assumption) ⟨by omega, by omega⟩ ?_
    rw [ori.1]
    refine c_RX2_157d dX2_copyTo_50 rfl (kX6_copyTo frk ork) (by assumption) (Nat.le_of_ble_eq_true rfl) (Nat.le_of_ble_eq_true rfl) ⟨Nat.le_refl _, Nat.le_refl _⟩ ?_
    refine x_iinc dX2_copyTo_53 rfl (by decide) ?_
    show JX _ _ _ _ _ _ _ _ _ _ _ [_, _, _] _ _
    refine x_goto (tgt := 2) dX2_copyTo_56 (by decide) ?_
    refine ih (i + 1) _ (by omega) (fun j k x y p q => ?_) (fun x k hx => ?_)
    · by_cases e : j = i
      · subst e
        rw [dWc_at (by omega) p q]
        exact hX _ _ (by omega)
      · rw [dWc_off (by omega)]
        exact hS j k x (by omega) p q
    · rw [dWc_off (by omega)]
      exact hX x k hx
theorem kX2_copyTo {G : JG} {S : JS} {D : JD} {d : Nat} {b o : Int} (hF : jFl S b) (hO : jFl S o) (hdis : b + 41 ≤ o ∨ o + 41 ≤ b) : JM G yX2_copyTo cX2_copyTo 3 none (d + 2) (0, 0) S D [.inr (.inr (some b)), .inr (.inr (some o))] (jnP S (fun D2 => jCp D2 o D b ∧ jFx D D2 o)) := by
  show JX _ _ _ _ _ _ _ _ _ _ _ [_, _, _] _ _
  refine x_iconst dX2_copyTo_0 ?_
  refine x_istore_n dX2_copyTo_1 (by decide) ?_
  show JX _ _ _ _ _ _ _ _ _ _ _ [_, _, _] _ _
  exact copy1 hF hO hdis 5 0 D (by omega) (fun j k x y => absurd y (by omega)) (fun _ _ _ => rfl)
