/-! THE LAW'S OBJECT: its state, and what the told methods answer of it -/
def pSt (S : JS) (D : JD) (X t n : Int) (hs : Int → Int → Int) (r : Int → Int) (q : Int) : Prop :=
  jBL S X ∧ jSt D X t 0 n hs r q ∧ 0 ≤ D (X + 250) 1 ∧ D (X + 250) 1 ≤ 60 ∧ ∀ z : Int, 0 ≤ D (X + 250 + 1) z ∧ D (X + 250 + 1) z ≤ 65535
theorem pSt.mono {S : JS} {D : JD} {X t t2 n q : Int} {hs : Int → Int → Int} {r : Int → Int} (h : pSt S D X t n hs r q) (ht : t ≤ t2) : pSt S D X t2 n hs r q := ⟨h.1, h.2.1.mono ht, h.2.2⟩
/-- bounds of a chamber's numbers, a barge's, a reach's -/
theorem rIn.cB {t : Int} {r : Int → Int} (hI : rIn t r) (ht : t ≤ 60000) {c : Int} (hc : 0 ≤ c ∧ c < r 1) : c < 4 ∧ 10 ≤ r (24 + 11 * c) ∧ r (24 + 11 * c) ≤ 200 ∧ 0 ≤ sLf r c ∧ sLf r c ≤ 200 ∧ (r (29 + 11 * c) = -100000005 ∨ r (29 + 11 * c) = 0 ∨ r (29 + 11 * c) = 1) ∧
    0 ≤ r (30 + 11 * c) ∧ r (30 + 11 * c) ≤ 60000 ∧ 0 ≤ r (31 + 11 * c) ∧ r (31 + 11 * c) ≤ 60000 ∧ (∀ g : Int, (g = 0 ∨ g = 1) → 0 ≤ sHg r c g ∧ sHg r c g ≤ 70000) ∧ 0 ≤ sLv r (100 + c) ∧ sLv r (100 + c) ≤ 710000000 ∧
    0 ≤ r (23 + 11 * c) ∧ r (23 + 11 * c) ≤ 650000000 ∧ 0 ≤ sFl r (100 + c) ∧ sFl r (100 + c) ≤ 18000 ∧ 0 ≤ sCn r (100 + c) ∧ sCn r (100 + c) ≤ 12 ∧ r (161 + 13 * c) = sCn r (100 + c) ∧ 100 ≤ r (21 + 11 * c) ∧ r (21 + 11 * c) ≤ 100000 ∧ 0 ≤ r (22 + 11 * c) ∧ r (22 + 11 * c) ≤ 5000 := by
  have b1 := hI.1
  have hp : rPl r (100 + c) := Or.inr ⟨by omega, by omega⟩
  obtain ⟨wo, wm, -⟩ := hI.wat ht hp
  have dp := hI.dp wo wm
  have f := hI.floats (100 + c)
  have ln := hI.line hc.1 hc.2
  have lf := sLf_le hI c
  obtain ⟨-, co⟩ := hI.2.2.1 c hc.1 hc.2
  unfold rCo at co
  unfold rWo at wo
  have wa := wA_c hc.1
  rw [wa] at wo wm
  obtain ⟨a1, a2, a3, a4, a5, a6, a7, a8, a9, a10, a11, a12, a13, a14, a15, -, -⟩ := co
  rw [show 21 + 11 * c + 1 = 22 + 11 * c by omega, show 21 + 11 * c + 2 = 23 + 11 * c by omega] at wo
  rw [show 21 + 11 * c + 2 = 23 + 11 * c by omega] at wm
  refine ⟨by omega, a1, a2, a14, by omega, a13, by omega, by omega, by omega, by omega, fun g hg => ?_, dp.2.2.1, dp.2.2.2, by omega, wm, f.1, f.2, by omega, by omega, a15, by omega, by omega, by omega, by omega⟩
  unfold sHg
  rcases hg with rfl | rfl
  · rw [Int.add_zero, Int.add_zero]; omega
  · rw [show 25 + 11 * c + 1 = 26 + 11 * c by omega, show 27 + 11 * c + 1 = 28 + 11 * c by omega]; omega
theorem rIn.bB {t : Int} {r : Int → Int} (hI : rIn t r) (ht : t ≤ 60000) {k : Int} (hk : 0 ≤ k ∧ k < r 2) : k < 12 ∧ 5 ≤ r (65 + 8 * k) ∧ r (65 + 8 * k) ≤ 60 ∧ 10 ≤ sW r k ∧ sW r k ≤ 1500 ∧ 1 ≤ sDr r k ∧ sDr r k ≤ 1500 ∧ 0 ≤ r (69 + 8 * k) ∧ r (69 + 8 * k) ≤ 1000 ∧ 0 ≤ r (70 + 8 * k) ∧ r (70 + 8 * k) ≤ 1000 ∧
    0 ≤ r (68 + 8 * k) - r (69 + 8 * k) - r (70 + 8 * k) ∧ r (68 + 8 * k) - r (69 + 8 * k) - r (70 + 8 * k) ≤ 1000 ∧ rPl r (r (71 + 8 * k)) ∧ 0 ≤ r (71 + 8 * k) ∧ r (71 + 8 * k) < 104 ∧ 0 ≤ r (72 + 8 * k) ∧ r (72 + 8 * k) ≤ 60000 ∧ 1 ≤ r (67 + 8 * k) ∧ r (67 + 8 * k) ≤ 20 := by
  have b1 := hI.1
  obtain ⟨bp, w0, w1, i0, i1, d0, d1⟩ := hI.bw hk.1 hk.2
  have bo := hI.2.2.2.1 k hk.1 hk.2
  unfold rBo at bo
  have bp2 := bp
  unfold rPl at bp2
  exact ⟨by omega, by omega, by omega, w0, w1, d0, d1, by omega, by omega, by omega, by omega, by omega, by omega, bp, by omega, by omega, by omega, by omega, i0, i1⟩
theorem rIn.pB {t : Int} {r : Int → Int} (hI : rIn t r) (ht : t ≤ 60000) {p : Int} (hp : rPl r p) : 0 ≤ p ∧ p < 104 ∧ 0 ≤ sLv r p ∧ sLv r p ≤ 710000000 ∧ 0 ≤ r (wA p + 2) ∧ r (wA p + 2) ≤ 650000000 ∧ 0 ≤ sFl r p ∧ sFl r p ≤ 18000 ∧ 0 ≤ sCn r p ∧ sCn r p ≤ 12 ∧ 100 ≤ r (wA p) ∧ r (wA p) ≤ 100000 ∧ 0 ≤ r (wA p + 1) ∧ r (wA p + 1) ≤ 5000 := by
  have b1 := hI.1
  obtain ⟨wo, wm, -⟩ := hI.wat ht hp
  have dp := hI.dp wo wm
  have f := hI.floats p
  have cl := sCn_le hI p
  have c0 : 0 ≤ sCn r p := by unfold sCn; exact jsum_nonneg (fun k _ _ => by show 0 ≤ (if r (71 + 8 * k) = p then (1 : Int) else 0); split <;> omega)
  unfold rWo at wo
  unfold rPl at hp
  exact ⟨by omega, by omega, dp.2.2.1, dp.2.2.2, by omega, wm, f.1, f.2, c0, by omega, by omega, by omega, by omega, by omega⟩
section PTELL
variable {G : JG} {S : JS} {D : JD} {d : Nat} {X t n q : Int} {hs : Int → Int → Int} {r : Int → Int}
theorem tc_0 {c : Int} (hP : pSt S D X t n hs r q) (ht : t ≤ 60000) (hc : 0 ≤ c ∧ c < r 1) : JM G yX7_chamber cX7_chamber 4 (some .int) (d + 5) (0, 0) S D [.inr (.inr (some X)), .inl c, .inl 0] (jr (.inl (sLv r (100 + c))) S D) := by
  have h := kX7_chamber (G := G) (d := d) hP.1 hP.2.1 ht (c := c) (e := 0) ⟨by have := hP.2.1.2.2.2.1.1; omega, by have := hP.2.1.2.2.2.1.1; omega⟩ ⟨by omega, by omega⟩
  rw [show zChamber c 0 r = sLv r (100 + c) from by unfold zChamber; rw [if_pos hc]; rfl] at h
  exact h
theorem tc_1 {c : Int} (hP : pSt S D X t n hs r q) (ht : t ≤ 60000) (hc : 0 ≤ c ∧ c < r 1) : JM G yX7_chamber cX7_chamber 4 (some .int) (d + 5) (0, 0) S D [.inr (.inr (some X)), .inl c, .inl 1] (jr (.inl (r (23 + 11 * c))) S D) := by
  have h := kX7_chamber (G := G) (d := d) hP.1 hP.2.1 ht (c := c) (e := 1) ⟨by have := hP.2.1.2.2.2.1.1; omega, by have := hP.2.1.2.2.2.1.1; omega⟩ ⟨by omega, by omega⟩
  rw [show zChamber c 1 r = r (23 + 11 * c) from by unfold zChamber; rw [if_pos hc]; show r (wA (100 + c) + 2) = _; rw [wA_c hc.1]; congr 1; omega] at h
  exact h
theorem tc_2 {c : Int} (hP : pSt S D X t n hs r q) (ht : t ≤ 60000) (hc : 0 ≤ c ∧ c < r 1) : JM G yX7_chamber cX7_chamber 4 (some .int) (d + 5) (0, 0) S D [.inr (.inr (some X)), .inl c, .inl 2] (jr (.inl (sFl r (100 + c))) S D) := by
  have h := kX7_chamber (G := G) (d := d) hP.1 hP.2.1 ht (c := c) (e := 2) ⟨by have := hP.2.1.2.2.2.1.1; omega, by have := hP.2.1.2.2.2.1.1; omega⟩ ⟨by omega, by omega⟩
  rw [show zChamber c 2 r = sFl r (100 + c) from by unfold zChamber; rw [if_pos hc]; rfl] at h
  exact h
theorem tc_3 {c : Int} (hP : pSt S D X t n hs r q) (ht : t ≤ 60000) (hc : 0 ≤ c ∧ c < r 1) : JM G yX7_chamber cX7_chamber 4 (some .int) (d + 5) (0, 0) S D [.inr (.inr (some X)), .inl c, .inl 3] (jr (.inl (sCn r (100 + c))) S D) := by
  have h := kX7_chamber (G := G) (d := d) hP.1 hP.2.1 ht (c := c) (e := 3) ⟨by have := hP.2.1.2.2.2.1.1; omega, by have := hP.2.1.2.2.2.1.1; omega⟩ ⟨by omega, by omega⟩
  rw [show zChamber c 3 r = sCn r (100 + c) from by unfold zChamber; rw [if_pos hc]; rfl] at h
  exact h
theorem tc_4 {c : Int} (hP : pSt S D X t n hs r q) (ht : t ≤ 60000) (hc : 0 ≤ c ∧ c < r 1) : JM G yX7_chamber cX7_chamber 4 (some .int) (d + 5) (0, 0) S D [.inr (.inr (some X)), .inl c, .inl 4] (jr (.inl (r (21 + 11 * c))) S D) := by
  have h := kX7_chamber (G := G) (d := d) hP.1 hP.2.1 ht (c := c) (e := 4) ⟨by have := hP.2.1.2.2.2.1.1; omega, by have := hP.2.1.2.2.2.1.1; omega⟩ ⟨by omega, by omega⟩
  rw [show zChamber c 4 r = r (21 + 11 * c) from by unfold zChamber; rw [if_pos hc]; show r (wA (100 + c)) = _; rw [wA_c hc.1]] at h
  exact h
theorem tc_5 {c : Int} (hP : pSt S D X t n hs r q) (ht : t ≤ 60000) (hc : 0 ≤ c ∧ c < r 1) : JM G yX7_chamber cX7_chamber 4 (some .int) (d + 5) (0, 0) S D [.inr (.inr (some X)), .inl c, .inl 5] (jr (.inl (r (22 + 11 * c))) S D) := by
  have h := kX7_chamber (G := G) (d := d) hP.1 hP.2.1 ht (c := c) (e := 5) ⟨by have := hP.2.1.2.2.2.1.1; omega, by have := hP.2.1.2.2.2.1.1; omega⟩ ⟨by omega, by omega⟩
  rw [show zChamber c 5 r = r (22 + 11 * c) from by unfold zChamber; rw [if_pos hc]; show r (wA (100 + c) + 1) = _; rw [wA_c hc.1]; congr 1; omega] at h
  exact h
theorem tc_6 {c : Int} (hP : pSt S D X t n hs r q) (ht : t ≤ 60000) (hc : 0 ≤ c ∧ c < r 1) : JM G yX7_chamber cX7_chamber 4 (some .int) (d + 5) (0, 0) S D [.inr (.inr (some X)), .inl c, .inl 6] (jr (.inl (r (24 + 11 * c))) S D) := by
  have h := kX7_chamber (G := G) (d := d) hP.1 hP.2.1 ht (c := c) (e := 6) ⟨by have := hP.2.1.2.2.2.1.1; omega, by have := hP.2.1.2.2.2.1.1; omega⟩ ⟨by omega, by omega⟩
  rw [show zChamber c 6 r = r (24 + 11 * c) from by unfold zChamber; rw [if_pos hc]; rfl] at h
  exact h
theorem tc_7 {c : Int} (hP : pSt S D X t n hs r q) (ht : t ≤ 60000) (hc : 0 ≤ c ∧ c < r 1) : JM G yX7_chamber cX7_chamber 4 (some .int) (d + 5) (0, 0) S D [.inr (.inr (some X)), .inl c, .inl 7] (jr (.inl (sLf r c)) S D) := by
  have h := kX7_chamber (G := G) (d := d) hP.1 hP.2.1 ht (c := c) (e := 7) ⟨by have := hP.2.1.2.2.2.1.1; omega, by have := hP.2.1.2.2.2.1.1; omega⟩ ⟨by omega, by omega⟩
  rw [show zChamber c 7 r = sLf r c from by unfold zChamber; rw [if_pos hc]; rfl] at h
  exact h
theorem tc_8 {c : Int} (hP : pSt S D X t n hs r q) (ht : t ≤ 60000) (hc : 0 ≤ c ∧ c < r 1) : JM G yX7_chamber cX7_chamber 4 (some .int) (d + 5) (0, 0) S D [.inr (.inr (some X)), .inl c, .inl 8] (jr (.inl (r (29 + 11 * c))) S D) := by
  have h := kX7_chamber (G := G) (d := d) hP.1 hP.2.1 ht (c := c) (e := 8) ⟨by have := hP.2.1.2.2.2.1.1; omega, by have := hP.2.1.2.2.2.1.1; omega⟩ ⟨by omega, by omega⟩
  rw [show zChamber c 8 r = r (29 + 11 * c) from by unfold zChamber; rw [if_pos hc]; rfl] at h
  exact h
theorem tc_9 {c : Int} (hP : pSt S D X t n hs r q) (ht : t ≤ 60000) (hc : 0 ≤ c ∧ c < r 1) : JM G yX7_chamber cX7_chamber 4 (some .int) (d + 5) (0, 0) S D [.inr (.inr (some X)), .inl c, .inl 9] (jr (.inl (sHg r c 0)) S D) := by
  have h := kX7_chamber (G := G) (d := d) hP.1 hP.2.1 ht (c := c) (e := 9) ⟨by have := hP.2.1.2.2.2.1.1; omega, by have := hP.2.1.2.2.2.1.1; omega⟩ ⟨by omega, by omega⟩
  rw [show zChamber c 9 r = sHg r c 0 from by unfold zChamber; rw [if_pos hc]; rfl] at h
  exact h
theorem tc_10 {c : Int} (hP : pSt S D X t n hs r q) (ht : t ≤ 60000) (hc : 0 ≤ c ∧ c < r 1) : JM G yX7_chamber cX7_chamber 4 (some .int) (d + 5) (0, 0) S D [.inr (.inr (some X)), .inl c, .inl 10] (jr (.inl (sHg r c 1)) S D) := by
  have h := kX7_chamber (G := G) (d := d) hP.1 hP.2.1 ht (c := c) (e := 10) ⟨by have := hP.2.1.2.2.2.1.1; omega, by have := hP.2.1.2.2.2.1.1; omega⟩ ⟨by omega, by omega⟩
  rw [show zChamber c 10 r = sHg r c 1 from by unfold zChamber; rw [if_pos hc]; rfl] at h
  exact h
theorem tc_11 {c : Int} (hP : pSt S D X t n hs r q) (ht : t ≤ 60000) (hc : 0 ≤ c ∧ c < r 1) : JM G yX7_chamber cX7_chamber 4 (some .int) (d + 5) (0, 0) S D [.inr (.inr (some X)), .inl c, .inl 11] (jr (.inl (r (30 + 11 * c))) S D) := by
  have h := kX7_chamber (G := G) (d := d) hP.1 hP.2.1 ht (c := c) (e := 11) ⟨by have := hP.2.1.2.2.2.1.1; omega, by have := hP.2.1.2.2.2.1.1; omega⟩ ⟨by omega, by omega⟩
  rw [show zChamber c 11 r = r (30 + 11 * c) from by unfold zChamber; rw [if_pos hc]; rfl] at h
  exact h
theorem tc_12 {c : Int} (hP : pSt S D X t n hs r q) (ht : t ≤ 60000) (hc : 0 ≤ c ∧ c < r 1) : JM G yX7_chamber cX7_chamber 4 (some .int) (d + 5) (0, 0) S D [.inr (.inr (some X)), .inl c, .inl 12] (jr (.inl (r (31 + 11 * c))) S D) := by
  have h := kX7_chamber (G := G) (d := d) hP.1 hP.2.1 ht (c := c) (e := 12) ⟨by have := hP.2.1.2.2.2.1.1; omega, by have := hP.2.1.2.2.2.1.1; omega⟩ ⟨by omega, by omega⟩
  rw [show zChamber c 12 r = r (31 + 11 * c) from by unfold zChamber; rw [if_pos hc]; rfl] at h
  exact h
theorem tc_13 {c : Int} (hP : pSt S D X t n hs r q) (ht : t ≤ 60000) (hc : 0 ≤ c ∧ c < r 1) : JM G yX7_chamber cX7_chamber 4 (some .int) (d + 5) (0, 0) S D [.inr (.inr (some X)), .inl c, .inl 13] (jr (.inl (-100000002)) S D) := by
  have h := kX7_chamber (G := G) (d := d) hP.1 hP.2.1 ht (c := c) (e := 13) ⟨by have := hP.2.1.2.2.2.1.1; omega, by have := hP.2.1.2.2.2.1.1; omega⟩ ⟨by omega, by omega⟩
  rw [show zChamber c 13 r = -100000002 from by unfold zChamber; rw [if_pos hc]; rfl] at h
  exact h
theorem tc_s {c g : Int} (hP : pSt S D X t n hs r q) (ht : t ≤ 60000) (hc : 0 ≤ c ∧ c < r 1) (hg : g = 0 ∨ g = 1) : JM G yX7_chamber cX7_chamber 4 (some .int) (d + 5) (0, 0) S D [.inr (.inr (some X)), .inl c, .inl (9 + g)] (jr (.inl (sHg r c g)) S D) := by
  rcases hg with rfl | rfl
  · exact tc_9 hP ht hc
  · exact tc_10 hP ht hc
theorem tc_p {c g : Int} (hP : pSt S D X t n hs r q) (ht : t ≤ 60000) (hc : 0 ≤ c ∧ c < r 1) (hg : g = 0 ∨ g = 1) : JM G yX7_chamber cX7_chamber 4 (some .int) (d + 5) (0, 0) S D [.inr (.inr (some X)), .inl c, .inl (11 + g)] (jr (.inl (r (30 + 11 * c + g))) S D) := by
  rcases hg with rfl | rfl
  · rw [show 30 + 11 * c + 0 = 30 + 11 * c by omega]; exact tc_11 hP ht hc
  · rw [show 30 + 11 * c + 1 = 31 + 11 * c by omega]; exact tc_12 hP ht hc
theorem tc_u {c : Int} (hP : pSt S D X t n hs r q) (ht : t ≤ 60000) (rc : i32 c) (hc : ¬ (0 ≤ c ∧ c < r 1)) : JM G yX7_chamber cX7_chamber 4 (some .int) (d + 5) (0, 0) S D [.inr (.inr (some X)), .inl c, .inl 0] (jr (.inl (-100000001)) S D) := by
  have h := kX7_chamber (G := G) (d := d) hP.1 hP.2.1 ht (c := c) (e := 0) rc ⟨by omega, by omega⟩
  rw [show zChamber c 0 r = -100000001 from by unfold zChamber; rw [if_neg hc]] at h
  exact h
theorem tr_0 {i : Int} (hP : pSt S D X t n hs r q) (ht : t ≤ 60000) (hi : 0 ≤ i ∧ i < r 0) : JM G yX7_reach cX7_reach 4 (some .int) (d + 5) (0, 0) S D [.inr (.inr (some X)), .inl i, .inl 0] (jr (.inl (sLv r i)) S D) := by
  have h := kX7_reach (G := G) (d := d) hP.1 hP.2.1 ht (i := i) (e := 0) ⟨by have := hP.2.1.2.2.2.1.1; omega, by have := hP.2.1.2.2.2.1.1; omega⟩ ⟨by omega, by omega⟩
  rw [show zReach i 0 r = sLv r i from by have h1 : i < 100 := (by have := hP.2.1.2.2.2.1.1; omega); unfold zReach; rw [if_pos hi]; rfl] at h
  exact h
theorem tr_1 {i : Int} (hP : pSt S D X t n hs r q) (ht : t ≤ 60000) (hi : 0 ≤ i ∧ i < r 0) : JM G yX7_reach cX7_reach 4 (some .int) (d + 5) (0, 0) S D [.inr (.inr (some X)), .inl i, .inl 1] (jr (.inl (r (8 + 3 * i))) S D) := by
  have h := kX7_reach (G := G) (d := d) hP.1 hP.2.1 ht (i := i) (e := 1) ⟨by have := hP.2.1.2.2.2.1.1; omega, by have := hP.2.1.2.2.2.1.1; omega⟩ ⟨by omega, by omega⟩
  rw [show zReach i 1 r = r (8 + 3 * i) from by have h1 : i < 100 := (by have := hP.2.1.2.2.2.1.1; omega); unfold zReach; rw [if_pos hi]; show r (wA i + 2) = _; rw [wA_r h1]; congr 1; omega] at h
  exact h
theorem tr_2 {i : Int} (hP : pSt S D X t n hs r q) (ht : t ≤ 60000) (hi : 0 ≤ i ∧ i < r 0) : JM G yX7_reach cX7_reach 4 (some .int) (d + 5) (0, 0) S D [.inr (.inr (some X)), .inl i, .inl 2] (jr (.inl (sFl r i)) S D) := by
  have h := kX7_reach (G := G) (d := d) hP.1 hP.2.1 ht (i := i) (e := 2) ⟨by have := hP.2.1.2.2.2.1.1; omega, by have := hP.2.1.2.2.2.1.1; omega⟩ ⟨by omega, by omega⟩
  rw [show zReach i 2 r = sFl r i from by have h1 : i < 100 := (by have := hP.2.1.2.2.2.1.1; omega); unfold zReach; rw [if_pos hi]; rfl] at h
  exact h
theorem tr_3 {i : Int} (hP : pSt S D X t n hs r q) (ht : t ≤ 60000) (hi : 0 ≤ i ∧ i < r 0) : JM G yX7_reach cX7_reach 4 (some .int) (d + 5) (0, 0) S D [.inr (.inr (some X)), .inl i, .inl 3] (jr (.inl (sCn r i)) S D) := by
  have h := kX7_reach (G := G) (d := d) hP.1 hP.2.1 ht (i := i) (e := 3) ⟨by have := hP.2.1.2.2.2.1.1; omega, by have := hP.2.1.2.2.2.1.1; omega⟩ ⟨by omega, by omega⟩
  rw [show zReach i 3 r = sCn r i from by have h1 : i < 100 := (by have := hP.2.1.2.2.2.1.1; omega); unfold zReach; rw [if_pos hi]; rfl] at h
  exact h
theorem tr_4 {i : Int} (hP : pSt S D X t n hs r q) (ht : t ≤ 60000) (hi : 0 ≤ i ∧ i < r 0) : JM G yX7_reach cX7_reach 4 (some .int) (d + 5) (0, 0) S D [.inr (.inr (some X)), .inl i, .inl 4] (jr (.inl (r (6 + 3 * i))) S D) := by
  have h := kX7_reach (G := G) (d := d) hP.1 hP.2.1 ht (i := i) (e := 4) ⟨by have := hP.2.1.2.2.2.1.1; omega, by have := hP.2.1.2.2.2.1.1; omega⟩ ⟨by omega, by omega⟩
  rw [show zReach i 4 r = r (6 + 3 * i) from by have h1 : i < 100 := (by have := hP.2.1.2.2.2.1.1; omega); unfold zReach; rw [if_pos hi]; show r (wA i) = _; rw [wA_r h1]] at h
  exact h
theorem tr_5 {i : Int} (hP : pSt S D X t n hs r q) (ht : t ≤ 60000) (hi : 0 ≤ i ∧ i < r 0) : JM G yX7_reach cX7_reach 4 (some .int) (d + 5) (0, 0) S D [.inr (.inr (some X)), .inl i, .inl 5] (jr (.inl (r (7 + 3 * i))) S D) := by
  have h := kX7_reach (G := G) (d := d) hP.1 hP.2.1 ht (i := i) (e := 5) ⟨by have := hP.2.1.2.2.2.1.1; omega, by have := hP.2.1.2.2.2.1.1; omega⟩ ⟨by omega, by omega⟩
  rw [show zReach i 5 r = r (7 + 3 * i) from by have h1 : i < 100 := (by have := hP.2.1.2.2.2.1.1; omega); unfold zReach; rw [if_pos hi]; show r (wA i + 1) = _; rw [wA_r h1]; congr 1; omega] at h
  exact h
theorem tr_6 {i : Int} (hP : pSt S D X t n hs r q) (ht : t ≤ 60000) (hi : 0 ≤ i ∧ i < r 0) : JM G yX7_reach cX7_reach 4 (some .int) (d + 5) (0, 0) S D [.inr (.inr (some X)), .inl i, .inl 6] (jr (.inl (-100000002)) S D) := by
  have h := kX7_reach (G := G) (d := d) hP.1 hP.2.1 ht (i := i) (e := 6) ⟨by have := hP.2.1.2.2.2.1.1; omega, by have := hP.2.1.2.2.2.1.1; omega⟩ ⟨by omega, by omega⟩
  rw [show zReach i 6 r = -100000002 from by have h1 : i < 100 := (by have := hP.2.1.2.2.2.1.1; omega); unfold zReach; rw [if_pos hi]; rfl] at h
  exact h
theorem tr_u {i : Int} (hP : pSt S D X t n hs r q) (ht : t ≤ 60000) (ri : i32 i) (hi : ¬ (0 ≤ i ∧ i < r 0)) : JM G yX7_reach cX7_reach 4 (some .int) (d + 5) (0, 0) S D [.inr (.inr (some X)), .inl i, .inl 0] (jr (.inl (-100000001)) S D) := by
  have h := kX7_reach (G := G) (d := d) hP.1 hP.2.1 ht (i := i) (e := 0) ri ⟨by omega, by omega⟩
  rw [show zReach i 0 r = -100000001 from by unfold zReach; rw [if_neg hi]] at h
  exact h
theorem tb_0 {k : Int} (hP : pSt S D X t n hs r q) (ht : t ≤ 60000) (hk : 0 ≤ k ∧ k < r 2) : JM G yX7_barge cX7_barge 4 (some .int) (d + 5) (0, 0) S D [.inr (.inr (some X)), .inl k, .inl 0] (jr (.inl (r (65 + 8 * k))) S D) := by
  have h := kX7_barge (G := G) (d := d) hP.1 hP.2.1 ht (k := k) (e := 0) ⟨by have := hP.2.1.2.2.2.1.1; omega, by have := hP.2.1.2.2.2.1.1; omega⟩ ⟨by omega, by omega⟩
  rw [show zBarge k 0 r = r (65 + 8 * k) from by unfold zBarge; rw [if_pos hk]; rfl] at h
  exact h
theorem tb_1 {k : Int} (hP : pSt S D X t n hs r q) (ht : t ≤ 60000) (hk : 0 ≤ k ∧ k < r 2) : JM G yX7_barge cX7_barge 4 (some .int) (d + 5) (0, 0) S D [.inr (.inr (some X)), .inl k, .inl 1] (jr (.inl (sW r k)) S D) := by
  have h := kX7_barge (G := G) (d := d) hP.1 hP.2.1 ht (k := k) (e := 1) ⟨by have := hP.2.1.2.2.2.1.1; omega, by have := hP.2.1.2.2.2.1.1; omega⟩ ⟨by omega, by omega⟩
  rw [show zBarge k 1 r = sW r k from by unfold zBarge; rw [if_pos hk]; rfl] at h
  exact h
theorem tb_2 {k : Int} (hP : pSt S D X t n hs r q) (ht : t ≤ 60000) (hk : 0 ≤ k ∧ k < r 2) : JM G yX7_barge cX7_barge 4 (some .int) (d + 5) (0, 0) S D [.inr (.inr (some X)), .inl k, .inl 2] (jr (.inl (sDr r k)) S D) := by
  have h := kX7_barge (G := G) (d := d) hP.1 hP.2.1 ht (k := k) (e := 2) ⟨by have := hP.2.1.2.2.2.1.1; omega, by have := hP.2.1.2.2.2.1.1; omega⟩ ⟨by omega, by omega⟩
  rw [show zBarge k 2 r = sDr r k from by unfold zBarge; rw [if_pos hk]; rfl] at h
  exact h
theorem tb_3 {k : Int} (hP : pSt S D X t n hs r q) (ht : t ≤ 60000) (hk : 0 ≤ k ∧ k < r 2) : JM G yX7_barge cX7_barge 4 (some .int) (d + 5) (0, 0) S D [.inr (.inr (some X)), .inl k, .inl 3] (jr (.inl (r (69 + 8 * k))) S D) := by
  have h := kX7_barge (G := G) (d := d) hP.1 hP.2.1 ht (k := k) (e := 3) ⟨by have := hP.2.1.2.2.2.1.1; omega, by have := hP.2.1.2.2.2.1.1; omega⟩ ⟨by omega, by omega⟩
  rw [show zBarge k 3 r = r (69 + 8 * k) from by unfold zBarge; rw [if_pos hk]; rfl] at h
  exact h
theorem tb_4 {k : Int} (hP : pSt S D X t n hs r q) (ht : t ≤ 60000) (hk : 0 ≤ k ∧ k < r 2) : JM G yX7_barge cX7_barge 4 (some .int) (d + 5) (0, 0) S D [.inr (.inr (some X)), .inl k, .inl 4] (jr (.inl (r (70 + 8 * k))) S D) := by
  have h := kX7_barge (G := G) (d := d) hP.1 hP.2.1 ht (k := k) (e := 4) ⟨by have := hP.2.1.2.2.2.1.1; omega, by have := hP.2.1.2.2.2.1.1; omega⟩ ⟨by omega, by omega⟩
  rw [show zBarge k 4 r = r (70 + 8 * k) from by unfold zBarge; rw [if_pos hk]; rfl] at h
  exact h
theorem tb_5 {k : Int} (hP : pSt S D X t n hs r q) (ht : t ≤ 60000) (hk : 0 ≤ k ∧ k < r 2) : JM G yX7_barge cX7_barge 4 (some .int) (d + 5) (0, 0) S D [.inr (.inr (some X)), .inl k, .inl 5] (jr (.inl (r (68 + 8 * k) - r (69 + 8 * k) - r (70 + 8 * k))) S D) := by
  have h := kX7_barge (G := G) (d := d) hP.1 hP.2.1 ht (k := k) (e := 5) ⟨by have := hP.2.1.2.2.2.1.1; omega, by have := hP.2.1.2.2.2.1.1; omega⟩ ⟨by omega, by omega⟩
  rw [show zBarge k 5 r = r (68 + 8 * k) - r (69 + 8 * k) - r (70 + 8 * k) from by unfold zBarge; rw [if_pos hk]; rfl] at h
  exact h
theorem tb_6 {k : Int} (hP : pSt S D X t n hs r q) (ht : t ≤ 60000) (hk : 0 ≤ k ∧ k < r 2) : JM G yX7_barge cX7_barge 4 (some .int) (d + 5) (0, 0) S D [.inr (.inr (some X)), .inl k, .inl 6] (jr (.inl (tAgr r k)) S D) := by
  have h := kX7_barge (G := G) (d := d) hP.1 hP.2.1 ht (k := k) (e := 6) ⟨by have := hP.2.1.2.2.2.1.1; omega, by have := hP.2.1.2.2.2.1.1; omega⟩ ⟨by omega, by omega⟩
  rw [show zBarge k 6 r = tAgr r k from by unfold zBarge; rw [if_pos hk]; rfl] at h
  exact h
theorem tb_7 {k : Int} (hP : pSt S D X t n hs r q) (ht : t ≤ 60000) (hk : 0 ≤ k ∧ k < r 2) : JM G yX7_barge cX7_barge 4 (some .int) (d + 5) (0, 0) S D [.inr (.inr (some X)), .inl k, .inl 7] (jr (.inl (r (71 + 8 * k))) S D) := by
  have h := kX7_barge (G := G) (d := d) hP.1 hP.2.1 ht (k := k) (e := 7) ⟨by have := hP.2.1.2.2.2.1.1; omega, by have := hP.2.1.2.2.2.1.1; omega⟩ ⟨by omega, by omega⟩
  rw [show zBarge k 7 r = r (71 + 8 * k) from by unfold zBarge; rw [if_pos hk]; rfl] at h
  exact h
theorem tb_8 {k : Int} (hP : pSt S D X t n hs r q) (ht : t ≤ 60000) (hk : 0 ≤ k ∧ k < r 2) : JM G yX7_barge cX7_barge 4 (some .int) (d + 5) (0, 0) S D [.inr (.inr (some X)), .inl k, .inl 8] (jr (.inl (r (72 + 8 * k))) S D) := by
  have h := kX7_barge (G := G) (d := d) hP.1 hP.2.1 ht (k := k) (e := 8) ⟨by have := hP.2.1.2.2.2.1.1; omega, by have := hP.2.1.2.2.2.1.1; omega⟩ ⟨by omega, by omega⟩
  rw [show zBarge k 8 r = r (72 + 8 * k) from by unfold zBarge; rw [if_pos hk]; rfl] at h
  exact h
theorem tb_9 {k : Int} (hP : pSt S D X t n hs r q) (ht : t ≤ 60000) (hk : 0 ≤ k ∧ k < r 2) : JM G yX7_barge cX7_barge 4 (some .int) (d + 5) (0, 0) S D [.inr (.inr (some X)), .inl k, .inl 9] (jr (.inl (-100000002)) S D) := by
  have h := kX7_barge (G := G) (d := d) hP.1 hP.2.1 ht (k := k) (e := 9) ⟨by have := hP.2.1.2.2.2.1.1; omega, by have := hP.2.1.2.2.2.1.1; omega⟩ ⟨by omega, by omega⟩
  rw [show zBarge k 9 r = -100000002 from by unfold zBarge; rw [if_pos hk]; rfl] at h
  exact h
theorem tb_u {k : Int} (hP : pSt S D X t n hs r q) (ht : t ≤ 60000) (rk : i32 k) (hk : ¬ (0 ≤ k ∧ k < r 2)) : JM G yX7_barge cX7_barge 4 (some .int) (d + 5) (0, 0) S D [.inr (.inr (some X)), .inl k, .inl 0] (jr (.inl (-100000001)) S D) := by
  have h := kX7_barge (G := G) (d := d) hP.1 hP.2.1 ht (k := k) (e := 0) rk ⟨by omega, by omega⟩
  rw [show zBarge k 0 r = -100000001 from by unfold zBarge; rw [if_neg hk]] at h
  exact h
theorem tl_y {c k : Int} (hP : pSt S D X t n hs r q) (ht : t ≤ 60000) (hc : 0 ≤ c ∧ c < r 1) (rk : i32 k) (hk : 0 ≤ k ∧ k < r (161 + 13 * c)) : JM G yX7_lying cX7_lying 5 (some .int) (d + 1) (0, 0) S D [.inr (.inr (some X)), .inl c, .inl k] (jr (.inl (r (162 + 13 * c + k))) S D) := by
  have h := kX7_lying (G := G) (d := d) hP.1 hP.2.1 ht (c := c) (k := k) ⟨by have := hP.2.1.2.2.2.1.1; omega, by have := hP.2.1.2.2.2.1.1; omega⟩ rk
  rw [show zLying c k r = r (162 + 13 * c + k) from by unfold zLying; rw [if_pos hc, if_neg (show ¬ k < 0 by omega), if_pos hk.2]] at h
  exact h
theorem tl_n {c k : Int} (hP : pSt S D X t n hs r q) (ht : t ≤ 60000) (hc : 0 ≤ c ∧ c < r 1) (rk : i32 k) (hk : 0 ≤ k ∧ ¬ k < r (161 + 13 * c)) : JM G yX7_lying cX7_lying 5 (some .int) (d + 1) (0, 0) S D [.inr (.inr (some X)), .inl c, .inl k] (jr (.inl (-100000005)) S D) := by
  have h := kX7_lying (G := G) (d := d) hP.1 hP.2.1 ht (c := c) (k := k) ⟨by have := hP.2.1.2.2.2.1.1; omega, by have := hP.2.1.2.2.2.1.1; omega⟩ rk
  rw [show zLying c k r = -100000005 from by unfold zLying; rw [if_pos hc, if_neg (show ¬ k < 0 by omega), if_neg hk.2]] at h
  exact h
theorem tl_b {c : Int} (hP : pSt S D X t n hs r q) (ht : t ≤ 60000) (hc : 0 ≤ c ∧ c < r 1) : JM G yX7_lying cX7_lying 5 (some .int) (d + 1) (0, 0) S D [.inr (.inr (some X)), .inl c, .inl (-1)] (jr (.inl (-100000002)) S D) := by
  have h := kX7_lying (G := G) (d := d) hP.1 hP.2.1 ht (c := c) (k := -1) ⟨by have := hP.2.1.2.2.2.1.1; omega, by have := hP.2.1.2.2.2.1.1; omega⟩ ⟨by omega, by omega⟩
  rw [show zLying c (-1) r = -100000002 from by unfold zLying; rw [if_pos hc]; rfl] at h
  exact h
theorem tl_u {c : Int} (hP : pSt S D X t n hs r q) (ht : t ≤ 60000) (rc : i32 c) (hc : ¬ (0 ≤ c ∧ c < r 1)) : JM G yX7_lying cX7_lying 5 (some .int) (d + 1) (0, 0) S D [.inr (.inr (some X)), .inl c, .inl 0] (jr (.inl (-100000001)) S D) := by
  have h := kX7_lying (G := G) (d := d) hP.1 hP.2.1 ht (c := c) (k := 0) rc ⟨by omega, by omega⟩
  rw [show zLying c 0 r = -100000001 from by unfold zLying; rw [if_neg hc]] at h
  exact h
theorem tf_y {c g : Int} (hP : pSt S D X t n hs r q) (ht : t ≤ 60000) (hc : 0 ≤ c ∧ c < r 1) (hg : g = 0 ∨ g = 1) : JM G yX7_flow cX7_flow 5 (some .int) (d + 3) (0, 0) S D [.inr (.inr (some X)), .inl c, .inl g] (jr (.inl (sShd r c g - r (23 + 11 * c))) S D) := by
  have h := kX7_flow (G := G) (d := d) hP.1 hP.2.1 ht (c := c) (g := g) ⟨by have := hP.2.1.2.2.2.1.1; omega, by have := hP.2.1.2.2.2.1.1; omega⟩ ⟨by omega, by omega⟩
  rw [show zFlow c g r = sShd r c g - r (23 + 11 * c) from by unfold zFlow; rw [if_pos ⟨hc, hg⟩]] at h
  exact h
theorem tf_u {c : Int} (hP : pSt S D X t n hs r q) (ht : t ≤ 60000) (hc : 0 ≤ c ∧ c < r 1) : JM G yX7_flow cX7_flow 5 (some .int) (d + 3) (0, 0) S D [.inr (.inr (some X)), .inl c, .inl 2] (jr (.inl (-100000001)) S D) := by
  have h := kX7_flow (G := G) (d := d) hP.1 hP.2.1 ht (c := c) (g := 2) ⟨by have := hP.2.1.2.2.2.1.1; omega, by have := hP.2.1.2.2.2.1.1; omega⟩ ⟨by omega, by omega⟩
  rw [show zFlow c 2 r = -100000001 from by unfold zFlow; rw [if_neg (by omega)]] at h
  exact h
theorem tm_n {k c g : Int} (hP : pSt S D X t n hs r q) (ht : t ≤ 60000) (hk : 0 ≤ k ∧ k < r 2) (hc : 0 ≤ c ∧ c < r 1) (hg : g = 0 ∨ g = 1) (hm : tMost r k c g < sW r k) : JM G yX7_margin cX7_margin 9 (some .int) (d + 5) (0, 0) S D [.inr (.inr (some X)), .inl k, .inl c, .inl g] (jr (.inl (-100000005)) S D) := by
  have h := kX7_margin (G := G) (d := d) hP.1 hP.2.1 ht (k := k) (c := c) (g := g) ⟨by have := hP.2.1.2.2.2.1.1; omega, by have := hP.2.1.2.2.2.1.1; omega⟩ ⟨by have := hP.2.1.2.2.2.1.1; omega, by have := hP.2.1.2.2.2.1.1; omega⟩ ⟨by omega, by omega⟩
  rw [show zMargin k c g r = -100000005 from by unfold zMargin; rw [if_pos ⟨hk, hc, hg⟩, if_pos hm]] at h
  exact h
theorem tm_y {k c g : Int} (hP : pSt S D X t n hs r q) (ht : t ≤ 60000) (hk : 0 ≤ k ∧ k < r 2) (hc : 0 ≤ c ∧ c < r 1) (hg : g = 0 ∨ g = 1) (hm : ¬ tMost r k c g < sW r k) : JM G yX7_margin cX7_margin 9 (some .int) (d + 5) (0, 0) S D [.inr (.inr (some X)), .inl k, .inl c, .inl g] (jr (.inl (min (tMost r k c g - sW r k) (r (68 + 8 * k) - r (69 + 8 * k) - r (70 + 8 * k)))) S D) := by
  have h := kX7_margin (G := G) (d := d) hP.1 hP.2.1 ht (k := k) (c := c) (g := g) ⟨by have := hP.2.1.2.2.2.1.1; omega, by have := hP.2.1.2.2.2.1.1; omega⟩ ⟨by have := hP.2.1.2.2.2.1.1; omega, by have := hP.2.1.2.2.2.1.1; omega⟩ ⟨by omega, by omega⟩
  rw [show zMargin k c g r = min (tMost r k c g - sW r k) (r (68 + 8 * k) - r (69 + 8 * k) - r (70 + 8 * k)) from by unfold zMargin; rw [if_pos ⟨hk, hc, hg⟩, if_neg hm]] at h
  exact h
theorem tm_u {k : Int} (hP : pSt S D X t n hs r q) (ht : t ≤ 60000) (rk : i32 k) (hk : ¬ (0 ≤ k ∧ k < r 2)) : JM G yX7_margin cX7_margin 9 (some .int) (d + 5) (0, 0) S D [.inr (.inr (some X)), .inl k, .inl 0, .inl 0] (jr (.inl (-100000001)) S D) := by
  have h := kX7_margin (G := G) (d := d) hP.1 hP.2.1 ht (k := k) (c := 0) (g := 0) rk ⟨by omega, by omega⟩ ⟨by omega, by omega⟩
  rw [show zMargin k 0 0 r = -100000001 from by unfold zMargin; rw [if_neg (fun z => hk z.1)]] at h
  exact h
theorem ta_0  (hP : pSt S D X t n hs r q) (ht : t ≤ 60000) : JM G yX7_account cX7_account 2 (some .long) (d + 6) (0, 0) S D [.inr (.inr (some X)), .inl 0] (jr (.inr (.inl (jsum (sWx r) (r 0).toNat))) S D) := by
  have h := kX7_account (G := G) (d := d) hP.1 hP.2.1 ht (e := 0) ⟨by omega, by omega⟩
  rw [show zAccount 0 r = jsum (sWx r) (r 0).toNat from rfl] at h
  exact h
theorem ta_1  (hP : pSt S D X t n hs r q) (ht : t ≤ 60000) : JM G yX7_account cX7_account 2 (some .long) (d + 6) (0, 0) S D [.inr (.inr (some X)), .inl 1] (jr (.inr (.inl (jsum (fun k => r (70 + 8 * k)) (r 2).toNat))) S D) := by
  have h := kX7_account (G := G) (d := d) hP.1 hP.2.1 ht (e := 1) ⟨by omega, by omega⟩
  rw [show zAccount 1 r = jsum (fun k => r (70 + 8 * k)) (r 2).toNat from rfl] at h
  exact h
theorem ta_2  (hP : pSt S D X t n hs r q) (ht : t ≤ 60000) : JM G yX7_account cX7_account 2 (some .long) (d + 6) (0, 0) S D [.inr (.inr (some X)), .inl 2] (jr (.inr (.inl (jsum (fun k => r (69 + 8 * k)) (r 2).toNat))) S D) := by
  have h := kX7_account (G := G) (d := d) hP.1 hP.2.1 ht (e := 2) ⟨by omega, by omega⟩
  rw [show zAccount 2 r = jsum (fun k => r (69 + 8 * k)) (r 2).toNat from rfl] at h
  exact h
theorem ta_3  (hP : pSt S D X t n hs r q) (ht : t ≤ 60000) : JM G yX7_account cX7_account 2 (some .long) (d + 6) (0, 0) S D [.inr (.inr (some X)), .inl 3] (jr (.inr (.inl (jsum (sW r) (r 2).toNat))) S D) := by
  have h := kX7_account (G := G) (d := d) hP.1 hP.2.1 ht (e := 3) ⟨by omega, by omega⟩
  rw [show zAccount 3 r = jsum (sW r) (r 2).toNat from rfl] at h
  exact h
theorem ta_4  (hP : pSt S D X t n hs r q) (ht : t ≤ 60000) : JM G yX7_account cX7_account 2 (some .long) (d + 6) (0, 0) S D [.inr (.inr (some X)), .inl 4] (jr (.inr (.inl (r 4))) S D) := by
  have h := kX7_account (G := G) (d := d) hP.1 hP.2.1 ht (e := 4) ⟨by omega, by omega⟩
  rw [show zAccount 4 r = r 4 from rfl] at h
  exact h
theorem ta_5  (hP : pSt S D X t n hs r q) (ht : t ≤ 60000) : JM G yX7_account cX7_account 2 (some .long) (d + 6) (0, 0) S D [.inr (.inr (some X)), .inl 5] (jr (.inr (.inl (r 5))) S D) := by
  have h := kX7_account (G := G) (d := d) hP.1 hP.2.1 ht (e := 5) ⟨by omega, by omega⟩
  rw [show zAccount 5 r = r 5 from rfl] at h
  exact h
theorem ta_6  (hP : pSt S D X t n hs r q) (ht : t ≤ 60000) : JM G yX7_account cX7_account 2 (some .long) (d + 6) (0, 0) S D [.inr (.inr (some X)), .inl 6] (jr (.inr (.inl (jsum (fun k => r (72 + 8 * k)) (r 2).toNat))) S D) := by
  have h := kX7_account (G := G) (d := d) hP.1 hP.2.1 ht (e := 6) ⟨by omega, by omega⟩
  rw [show zAccount 6 r = jsum (fun k => r (72 + 8 * k)) (r 2).toNat from rfl] at h
  exact h
theorem ta_7  (hP : pSt S D X t n hs r q) (ht : t ≤ 60000) : JM G yX7_account cX7_account 2 (some .long) (d + 6) (0, 0) S D [.inr (.inr (some X)), .inl 7] (jr (.inr (.inl (-100000002))) S D) := by
  have h := kX7_account (G := G) (d := d) hP.1 hP.2.1 ht (e := 7) ⟨by omega, by omega⟩
  rw [show zAccount 7 r = -100000002 from rfl] at h
  exact h
theorem tn_0  (hP : pSt S D X t n hs r q) (ht : t ≤ 60000) : JM G yX7_count cX7_count 2 (some .int) (d + 6) (0, 0) S D [.inr (.inr (some X)), .inl 0] (jr (.inl (r 0)) S D) := by
  have h := kX7_count (G := G) (d := d) hP.1 hP.2.1 ht (e := 0) ⟨by omega, by omega⟩
  rw [show zCount 0 q n (D (X + 250) 1) r = r 0 from rfl] at h
  exact h
theorem tn_1  (hP : pSt S D X t n hs r q) (ht : t ≤ 60000) : JM G yX7_count cX7_count 2 (some .int) (d + 6) (0, 0) S D [.inr (.inr (some X)), .inl 1] (jr (.inl (r 1)) S D) := by
  have h := kX7_count (G := G) (d := d) hP.1 hP.2.1 ht (e := 1) ⟨by omega, by omega⟩
  rw [show zCount 1 q n (D (X + 250) 1) r = r 1 from rfl] at h
  exact h
theorem tn_2  (hP : pSt S D X t n hs r q) (ht : t ≤ 60000) : JM G yX7_count cX7_count 2 (some .int) (d + 6) (0, 0) S D [.inr (.inr (some X)), .inl 2] (jr (.inl (r 2)) S D) := by
  have h := kX7_count (G := G) (d := d) hP.1 hP.2.1 ht (e := 2) ⟨by omega, by omega⟩
  rw [show zCount 2 q n (D (X + 250) 1) r = r 2 from rfl] at h
  exact h
theorem tn_3  (hP : pSt S D X t n hs r q) (ht : t ≤ 60000) : JM G yX7_count cX7_count 2 (some .int) (d + 6) (0, 0) S D [.inr (.inr (some X)), .inl 3] (jr (.inl (jsum (fun c => if 0 ≤ r (29 + 11 * c) then 1 else 0) (r 1).toNat)) S D) := by
  have h := kX7_count (G := G) (d := d) hP.1 hP.2.1 ht (e := 3) ⟨by omega, by omega⟩
  rw [show zCount 3 q n (D (X + 250) 1) r = jsum (fun c => if 0 ≤ r (29 + 11 * c) then 1 else 0) (r 1).toNat from rfl] at h
  exact h
theorem tn_4  (hP : pSt S D X t n hs r q) (ht : t ≤ 60000) : JM G yX7_count cX7_count 2 (some .int) (d + 6) (0, 0) S D [.inr (.inr (some X)), .inl 4] (jr (.inl (jsum (tAgr r) (r 2).toNat)) S D) := by
  have h := kX7_count (G := G) (d := d) hP.1 hP.2.1 ht (e := 4) ⟨by omega, by omega⟩
  rw [show zCount 4 q n (D (X + 250) 1) r = jsum (tAgr r) (r 2).toNat from rfl] at h
  exact h
theorem tn_5  (hP : pSt S D X t n hs r q) (ht : t ≤ 60000) : JM G yX7_count cX7_count 2 (some .int) (d + 6) (0, 0) S D [.inr (.inr (some X)), .inl 5] (jr (.inl (jsum (fun c => r (161 + 13 * c)) (r 1).toNat)) S D) := by
  have h := kX7_count (G := G) (d := d) hP.1 hP.2.1 ht (e := 5) ⟨by omega, by omega⟩
  rw [show zCount 5 q n (D (X + 250) 1) r = jsum (fun c => r (161 + 13 * c)) (r 1).toNat from rfl] at h
  exact h
theorem tn_6  (hP : pSt S D X t n hs r q) (ht : t ≤ 60000) : JM G yX7_count cX7_count 2 (some .int) (d + 6) (0, 0) S D [.inr (.inr (some X)), .inl 6] (jr (.inl (r 3)) S D) := by
  have h := kX7_count (G := G) (d := d) hP.1 hP.2.1 ht (e := 6) ⟨by omega, by omega⟩
  rw [show zCount 6 q n (D (X + 250) 1) r = r 3 from rfl] at h
  exact h
theorem tn_7  (hP : pSt S D X t n hs r q) (ht : t ≤ 60000) : JM G yX7_count cX7_count 2 (some .int) (d + 6) (0, 0) S D [.inr (.inr (some X)), .inl 7] (jr (.inl (q)) S D) := by
  have h := kX7_count (G := G) (d := d) hP.1 hP.2.1 ht (e := 7) ⟨by omega, by omega⟩
  rw [show zCount 7 q n (D (X + 250) 1) r = q from rfl] at h
  exact h
theorem tn_10  (hP : pSt S D X t n hs r q) (ht : t ≤ 60000) : JM G yX7_count cX7_count 2 (some .int) (d + 6) (0, 0) S D [.inr (.inr (some X)), .inl 10] (jr (.inl (-100000002)) S D) := by
  have h := kX7_count (G := G) (d := d) hP.1 hP.2.1 ht (e := 10) ⟨by omega, by omega⟩
  rw [show zCount 10 q n (D (X + 250) 1) r = -100000002 from rfl] at h
  exact h
end PTELL
