/-! LINES IN CHAMBERS, and a passage as a whole -/
def rLineIn (c g k : Int) (r : Int → Int) : Int → Int := fun j =>
  if j = 161 + 13 * c then r j + 1
  else if g = 0 then (if j = 162 + 13 * c then k else if 162 + 13 * c < j ∧ j ≤ 162 + 13 * c + r (161 + 13 * c) then r (j - 1) else r j)
  else (if j = 162 + 13 * c + r (161 + 13 * c) then k else r j)
def rLineOut (c g : Int) (r : Int → Int) : Int → Int := fun j =>
  if j = 161 + 13 * c then r j - 1
  else if g = 0 ∧ 162 + 13 * c ≤ j ∧ j < 161 + 13 * c + r (161 + 13 * c) then r (j + 1) else r j
def rPs (k c g q : Int) (r : Int → Int) : Int → Int :=
  rup (rup (rup (rup r (71 + 8 * k) q) (30 + 11 * c + g) (r (30 + 11 * c + g) + 1)) (27 + 11 * c + g) (r (27 + 11 * c + g) + (if (r (30 + 11 * c + g) + 1) % 8 = 0 then 1 else 0))) (72 + 8 * k) (r (72 + 8 * k) + 1)
def rEnter (k c g : Int) (r : Int → Int) : Int → Int := rPs k c g (100 + c) (rLineIn c g k r)
def rLeave (k c g : Int) (r : Int → Int) : Int → Int := rPs k c g (c + g) (rLineOut c g r)
theorem rLineIn_o {c g k : Int} {r : Int → Int} {j : Int} (hn : 0 ≤ r (161 + 13 * c) ∧ r (161 + 13 * c) < 12) (hj : ¬ (161 + 13 * c ≤ j ∧ j < 174 + 13 * c)) : rLineIn c g k r j = r j := by
  unfold rLineIn
  rw [if_neg (by omega)]
  split
  · rw [if_neg (by omega), if_neg (by omega)]
  · rw [if_neg (by omega)]
theorem rLineIn_n {c g k : Int} {r : Int → Int} : rLineIn c g k r (161 + 13 * c) = r (161 + 13 * c) + 1 := by
  unfold rLineIn
  rw [if_pos rfl]
theorem rLineIn_0 {c k : Int} {r : Int → Int} {z : Int} (h0 : 0 ≤ z) (h1 : z ≤ r (161 + 13 * c)) : rLineIn c 0 k r (162 + 13 * c + z) = if z = 0 then k else r (162 + 13 * c + (z - 1)) := by
  unfold rLineIn
  rw [if_neg (by omega), if_pos rfl]
  by_cases h : z = 0
  · rw [if_pos (by omega), if_pos h]
  · rw [if_neg (by omega), if_pos (by omega), if_neg h]
    congr 1
    omega
theorem rLineIn_1 {c k : Int} {r : Int → Int} {z : Int} (h0 : 0 ≤ z) : rLineIn c 1 k r (162 + 13 * c + z) = if z = r (161 + 13 * c) then k else r (162 + 13 * c + z) := by
  unfold rLineIn
  rw [if_neg (by omega), if_neg (by decide)]
  by_cases h : z = r (161 + 13 * c)
  · rw [if_pos (by omega), if_pos h]
  · rw [if_neg (by omega), if_neg h]
theorem rLineOut_o {c g : Int} {r : Int → Int} {j : Int} (hn : 0 ≤ r (161 + 13 * c) ∧ r (161 + 13 * c) ≤ 12) (hj : ¬ (161 + 13 * c ≤ j ∧ j < 174 + 13 * c)) : rLineOut c g r j = r j := by
  unfold rLineOut
  rw [if_neg (by omega), if_neg (by omega)]
theorem rLineOut_n {c g : Int} {r : Int → Int} : rLineOut c g r (161 + 13 * c) = r (161 + 13 * c) - 1 := by
  unfold rLineOut
  rw [if_pos rfl]
theorem rLineOut_z {c g : Int} {r : Int → Int} {z : Int} (h0 : 0 ≤ z) (h1 : z < r (161 + 13 * c) - 1) : rLineOut c g r (162 + 13 * c + z) = if g = 0 then r (162 + 13 * c + (z + 1)) else r (162 + 13 * c + z) := by
  unfold rLineOut
  rw [if_neg (by omega)]
  by_cases h : g = 0
  · rw [if_pos (by omega), if_pos h]
    congr 1
    omega
  · rw [if_neg (by omega), if_neg h]
theorem rPs_o {k c g q : Int} {r : Int → Int} {j : Int} (h1 : j ≠ 71 + 8 * k) (h2 : j ≠ 72 + 8 * k) (h3 : j ≠ 30 + 11 * c + g) (h4 : j ≠ 27 + 11 * c + g) : rPs k c g q r j = r j := by
  unfold rPs
  rw [rup_ne h2, rup_ne h4, rup_ne h3, rup_ne h1]
theorem rPs_n {k c g q : Int} {r : Int → Int} (hc : 0 ≤ c ∧ c < 4) (hg : g = 0 ∨ g = 1) (hk : 0 ≤ k) : rPs k c g q r (71 + 8 * k) = q ∧ rPs k c g q r (72 + 8 * k) = r (72 + 8 * k) + 1 ∧ rPs k c g q r (30 + 11 * c + g) = r (30 + 11 * c + g) + 1 ∧ rPs k c g q r (27 + 11 * c + g) = r (27 + 11 * c + g) + (if (r (30 + 11 * c + g) + 1) % 8 = 0 then 1 else 0) := by
  unfold rPs
  refine ⟨?_, by rw [rup_eq], ?_, ?_⟩
  · rw [rup_ne (by omega), rup_ne (by omega), rup_ne (by omega), rup_eq]
  · rw [rup_ne (by omega), rup_ne (by omega), rup_eq]
  · rw [rup_ne (by omega), rup_eq]
theorem rIn.lines {t : Int} {r : Int → Int} (hI : rIn t r) {c : Int} (h0 : 0 ≤ c) (h1 : c < r 1) : (∀ z : Int, 0 ≤ z → z < r (161 + 13 * c) → 0 ≤ r (162 + 13 * c + z) ∧ r (162 + 13 * c + z) < r 2 ∧ r (71 + 8 * r (162 + 13 * c + z)) = 100 + c) ∧ (∀ y z : Int, 0 ≤ y → y < z → z < r (161 + 13 * c) → r (162 + 13 * c + y) ≠ r (162 + 13 * c + z)) := by
  have g := (hI.2.2.1 c h0 h1).2
  unfold rCo at g
  exact g.2.2.2.2.2.2.2.2.2.2.2.2.2.2.2
theorem sCn_lt {r : Int → Int} {k w : Int} (h0 : 0 ≤ k) (h1 : k < r 2) (h : r (71 + 8 * k) ≠ w) : sCn r w ≤ r 2 - 1 := by
  have e := jsum_one (f := fun b => if r (71 + 8 * b) = w then (1 : Int) else 0) (g := fun b => if b = k then (1 : Int) else if r (71 + 8 * b) = w then (1 : Int) else 0) (i := k) (n := (r 2).toNat) h0 (by omega) (fun b x y z => by
    show (if b = k then (1 : Int) else if r (71 + 8 * b) = w then (1 : Int) else 0) = (if r (71 + 8 * b) = w then (1 : Int) else 0)
    rw [if_neg z])
  have l := jsum_le (f := fun b => if b = k then (1 : Int) else if r (71 + 8 * b) = w then (1 : Int) else 0) (M := 1) (n := (r 2).toNat) (fun b x y => by
    show (if b = k then (1 : Int) else if r (71 + 8 * b) = w then (1 : Int) else 0) ≤ 1
    split
    · omega
    · split <;> omega)
  rw [e] at l
  have l2 : jsum (fun b => if r (71 + 8 * b) = w then (1 : Int) else 0) (r 2).toNat + ((if k = k then (1 : Int) else if r (71 + 8 * k) = w then (1 : Int) else 0) - (if r (71 + 8 * k) = w then (1 : Int) else 0)) ≤ (r 2).toNat * 1 := l
  rw [if_pos rfl, if_neg h] at l2
  unfold sCn
  omega
section ENTER
variable {t : Int} {c g k : Int} {r : Int → Int}
theorem rIn.room (hI : rIn t r) (c0 : 0 ≤ c) (c1 : c < r 1) (k0 : 0 ≤ k) (k1 : k < r 2) (hp : r (71 + 8 * k) ≠ 100 + c) : 0 ≤ r (161 + 13 * c) ∧ r (161 + 13 * c) < 12 := by
  have l := hI.line c0 c1
  have s := sCn_lt k0 k1 hp
  have b1 := hI.1
  omega
theorem psd_in (hI : rIn t r) (c0 : 0 ≤ c) (c1 : c < r 1) (k0 : 0 ≤ k) (k1 : k < r 2) (hp : r (71 + 8 * k) ≠ 100 + c) : rPsd r (rEnter k c g r) c g k := by
  have hn := hI.room c0 c1 k0 k1 hp
  intro j h1 h2 h3 h4 h5
  unfold rEnter
  rw [rPs_o h2 h3 h4 h5, rLineIn_o hn h1]
theorem in_line (hI : rIn t r) (c0 : 0 ≤ c) (c1 : c < r 1) (hg : g = 0 ∨ g = 1) (k0 : 0 ≤ k) (k1 : k < r 2) {j : Int} (hj : 161 ≤ j) : rEnter k c g r j = rLineIn c g k r j := by
  have b1 := hI.1
  unfold rEnter
  exact rPs_o (by omega) (by omega) (by omega) (by omega)
theorem in_num (hI : rIn t r) (c0 : 0 ≤ c) (c1 : c < r 1) (hg : g = 0 ∨ g = 1) (k0 : 0 ≤ k) (k1 : k < r 2) (hp : r (71 + 8 * k) ≠ 100 + c) : rEnter k c g r (71 + 8 * k) = 100 + c ∧ rEnter k c g r (72 + 8 * k) = r (72 + 8 * k) + 1 ∧ rEnter k c g r (30 + 11 * c + g) = r (30 + 11 * c + g) + 1 ∧ rEnter k c g r (27 + 11 * c + g) = r (27 + 11 * c + g) + (if (r (30 + 11 * c + g) + 1) % 8 = 0 then 1 else 0) := by
  have b1 := hI.1
  have hn := hI.room c0 c1 k0 k1 hp
  obtain ⟨n1, n2, n3, n4⟩ := rPs_n (k := k) (c := c) (g := g) (q := 100 + c) (r := rLineIn c g k r) ⟨c0, by omega⟩ hg k0
  rw [rLineIn_o hn (by omega)] at n2
  rw [rLineIn_o hn (by omega)] at n3
  rw [rLineIn_o hn (by omega), rLineIn_o hn (by omega)] at n4
  exact ⟨n1, n2, n3, n4⟩
theorem rIn.enter (hI : rIn t r) (c0 : 0 ≤ c) (c1 : c < r 1) (hg : g = 0 ∨ g = 1) (k0 : 0 ≤ k) (k1 : k < r 2) (hp : r (71 + 8 * k) = c + g) (hl : r (65 + 8 * k) ≤ sLf r c) : rIn (t + 1) (rEnter k c g r) := by
  have b1 := hI.1
  have hpp : r (71 + 8 * k) ≠ 100 + c := by omega
  have e := psd_in (g := g) hI c0 c1 k0 k1 hpp
  have il : ∀ j : Int, 161 ≤ j → rEnter k c g r j = rLineIn c g k r j := fun j hj => in_line hI c0 c1 hg k0 k1 hj
  obtain ⟨n1, n2, n3, n4⟩ := in_num hI c0 c1 hg k0 k1 hpp
  have m := e.mvd ⟨c0, by omega⟩ hg k0 (by omega) n1
  have hcn := m.cn k0 k1 (100 + c)
  obtain ⟨l1, l2⟩ := hI.lines c0 c1
  have hln := hI.line c0 c1
  have nl : rEnter k c g r (161 + 13 * c) = r (161 + 13 * c) + 1 := by rw [il _ (by omega), rLineIn_n]
  have hz : ∀ z : Int, 0 ≤ z → z < r (161 + 13 * c) + 1 → (rEnter k c g r (162 + 13 * c + z) = k ∧ z = (if g = 0 then 0 else r (161 + 13 * c))) ∨ (∃ y : Int, y = (if g = 0 then z - 1 else z) ∧ 0 ≤ y ∧ y < r (161 + 13 * c) ∧ rEnter k c g r (162 + 13 * c + z) = r (162 + 13 * c + y)) := fun z p q => by
    rw [il _ (by omega)]
    rcases hg with rfl | rfl
    · rw [rLineIn_0 p (by omega)]
      by_cases h : z = 0
      · left; rw [if_pos h]; exact ⟨rfl, by rw [if_pos rfl]; exact h⟩
      · right; rw [if_neg h]; exact ⟨z - 1, by rw [if_pos rfl], by omega, by omega, rfl⟩
    · rw [rLineIn_1 p]
      by_cases h : z = r (161 + 13 * c)
      · left; rw [if_pos h]; exact ⟨rfl, by rw [if_neg (by decide)]; exact h⟩
      · right; rw [if_neg h]; exact ⟨z, by rw [if_neg (by decide)], by omega, by omega, rfl⟩
  refine hI.pass c0 c1 hg k0 k1 e n1 (Or.inl ⟨hp, rfl, hl⟩) ⟨n3, by rw [n4]; split <;> omega⟩ n2 ?_ (fun z p q => ?_) (fun y z p q s => ?_)
  · rw [nl, hcn, if_pos rfl, if_neg hpp]; omega
  · rw [nl] at q
    rcases hz z p q with ⟨h, -⟩ | ⟨y, -, y0, y1, h⟩
    · rw [h]; exact ⟨k0, k1, n1⟩
    · obtain ⟨a1, a2, a3⟩ := l1 y y0 y1
      rw [h]
      refine ⟨a1, a2, ?_⟩
      rw [m.2.2.1 _ a1 a2 (fun hh => hpp (by rw [← hh]; exact a3))]
      exact a3
  · rw [nl] at s
    rcases hz y p (by omega) with ⟨h, hy⟩ | ⟨a, ha, a0, a1, h⟩ <;> rcases hz z (by omega) s with ⟨h', hy'⟩ | ⟨a', ha', a0', a1', h'⟩ <;> rw [h, h']
    · omega
    · intro hh
      have := (l1 a' a0' a1').2.2
      rw [← hh] at this
      exact hpp this
    · intro hh
      have := (l1 a a0 a1).2.2
      rw [hh] at this
      exact hpp this
    · refine l2 a a' a0 ?_ a1'
      rw [ha, ha']
      split <;> omega
theorem psd_out (hI : rIn t r) (c0 : 0 ≤ c) (c1 : c < r 1) : rPsd r (rLeave k c g r) c g k := by
  have hn := hI.line c0 c1
  intro j h1 h2 h3 h4 h5
  unfold rLeave
  rw [rPs_o h2 h3 h4 h5, rLineOut_o ⟨hn.1, hn.2.1⟩ h1]
theorem out_line (hI : rIn t r) (c0 : 0 ≤ c) (c1 : c < r 1) (hg : g = 0 ∨ g = 1) (k0 : 0 ≤ k) (k1 : k < r 2) {j : Int} (hj : 161 ≤ j) : rLeave k c g r j = rLineOut c g r j := by
  have b1 := hI.1
  unfold rLeave
  exact rPs_o (by omega) (by omega) (by omega) (by omega)
theorem out_num (hI : rIn t r) (c0 : 0 ≤ c) (c1 : c < r 1) (hg : g = 0 ∨ g = 1) (k0 : 0 ≤ k) (k1 : k < r 2) : rLeave k c g r (71 + 8 * k) = c + g ∧ rLeave k c g r (72 + 8 * k) = r (72 + 8 * k) + 1 ∧ rLeave k c g r (30 + 11 * c + g) = r (30 + 11 * c + g) + 1 ∧ rLeave k c g r (27 + 11 * c + g) = r (27 + 11 * c + g) + (if (r (30 + 11 * c + g) + 1) % 8 = 0 then 1 else 0) := by
  have b1 := hI.1
  have hn := hI.line c0 c1
  have hn2 : 0 ≤ r (161 + 13 * c) ∧ r (161 + 13 * c) ≤ 12 := ⟨hn.1, hn.2.1⟩
  obtain ⟨n1, n2, n3, n4⟩ := rPs_n (k := k) (c := c) (g := g) (q := c + g) (r := rLineOut c g r) ⟨c0, by omega⟩ hg k0
  rw [rLineOut_o hn2 (by omega)] at n2
  rw [rLineOut_o hn2 (by omega)] at n3
  rw [rLineOut_o hn2 (by omega), rLineOut_o hn2 (by omega)] at n4
  exact ⟨n1, n2, n3, n4⟩
/-- who leaves by a gate -/
def sNext (r : Int → Int) (c g : Int) : Int := if g = 0 then r (162 + 13 * c) else r (161 + 13 * c + r (161 + 13 * c))
theorem rIn.next (hI : rIn t r) (c0 : 0 ≤ c) (c1 : c < r 1) (hn : r (161 + 13 * c) ≠ 0) : 0 ≤ sNext r c g ∧ sNext r c g < r 2 ∧ r (71 + 8 * sNext r c g) = 100 + c := by
  obtain ⟨l1, -⟩ := hI.lines c0 c1
  have hln := hI.line c0 c1
  unfold sNext
  split
  · have := l1 0 (by omega) (by omega)
    simpa using this
  · have := l1 (r (161 + 13 * c) - 1) (by omega) (by omega)
    rw [show 162 + 13 * c + (r (161 + 13 * c) - 1) = 161 + 13 * c + r (161 + 13 * c) by omega] at this
    exact this
theorem rIn.leave (hI : rIn t r) (c0 : 0 ≤ c) (c1 : c < r 1) (hg : g = 0 ∨ g = 1) (hn : r (161 + 13 * c) ≠ 0) (hk : k = sNext r c g) : rIn (t + 1) (rLeave k c g r) := by
  have b1 := hI.1
  obtain ⟨k0, k1, hp⟩ := hI.next (g := g) c0 c1 hn
  rw [← hk] at k0 k1 hp
  have e := psd_out (g := g) (k := k) hI c0 c1
  have il : ∀ j : Int, 161 ≤ j → rLeave k c g r j = rLineOut c g r j := fun j hj => out_line hI c0 c1 hg k0 k1 hj
  obtain ⟨n1, n2, n3, n4⟩ := out_num hI c0 c1 hg k0 k1
  have m := e.mvd ⟨c0, by omega⟩ hg k0 (by omega) n1
  have hcn := m.cn k0 k1 (100 + c)
  obtain ⟨l1, l2⟩ := hI.lines c0 c1
  have hln := hI.line c0 c1
  have nl : rLeave k c g r (161 + 13 * c) = r (161 + 13 * c) - 1 := by rw [il _ (by omega), rLineOut_n]
  have hz : ∀ z : Int, 0 ≤ z → z < r (161 + 13 * c) - 1 → rLeave k c g r (162 + 13 * c + z) = r (162 + 13 * c + (if g = 0 then z + 1 else z)) := fun z p q => by
    rw [il _ (by omega), rLineOut_z p q]
    split <;> rfl
  have hzk : ∀ z : Int, 0 ≤ z → z < r (161 + 13 * c) - 1 → r (162 + 13 * c + (if g = 0 then z + 1 else z)) ≠ k := fun z p q => by
    rw [hk]
    unfold sNext
    by_cases h : g = 0
    · rw [if_pos h, if_pos h]
      have := l2 0 (z + 1) (by omega) (by omega) (by omega)
      rw [Int.add_zero] at this
      exact fun hh => this hh.symm
    · rw [if_neg h, if_neg h]
      have := l2 z (r (161 + 13 * c) - 1) (by omega) (by omega) (by omega)
      rw [show 162 + 13 * c + (r (161 + 13 * c) - 1) = 161 + 13 * c + r (161 + 13 * c) by omega] at this
      exact this
  refine hI.pass c0 c1 hg k0 k1 e n1 (Or.inr ⟨hp, rfl⟩) ⟨n3, by rw [n4]; split <;> omega⟩ n2 ?_ (fun z p q => ?_) (fun y z p q s => ?_)
  · rw [nl, hcn, if_neg (by omega), if_pos hp]; omega
  · rw [nl] at q
    obtain ⟨a1, a2, a3⟩ := l1 (if g = 0 then z + 1 else z) (by split <;> omega) (by split <;> omega)
    rw [hz z p q]
    refine ⟨a1, a2, ?_⟩
    rw [m.2.2.1 _ a1 a2 (hzk z p q)]
    exact a3
  · rw [nl] at s
    rw [hz y p (by omega), hz z (by omega) s]
    exact l2 _ _ (by split <;> omega) (by split <;> omega) (by split <;> omega)
end ENTER
