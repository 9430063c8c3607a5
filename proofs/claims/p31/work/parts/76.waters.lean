/-! SUMS over a chamber's row; the law's check of all waters -/
theorem jsum_mono {f g : Int → Int} : ∀ {n : Nat}, (∀ k : Int, 0 ≤ k → k < n → g k ≤ f k) → jsum g n ≤ jsum f n
  | 0, _ => Int.le_refl _
  | n + 1, h => by
    have h1 := jsum_mono (n := n) (fun k a b => h k a (by omega))
    have h2 := h n (by omega) (by omega)
    show jsum g n + g n ≤ jsum f n + f n
    omega
theorem jsum_z : ∀ {n : Nat}, jsum (fun _ => (0 : Int)) n = 0
  | 0 => rfl
  | n + 1 => by
    show jsum (fun _ => (0 : Int)) n + 0 = 0
    rw [jsum_z (n := n)]
    rfl
theorem jsum_i : ∀ {n : Nat}, jsum (fun _ => (1 : Int)) n = n
  | 0 => rfl
  | n + 1 => by
    show jsum (fun _ => (1 : Int)) n + 1 = _
    rw [jsum_i (n := n)]
    omega
theorem jsum_pick {F : Int → Int} {p : Int} : ∀ {n : Nat}, 0 ≤ p → p < n → jsum (fun b => if p = b then F b else 0) n = F p
  | 0, _, h => by omega
  | n + 1, h0, h1 => by
    show jsum (fun b => if p = b then F b else 0) n + (if p = (n : Int) then F n else 0) = F p
    by_cases e : p = (n : Int)
    · rw [if_pos e, jsum_congr (g := fun _ => 0) (fun k a b => if_neg (by omega)), jsum_z, e]
      omega
    · rw [if_neg e, jsum_pick (n := n) h0 (by omega)]
      omega
theorem jsum_mul {P : Int → Prop} [∀ k, Decidable (P k)] {v : Int} : ∀ {n : Nat}, jsum (fun z => if P z then v else 0) n = v * jsum (fun z => if P z then 1 else 0) n
  | 0 => by simp [jsum]
  | n + 1 => by
    show jsum (fun z => if P z then v else 0) n + (if P (n : Int) then v else 0) = v * (jsum (fun z => if P z then 1 else 0) n + (if P (n : Int) then 1 else 0))
    rw [jsum_mul (n := n), Int.mul_add]
    split <;> simp
theorem jsum_same {f g : Int → Int} : ∀ {n : Nat}, (∀ k : Int, 0 ≤ k → k < n → g k ≤ f k) → jsum g n = jsum f n → ∀ k : Int, 0 ≤ k → k < n → g k = f k
  | 0, _, _, k, h0, h1 => by omega
  | n + 1, h, e, k, h0, h1 => by
    have e2 : jsum g n + g n = jsum f n + f n := e
    have l1 : jsum g n ≤ jsum f n := jsum_mono (fun k a b => h k a (by omega))
    have l2 := h n (by omega) (by omega)
    by_cases q : k = (n : Int)
    · rw [q]; omega
    · exact jsum_same (n := n) (fun k a b => h k a (by omega)) (by omega) k h0 (by omega)
theorem jsum_hit {w : Int → Int} {b : Int} : ∀ {n : Nat}, (∀ y z : Int, 0 ≤ y → y < z → z < n → w y ≠ w z) → jsum (fun z => if w z = b then (1 : Int) else 0) n ≤ 1
  | 0, _ => by show (0 : Int) ≤ 1; decide
  | n + 1, h => by
    show jsum (fun z => if w z = b then (1 : Int) else 0) n + (if w (n : Int) = b then 1 else 0) ≤ 1
    have ih := jsum_hit (w := w) (b := b) (n := n) (fun y z a c d => h y z a c (by omega))
    by_cases e : w (n : Int) = b
    · rw [if_pos e, jsum_congr (g := fun _ => 0) (fun k a c => if_neg (fun q => h k n a (by omega) (by omega) (by rw [q, e]))), jsum_z]
      omega
    · rw [if_neg e]; omega
/-- a row without doubles, of all that P holds of: a sum over it -/
theorem jsum_row {w f : Int → Int} {P : Int → Prop} [∀ k, Decidable (P k)] {N M : Nat} (h1 : ∀ z : Int, 0 ≤ z → z < N → 0 ≤ w z ∧ w z < M ∧ P (w z)) (h2 : ∀ y z : Int, 0 ≤ y → y < z → z < N → w y ≠ w z) (h3 : (N : Int) = jsum (fun b => if P b then 1 else 0) M) :
    jsum (fun z => f (w z)) N = jsum (fun b => if P b then f b else 0) M := by
  have a1 : ∀ F : Int → Int, jsum (fun z => F (w z)) N = jsum (fun b => F b * jsum (fun z => if w z = b then 1 else 0) N) M := fun F => by
    have e1 : jsum (fun z => F (w z)) N = jsum (fun z => jsum (fun b => if w z = b then F b else 0) M) N := jsum_congr (fun z x y => by
      obtain ⟨q1, q2, q3⟩ := h1 z x y
      exact (jsum_pick q1 q2).symm)
    have e2 := jsum_comm (F := fun z b => if w z = b then F b else 0) (n := M) N
    exact e1.trans (e2.trans (jsum_congr (fun b x y => jsum_mul (P := fun z => w z = b) (v := F b) (n := N))))
  have a2 : jsum (fun _ => (1 : Int)) N = jsum (fun b => 1 * jsum (fun z => if w z = b then 1 else 0) N) M := a1 (fun _ => 1)
  have a4 := jsum_same (f := fun b => if P b then 1 else 0) (g := fun b => 1 * jsum (fun z => if w z = b then 1 else 0) N) (n := M) (fun b x y => by
    show 1 * jsum (fun z => if w z = b then 1 else 0) N ≤ (if P b then 1 else 0)
    rw [Int.one_mul]
    by_cases p : P b
    · rw [if_pos p]; exact jsum_hit h2
    · rw [if_neg p, jsum_congr (g := fun _ => 0) (fun z c e => if_neg (fun q => p (by rw [← q]; exact (h1 z c e).2.2))), jsum_z]
      exact Int.le_refl _) (by rw [← a2, jsum_i, h3])
  have a5 := a1 f
  refine a5.trans (jsum_congr (fun b x y => ?_))
  have e : 1 * jsum (fun z => if w z = b then 1 else 0) N = (if P b then 1 else 0) := a4 b x y
  rw [Int.one_mul] at e
  show f b * jsum (fun z => if w z = b then 1 else 0) N = (if P b then f b else 0)
  rw [e]
  split <;> simp
def wL (r : Int → Int) (c z : Int) : Int := r (65 + 8 * r (162 + 13 * c + z))
theorem rIn.rowsum {t : Int} {r : Int → Int} (hI : rIn t r) {c : Int} (hc : 0 ≤ c ∧ c < r 1) : sLf r c = r (24 + 11 * c) - jsum (wL r c) (r (161 + 13 * c)).toNat := by
  have b1 := hI.1
  have ln := hI.line hc.1 hc.2
  obtain ⟨l1, l2⟩ := hI.lines hc.1 hc.2
  have e := jsum_row (w := fun z => r (162 + 13 * c + z)) (f := fun b => r (65 + 8 * b)) (P := fun b => r (71 + 8 * b) = 100 + c) (N := (r (161 + 13 * c)).toNat) (M := (r 2).toNat) (fun z x y => by
    obtain ⟨q1, q2, q3⟩ := l1 z x (by omega)
    exact ⟨q1, by show r (162 + 13 * c + z) < _; omega, q3⟩) (fun y z x1 x2 x3 => l2 y z x1 x2 (by omega)) (by
    have e : r (161 + 13 * c) = jsum (fun b => if r (71 + 8 * b) = 100 + c then 1 else 0) (r 2).toNat := ln.2.2
    show ((r (161 + 13 * c)).toNat : Int) = jsum (fun b => if r (71 + 8 * b) = 100 + c then 1 else 0) (r 2).toNat
    omega)
  have e2 : jsum (wL r c) (r (161 + 13 * c)).toNat = jsum (fun b => if r (71 + 8 * b) = 100 + c then r (65 + 8 * b) else 0) (r 2).toNat := e
  unfold sLf
  rw [e2]
def wR (r : Int → Int) (i : Int) : Int := r (8 + 3 * i)
def wK (r : Int → Int) (c : Int) : Int := r (23 + 11 * c)
def wO (r : Int → Int) (c : Int) : Int := if 0 ≤ r (29 + 11 * c) then 1 else 0
def wI (r : Int → Int) (c : Int) : Int := r (161 + 13 * c)
def wP (r : Int → Int) (c : Int) : Int := r (30 + 11 * c) + r (31 + 11 * c)
theorem wO_y {r : Int → Int} {c : Int} (h : 0 ≤ r (29 + 11 * c)) : wO r c = 1 := if_pos h
theorem wO_n {r : Int → Int} {c : Int} (h : ¬ 0 ≤ r (29 + 11 * c)) : wO r c = 0 := if_neg h
/-- the bits of m are the first n of the row of c -/
def pBits (r : Int → Int) (c : Int) (n m : Nat) : Prop := m < 4096 ∧ ∀ b : Nat, b < 12 → (m.testBit b = true ↔ ∃ z : Int, 0 ≤ z ∧ z < n ∧ r (162 + 13 * c + z) = b)
theorem pBits_0 {r : Int → Int} {c : Int} : pBits r c 0 0 := ⟨by decide, fun b _ => ⟨fun h => by simp at h, fun ⟨z, h0, h1, _⟩ => by omega⟩⟩
theorem pBits_s {r : Int → Int} {c : Int} {n m b : Nat} (h : pBits r c n m) (hb : b < 12) (hr : r (162 + 13 * c + n) = b) : pBits r c (n + 1) (m ||| 2 ^ b) := by
  refine ⟨bit_lt h.1 hb, fun j hj => ?_⟩
  rw [bit_or, Bool.or_eq_true, decide_eq_true_iff, h.2 j hj]
  constructor
  · rintro (⟨z, h0, h1, h2⟩ | rfl)
    · exact ⟨z, h0, by omega, h2⟩
    · exact ⟨n, by omega, by omega, hr⟩
  · rintro ⟨z, h0, h1, h2⟩
    by_cases q : z = (n : Int)
    · rw [q, hr] at h2; exact Or.inr (by omega)
    · exact Or.inl ⟨z, h0, by omega, h2⟩
theorem pBits_no {t : Int} {r : Int → Int} (hI : rIn t r) {c : Int} (hc : 0 ≤ c ∧ c < r 1) {n m b : Nat} (h : pBits r c n m) (hb : b < 12) (hn : (n : Int) < r (161 + 13 * c)) (hr : r (162 + 13 * c + n) = b) : ¬ ((m / 2 ^ b : Nat) : Int) % 2 = 1 := fun q => by
  have q2 : (m / 2 ^ b) % 2 = 1 := by omega
  obtain ⟨z, h0, h1, h2⟩ := (h.2 b hb).mp (bit_of.mp q2)
  exact (hI.lines hc.1 hc.2).2 z n h0 h1 hn (by rw [h2, hr])
theorem waters_in {G : JG} {S : JS} {D : JD} {d : Nat} {X t n q : Int} {hs : Int → Int → Int} {r : Int → Int} {w o s p c : Int} (hP : pSt S D X t n hs r q) (ht : t ≤ 60000) (hc : 0 ≤ c ∧ c < r 1) (K : ∀ (m : Nat) (l11 : Option JV), JX G yL_waters cL_waters 12 (some .boolean) (d + 8) (0, 0) (0, 0) S D 163 [some (.inr (.inr (some X))), some (.inr (.inl (w))), none, some (.inl (o)), some (.inl (s)), some (.inr (.inl (p))), none, some (.inl (c)), some (.inl (r (161 + 13 * c))), some (.inl (jsum (wL r c) (r (161 + 13 * c)).toNat)), some (.inl ((m : Int))), l11] [] (jr (.inl 1) S D)) :
    ∀ (k n m : Nat) (l11 : Option JV), (n : Int) + k = r (161 + 13 * c) → pBits r c n m → JX G yL_waters cL_waters 12 (some .boolean) (d + 8) (0, 0) (0, 0) S D 86 [some (.inr (.inr (some X))), some (.inr (.inl (w))), none, some (.inl (o)), some (.inl (s)), some (.inr (.inl (p))), none, some (.inl (c)), some (.inl ((n : Int))), some (.inl (jsum (wL r c) n)), some (.inl ((m : Int))), l11] [] (jr (.inl 1) S D) := by
  have hB := hP.1
  have bk := hB.1
  have hI := hP.2.1.2.2.2.1
  have b1 := hI.1
  obtain ⟨c4, ln0, ln1, lf0, lf1, gt, s0, s1, s2, s3, sg, v0, v1, w0, w1, f0, f1, k0, k1, kk, a0, a1, g0, g1⟩ := hI.cB ht hc
  intro k
  induction k with
  | zero =>
    intro n m l11 hn hm
    have K2 := K m l11
    rw [show (r (161 + 13 * c)).toNat = n by omega, show r (161 + 13 * c) = (n : Int) by omega] at K2
    refine x_aload_n dL_waters_86 rfl ?_
    refine x_iload dL_waters_87 rfl ?_
    refine x_iload dL_waters_89 rfl ?_
    refine c_RL_38d dL_waters_91 rfl (tl_n hP ht hc ⟨by omega, by omega⟩ ⟨by omega, by omega⟩) bk (Nat.le_of_ble_eq_true rfl) (Nat.le_of_ble_eq_true rfl) ⟨Nat.le_refl _, Nat.le_refl _⟩ ?_
    refine x_if_lt (tgt := 163) dL_waters_94 (by decide) ⟨by omega, by omega⟩ (fun hb94 => ?_) (fun h => (h (by omega)).elim)
    exact K2
  | succ k ih =>
    intro n m l11 hn hm
    have hk : 0 ≤ (n : Int) ∧ (n : Int) < r (161 + 13 * c) := ⟨by omega, by omega⟩
    obtain ⟨q1, q2, q3⟩ := (hI.lines hc.1 hc.2).1 n hk.1 hk.2
    obtain ⟨b, hb⟩ : ∃ b : Nat, r (162 + 13 * c + n) = (b : Int) := ⟨(r (162 + 13 * c + n)).toNat, by omega⟩
    have hb12 : b < 12 := by omega
    have no := pBits_no hI hc hm hb12 hk.2 hb
    have hbk : 0 ≤ (b : Int) ∧ (b : Int) < r 2 := ⟨by omega, by omega⟩
    rw [hb] at q3
    have h2 := fun l => ih (n + 1) (m ||| 2 ^ b) l (by omega) (pBits_s hm hb12 hb)
    rw [jsum_nat, show wL r c (n : Int) = r (65 + 8 * (b : Int)) by unfold wL; rw [hb], show (((n + 1 : Nat)) : Int) = (n : Int) + 1 by omega] at h2
    have m4 := hm.1
    have ql := hI.bB ht hbk
    refine x_aload_n dL_waters_86 rfl ?_
    refine x_iload dL_waters_87 rfl ?_
    refine x_iload dL_waters_89 rfl ?_
    refine c_RL_38d dL_waters_91 rfl (tl_y hP ht hc ⟨by omega, by omega⟩ hk) bk (Nat.le_of_ble_eq_true rfl) (Nat.le_of_ble_eq_true rfl) ⟨Nat.le_refl _, Nat.le_refl _⟩ ?_
    rw [hb]
    refine x_if_lt (tgt := 163) dL_waters_94 (by decide) ⟨by omega, by omega⟩ (fun h => absurd h (by omega)) (fun hb94 => ?_)
    refine x_aload_n dL_waters_97 rfl ?_
    refine x_iload dL_waters_98 rfl ?_
    refine x_iload dL_waters_100 rfl ?_
    refine c_RL_38d dL_waters_102 rfl (tl_y hP ht hc ⟨by omega, by omega⟩ hk) bk (Nat.le_of_ble_eq_true rfl) (Nat.le_of_ble_eq_true rfl) ⟨Nat.le_refl _, Nat.le_refl _⟩ ?_
    rw [hb]
    refine x_istore dL_waters_105 (by decide) ?_
    show JX _ _ _ _ _ _ _ _ _ _ _ [_, _, _, _, _, _, _, _, _, _, _, _] _ _
    refine x_iload dL_waters_107 rfl ?_
    refine x_aload_n dL_waters_109 rfl ?_
    refine x_iload dL_waters_110 rfl ?_
    refine x_iconst dL_waters_112 ?_
    refine c_RL_22d dL_waters_113 rfl (tb_0 hP ht hbk) bk (Nat.le_of_ble_eq_true rfl) (Nat.le_of_ble_eq_true rfl) ⟨Nat.le_refl _, Nat.le_refl _⟩ ?_
    refine x_iadd dL_waters_116 ?_
    refine x_istore dL_waters_117 (by decide) ?_
    show JX _ _ _ _ _ _ _ _ _ _ _ [_, _, _, _, _, _, _, _, _, _, _, _] _ _
    refine x_aload_n dL_waters_119 rfl ?_
    refine x_iload dL_waters_120 rfl ?_
    refine x_bipush dL_waters_122 (by decide) ?_
    refine c_RL_22d dL_waters_124 rfl (tb_7 hP ht hbk) bk (Nat.le_of_ble_eq_true rfl) (Nat.le_of_ble_eq_true rfl) ⟨Nat.le_refl _, Nat.le_refl _⟩ ?_
    refine x_bipush dL_waters_127 (by decide) ?_
    refine x_iload dL_waters_129 rfl ?_
    refine x_iadd dL_waters_131 ?_
    refine x_ic_ne (tgt := 146) dL_waters_132 (by decide) ⟨by omega, by omega⟩ ⟨by omega, by omega⟩ (fun h => absurd h (by omega)) (fun hb132 => ?_)
    refine x_iload dL_waters_135 rfl ?_
    refine x_iload dL_waters_137 rfl ?_
    refine x_ishrB (by omega) (by omega) dL_waters_139 ?_
    refine x_iconst dL_waters_140 ?_
    refine x_iand1 dL_waters_141 ?_
    refine x_iconst dL_waters_142 ?_
    refine x_ic_ne (tgt := 148) dL_waters_143 (by decide) ⟨by omega, by omega⟩ ⟨by omega, by omega⟩ (fun hb143 => ?_) (fun h => (h (by omega)).elim)
    refine x_iload dL_waters_148 rfl ?_
    refine x_iconst dL_waters_150 ?_
    refine x_iload dL_waters_151 rfl ?_
    refine x_ishl1 (by omega) dL_waters_153 ?_
    refine x_ior dL_waters_154 ?_
    refine x_istore dL_waters_155 (by decide) ?_
    show JX _ _ _ _ _ _ _ _ _ _ _ [_, _, _, _, _, _, _, _, _, _, _, _] _ _
    refine x_iinc dL_waters_157 rfl (by decide) ?_
    show JX _ _ _ _ _ _ _ _ _ _ _ [_, _, _, _, _, _, _, _, _, _, _, _] _ _
    refine x_goto (tgt := 86) dL_waters_160 (by decide) ?_
    exact h2 _
theorem waters_ch_y {G : JG} {S : JS} {D : JD} {d : Nat} {X t n q : Int} {hs : Int → Int → Int} {r : Int → Int} {w o s p c nn len mm : Int} {l11 : Option JV} (hP : pSt S D X t n hs r q) (ht : t ≤ 60000) (hc : 0 ≤ c ∧ c < r 1) (hn : nn = r (161 + 13 * c)) (hl : len = jsum (wL r c) (r (161 + 13 * c)).toNat) (hg : 0 ≤ r (29 + 11 * c))
    (K : JX G yL_waters cL_waters 12 (some .boolean) (d + 8) (0, 0) (0, 0) S D 67 [some (.inr (.inr (some X))), some (.inr (.inl (w + wK r c))), none, some (.inl (o + wO r c)), some (.inl (s + wI r c)), some (.inr (.inl (p + wP r c))), none, some (.inl (c + 1)), some (.inl (nn)), some (.inl (len)), some (.inl (mm)), l11] [] (jr (.inl 1) S D)) : JX G yL_waters cL_waters 12 (some .boolean) (d + 8) (0, 0) (0, 0) S D 163 [some (.inr (.inr (some X))), some (.inr (.inl (w))), none, some (.inl (o)), some (.inl (s)), some (.inr (.inl (p))), none, some (.inl (c)), some (.inl (nn)), some (.inl (len)), some (.inl (mm)), l11] [] (jr (.inl 1) S D) := by
  have hB := hP.1
  have bk := hB.1
  have hI := hP.2.1.2.2.2.1
  have b1 := hI.1
  obtain ⟨c4, ln0, ln1, lf0, lf1, gt, s0, s1, s2, s3, sg, v0, v1, w0, w1, f0, f1, k0, k1, kk, a0, a1, g0, g1⟩ := hI.cB ht hc
  have hp : rPl r (100 + c) := Or.inr ⟨by omega, by omega⟩
  have rs := hI.rowsum hc
  rw [wO_y hg, show wI r c = nn from hn.symm, show wK r c = r (23 + 11 * c) from rfl, show wP r c = r (30 + 11 * c) + r (31 + 11 * c) from rfl] at K
  refine x_lload_n dL_waters_163 rfl ?_
  refine x_aload_n dL_waters_164 rfl ?_
  refine x_iload dL_waters_165 rfl ?_
  refine x_iconst dL_waters_167 ?_
  refine c_RL_15d dL_waters_168 rfl (tc_1 hP ht hc) bk (Nat.le_of_ble_eq_true rfl) (Nat.le_of_ble_eq_true rfl) ⟨Nat.le_refl _, Nat.le_refl _⟩ ?_
  refine x_i2l dL_waters_171 ⟨by omega, by omega⟩ ?_
  refine x_ladd dL_waters_172 ?_
  refine x_lstore_n dL_waters_173 (by decide) ?_
  show JX _ _ _ _ _ _ _ _ _ _ _ [_, _, _, _, _, _, _, _, _, _, _, _] _ _
  refine x_iload_n dL_waters_174 rfl ?_
  refine x_aload_n dL_waters_175 rfl ?_
  refine x_iload dL_waters_176 rfl ?_
  refine x_bipush dL_waters_178 (by decide) ?_
  refine c_RL_15d dL_waters_180 rfl (tc_8 hP ht hc) bk (Nat.le_of_ble_eq_true rfl) (Nat.le_of_ble_eq_true rfl) ⟨Nat.le_refl _, Nat.le_refl _⟩ ?_
  refine x_if_lt (tgt := 190) dL_waters_183 (by decide) ⟨by omega, by omega⟩ (fun h => absurd h (by omega)) (fun hb183 => ?_)
  refine x_iconst dL_waters_186 ?_
  refine x_goto (tgt := 191) dL_waters_187 (by decide) ?_
  refine x_iadd dL_waters_191 ?_
  refine x_istore_n dL_waters_192 (by decide) ?_
  show JX _ _ _ _ _ _ _ _ _ _ _ [_, _, _, _, _, _, _, _, _, _, _, _] _ _
  refine x_iload dL_waters_193 rfl ?_
  refine x_iload dL_waters_195 rfl ?_
  refine x_iadd dL_waters_197 ?_
  refine x_istore dL_waters_198 (by decide) ?_
  show JX _ _ _ _ _ _ _ _ _ _ _ [_, _, _, _, _, _, _, _, _, _, _, _] _ _
  refine x_lload dL_waters_200 rfl ?_
  refine x_aload_n dL_waters_202 rfl ?_
  refine x_iload dL_waters_203 rfl ?_
  refine x_bipush dL_waters_205 (by decide) ?_
  refine c_RL_15d dL_waters_207 rfl (tc_11 hP ht hc) bk (Nat.le_of_ble_eq_true rfl) (Nat.le_of_ble_eq_true rfl) ⟨Nat.le_refl _, Nat.le_refl _⟩ ?_
  refine x_aload_n dL_waters_210 rfl ?_
  refine x_iload dL_waters_211 rfl ?_
  refine x_bipush dL_waters_213 (by decide) ?_
  refine c_RL_15d dL_waters_215 rfl (tc_12 hP ht hc) bk (Nat.le_of_ble_eq_true rfl) (Nat.le_of_ble_eq_true rfl) ⟨Nat.le_refl _, Nat.le_refl _⟩ ?_
  refine x_iadd dL_waters_218 ?_
  refine x_i2l dL_waters_219 ⟨by omega, by omega⟩ ?_
  refine x_ladd dL_waters_220 ?_
  refine x_lstore dL_waters_221 (by decide) ?_
  show JX _ _ _ _ _ _ _ _ _ _ _ [_, _, _, _, _, _, _, _, _, _, _, _] _ _
  refine x_aload_n dL_waters_223 rfl ?_
  refine x_bipush dL_waters_224 (by decide) ?_
  refine x_iload dL_waters_226 rfl ?_
  refine x_iadd dL_waters_228 ?_
  refine c_RL_33d dL_waters_229 rfl (kL_water hP ht hp) (Nat.le_of_ble_eq_true rfl) (Nat.le_of_ble_eq_true rfl) ⟨Nat.le_refl _, Nat.le_refl _⟩ ?_
  refine x_if_eq (tgt := 330) dL_waters_232 (by decide) ⟨by omega, by omega⟩ (fun h => absurd h (by omega)) (fun hb232 => ?_)
  refine x_iload dL_waters_235 rfl ?_
  refine x_aload_n dL_waters_237 rfl ?_
  refine x_iload dL_waters_238 rfl ?_
  refine x_iconst dL_waters_240 ?_
  refine c_RL_15d dL_waters_241 rfl (tc_3 hP ht hc) bk (Nat.le_of_ble_eq_true rfl) (Nat.le_of_ble_eq_true rfl) ⟨Nat.le_refl _, Nat.le_refl _⟩ ?_
  refine x_ic_ne (tgt := 330) dL_waters_244 (by decide) ⟨by omega, by omega⟩ ⟨by omega, by omega⟩ (fun h => absurd h (by omega)) (fun hb244 => ?_)
  refine x_aload_n dL_waters_247 rfl ?_
  refine x_iload dL_waters_248 rfl ?_
  refine x_bipush dL_waters_250 (by decide) ?_
  refine c_RL_15d dL_waters_252 rfl (tc_7 hP ht hc) bk (Nat.le_of_ble_eq_true rfl) (Nat.le_of_ble_eq_true rfl) ⟨Nat.le_refl _, Nat.le_refl _⟩ ?_
  refine x_aload_n dL_waters_255 rfl ?_
  refine x_iload dL_waters_256 rfl ?_
  refine x_bipush dL_waters_258 (by decide) ?_
  refine c_RL_15d dL_waters_260 rfl (tc_6 hP ht hc) bk (Nat.le_of_ble_eq_true rfl) (Nat.le_of_ble_eq_true rfl) ⟨Nat.le_refl _, Nat.le_refl _⟩ ?_
  refine x_iload dL_waters_263 rfl ?_
  refine x_isub dL_waters_265 ?_
  refine x_ic_ne (tgt := 330) dL_waters_266 (by decide) ⟨by omega, by omega⟩ ⟨by omega, by omega⟩ (fun h => absurd h (by omega)) (fun hb266 => ?_)
  refine x_aload_n dL_waters_269 rfl ?_
  refine x_iload dL_waters_270 rfl ?_
  refine x_bipush dL_waters_272 (by decide) ?_
  refine c_RL_15d dL_waters_274 rfl (tc_7 hP ht hc) bk (Nat.le_of_ble_eq_true rfl) (Nat.le_of_ble_eq_true rfl) ⟨Nat.le_refl _, Nat.le_refl _⟩ ?_
  refine x_if_lt (tgt := 330) dL_waters_277 (by decide) ⟨by omega, by omega⟩ (fun h => absurd h (by omega)) (fun hb277 => ?_)
  refine x_aload_n dL_waters_280 rfl ?_
  refine x_iload dL_waters_281 rfl ?_
  refine x_bipush dL_waters_283 (by decide) ?_
  refine c_RL_15d dL_waters_285 rfl (tc_8 hP ht hc) bk (Nat.le_of_ble_eq_true rfl) (Nat.le_of_ble_eq_true rfl) ⟨Nat.le_refl _, Nat.le_refl _⟩ ?_
  refine x_iconst dL_waters_288 ?_
  refine x_ic_gt (tgt := 330) dL_waters_289 (by decide) ⟨by omega, by omega⟩ ⟨by omega, by omega⟩ (fun h => absurd h (by omega)) (fun hb289 => ?_)
  refine x_aload_n dL_waters_292 rfl ?_
  refine x_iload dL_waters_293 rfl ?_
  refine x_bipush dL_waters_295 (by decide) ?_
  refine c_RL_15d dL_waters_297 rfl (tc_13 hP ht hc) bk (Nat.le_of_ble_eq_true rfl) (Nat.le_of_ble_eq_true rfl) ⟨Nat.le_refl _, Nat.le_refl _⟩ ?_
  refine x_ldc (e := -100000002) dL_waters_300 ct_RL_37 (by decide) ?_
  refine x_ic_ne (tgt := 330) dL_waters_302 (by decide) ⟨by omega, by omega⟩ ⟨by omega, by omega⟩ (fun h => absurd h (by omega)) (fun hb302 => ?_)
  refine x_aload_n dL_waters_305 rfl ?_
  refine x_iload dL_waters_306 rfl ?_
  refine x_iconst dL_waters_308 ?_
  refine c_RL_38d dL_waters_309 rfl (tl_b hP ht hc) bk (Nat.le_of_ble_eq_true rfl) (Nat.le_of_ble_eq_true rfl) ⟨Nat.le_refl _, Nat.le_refl _⟩ ?_
  refine x_ldc (e := -100000002) dL_waters_312 ct_RL_37 (by decide) ?_
  refine x_ic_ne (tgt := 330) dL_waters_314 (by decide) ⟨by omega, by omega⟩ ⟨by omega, by omega⟩ (fun h => absurd h (by omega)) (fun hb314 => ?_)
  refine x_aload_n dL_waters_317 rfl ?_
  refine x_iload dL_waters_318 rfl ?_
  refine x_iload dL_waters_320 rfl ?_
  refine c_RL_38d dL_waters_322 rfl (tl_n hP ht hc ⟨by omega, by omega⟩ ⟨by omega, by omega⟩) bk (Nat.le_of_ble_eq_true rfl) (Nat.le_of_ble_eq_true rfl) ⟨Nat.le_refl _, Nat.le_refl _⟩ ?_
  refine x_ldc (e := -100000005) dL_waters_325 ct_RL_41 (by decide) ?_
  refine x_ic_eq (tgt := 332) dL_waters_327 (by decide) ⟨by omega, by omega⟩ ⟨by omega, by omega⟩ (fun hb327 => ?_) (fun h => (h (by omega)).elim)
  refine x_iinc dL_waters_332 rfl (by decide) ?_
  show JX _ _ _ _ _ _ _ _ _ _ _ [_, _, _, _, _, _, _, _, _, _, _, _] _ _
  refine x_goto (tgt := 67) dL_waters_335 (by decide) ?_
  exact K
theorem waters_ch_n {G : JG} {S : JS} {D : JD} {d : Nat} {X t n q : Int} {hs : Int → Int → Int} {r : Int → Int} {w o s p c nn len mm : Int} {l11 : Option JV} (hP : pSt S D X t n hs r q) (ht : t ≤ 60000) (hc : 0 ≤ c ∧ c < r 1) (hn : nn = r (161 + 13 * c)) (hl : len = jsum (wL r c) (r (161 + 13 * c)).toNat) (hg : ¬ 0 ≤ r (29 + 11 * c))
    (K : JX G yL_waters cL_waters 12 (some .boolean) (d + 8) (0, 0) (0, 0) S D 67 [some (.inr (.inr (some X))), some (.inr (.inl (w + wK r c))), none, some (.inl (o + wO r c)), some (.inl (s + wI r c)), some (.inr (.inl (p + wP r c))), none, some (.inl (c + 1)), some (.inl (nn)), some (.inl (len)), some (.inl (mm)), l11] [] (jr (.inl 1) S D)) : JX G yL_waters cL_waters 12 (some .boolean) (d + 8) (0, 0) (0, 0) S D 163 [some (.inr (.inr (some X))), some (.inr (.inl (w))), none, some (.inl (o)), some (.inl (s)), some (.inr (.inl (p))), none, some (.inl (c)), some (.inl (nn)), some (.inl (len)), some (.inl (mm)), l11] [] (jr (.inl 1) S D) := by
  have hB := hP.1
  have bk := hB.1
  have hI := hP.2.1.2.2.2.1
  have b1 := hI.1
  obtain ⟨c4, ln0, ln1, lf0, lf1, gt, s0, s1, s2, s3, sg, v0, v1, w0, w1, f0, f1, k0, k1, kk, a0, a1, g0, g1⟩ := hI.cB ht hc
  have hp : rPl r (100 + c) := Or.inr ⟨by omega, by omega⟩
  have rs := hI.rowsum hc
  rw [wO_n hg, show wI r c = nn from hn.symm, show wK r c = r (23 + 11 * c) from rfl, show wP r c = r (30 + 11 * c) + r (31 + 11 * c) from rfl] at K
  refine x_lload_n dL_waters_163 rfl ?_
  refine x_aload_n dL_waters_164 rfl ?_
  refine x_iload dL_waters_165 rfl ?_
  refine x_iconst dL_waters_167 ?_
  refine c_RL_15d dL_waters_168 rfl (tc_1 hP ht hc) bk (Nat.le_of_ble_eq_true rfl) (Nat.le_of_ble_eq_true rfl) ⟨Nat.le_refl _, Nat.le_refl _⟩ ?_
  refine x_i2l dL_waters_171 ⟨by omega, by omega⟩ ?_
  refine x_ladd dL_waters_172 ?_
  refine x_lstore_n dL_waters_173 (by decide) ?_
  show JX _ _ _ _ _ _ _ _ _ _ _ [_, _, _, _, _, _, _, _, _, _, _, _] _ _
  refine x_iload_n dL_waters_174 rfl ?_
  refine x_aload_n dL_waters_175 rfl ?_
  refine x_iload dL_waters_176 rfl ?_
  refine x_bipush dL_waters_178 (by decide) ?_
  refine c_RL_15d dL_waters_180 rfl (tc_8 hP ht hc) bk (Nat.le_of_ble_eq_true rfl) (Nat.le_of_ble_eq_true rfl) ⟨Nat.le_refl _, Nat.le_refl _⟩ ?_
  refine x_if_lt (tgt := 190) dL_waters_183 (by decide) ⟨by omega, by omega⟩ (fun hb183 => ?_) (fun h => (h (by omega)).elim)
  refine x_iconst dL_waters_190 ?_
  refine x_iadd dL_waters_191 ?_
  refine x_istore_n dL_waters_192 (by decide) ?_
  show JX _ _ _ _ _ _ _ _ _ _ _ [_, _, _, _, _, _, _, _, _, _, _, _] _ _
  refine x_iload dL_waters_193 rfl ?_
  refine x_iload dL_waters_195 rfl ?_
  refine x_iadd dL_waters_197 ?_
  refine x_istore dL_waters_198 (by decide) ?_
  show JX _ _ _ _ _ _ _ _ _ _ _ [_, _, _, _, _, _, _, _, _, _, _, _] _ _
  refine x_lload dL_waters_200 rfl ?_
  refine x_aload_n dL_waters_202 rfl ?_
  refine x_iload dL_waters_203 rfl ?_
  refine x_bipush dL_waters_205 (by decide) ?_
  refine c_RL_15d dL_waters_207 rfl (tc_11 hP ht hc) bk (Nat.le_of_ble_eq_true rfl) (Nat.le_of_ble_eq_true rfl) ⟨Nat.le_refl _, Nat.le_refl _⟩ ?_
  refine x_aload_n dL_waters_210 rfl ?_
  refine x_iload dL_waters_211 rfl ?_
  refine x_bipush dL_waters_213 (by decide) ?_
  refine c_RL_15d dL_waters_215 rfl (tc_12 hP ht hc) bk (Nat.le_of_ble_eq_true rfl) (Nat.le_of_ble_eq_true rfl) ⟨Nat.le_refl _, Nat.le_refl _⟩ ?_
  refine x_iadd dL_waters_218 ?_
  refine x_i2l dL_waters_219 ⟨by omega, by omega⟩ ?_
  refine x_ladd dL_waters_220 ?_
  refine x_lstore dL_waters_221 (by decide) ?_
  show JX _ _ _ _ _ _ _ _ _ _ _ [_, _, _, _, _, _, _, _, _, _, _, _] _ _
  refine x_aload_n dL_waters_223 rfl ?_
  refine x_bipush dL_waters_224 (by decide) ?_
  refine x_iload dL_waters_226 rfl ?_
  refine x_iadd dL_waters_228 ?_
  refine c_RL_33d dL_waters_229 rfl (kL_water hP ht hp) (Nat.le_of_ble_eq_true rfl) (Nat.le_of_ble_eq_true rfl) ⟨Nat.le_refl _, Nat.le_refl _⟩ ?_
  refine x_if_eq (tgt := 330) dL_waters_232 (by decide) ⟨by omega, by omega⟩ (fun h => absurd h (by omega)) (fun hb232 => ?_)
  refine x_iload dL_waters_235 rfl ?_
  refine x_aload_n dL_waters_237 rfl ?_
  refine x_iload dL_waters_238 rfl ?_
  refine x_iconst dL_waters_240 ?_
  refine c_RL_15d dL_waters_241 rfl (tc_3 hP ht hc) bk (Nat.le_of_ble_eq_true rfl) (Nat.le_of_ble_eq_true rfl) ⟨Nat.le_refl _, Nat.le_refl _⟩ ?_
  refine x_ic_ne (tgt := 330) dL_waters_244 (by decide) ⟨by omega, by omega⟩ ⟨by omega, by omega⟩ (fun h => absurd h (by omega)) (fun hb244 => ?_)
  refine x_aload_n dL_waters_247 rfl ?_
  refine x_iload dL_waters_248 rfl ?_
  refine x_bipush dL_waters_250 (by decide) ?_
  refine c_RL_15d dL_waters_252 rfl (tc_7 hP ht hc) bk (Nat.le_of_ble_eq_true rfl) (Nat.le_of_ble_eq_true rfl) ⟨Nat.le_refl _, Nat.le_refl _⟩ ?_
  refine x_aload_n dL_waters_255 rfl ?_
  refine x_iload dL_waters_256 rfl ?_
  refine x_bipush dL_waters_258 (by decide) ?_
  refine c_RL_15d dL_waters_260 rfl (tc_6 hP ht hc) bk (Nat.le_of_ble_eq_true rfl) (Nat.le_of_ble_eq_true rfl) ⟨Nat.le_refl _, Nat.le_refl _⟩ ?_
  refine x_iload dL_waters_263 rfl ?_
  refine x_isub dL_waters_265 ?_
  refine x_ic_ne (tgt := 330) dL_waters_266 (by decide) ⟨by omega, by omega⟩ ⟨by omega, by omega⟩ (fun h => absurd h (by omega)) (fun hb266 => ?_)
  refine x_aload_n dL_waters_269 rfl ?_
  refine x_iload dL_waters_270 rfl ?_
  refine x_bipush dL_waters_272 (by decide) ?_
  refine c_RL_15d dL_waters_274 rfl (tc_7 hP ht hc) bk (Nat.le_of_ble_eq_true rfl) (Nat.le_of_ble_eq_true rfl) ⟨Nat.le_refl _, Nat.le_refl _⟩ ?_
  refine x_if_lt (tgt := 330) dL_waters_277 (by decide) ⟨by omega, by omega⟩ (fun h => absurd h (by omega)) (fun hb277 => ?_)
  refine x_aload_n dL_waters_280 rfl ?_
  refine x_iload dL_waters_281 rfl ?_
  refine x_bipush dL_waters_283 (by decide) ?_
  refine c_RL_15d dL_waters_285 rfl (tc_8 hP ht hc) bk (Nat.le_of_ble_eq_true rfl) (Nat.le_of_ble_eq_true rfl) ⟨Nat.le_refl _, Nat.le_refl _⟩ ?_
  refine x_iconst dL_waters_288 ?_
  refine x_ic_gt (tgt := 330) dL_waters_289 (by decide) ⟨by omega, by omega⟩ ⟨by omega, by omega⟩ (fun h => absurd h (by omega)) (fun hb289 => ?_)
  refine x_aload_n dL_waters_292 rfl ?_
  refine x_iload dL_waters_293 rfl ?_
  refine x_bipush dL_waters_295 (by decide) ?_
  refine c_RL_15d dL_waters_297 rfl (tc_13 hP ht hc) bk (Nat.le_of_ble_eq_true rfl) (Nat.le_of_ble_eq_true rfl) ⟨Nat.le_refl _, Nat.le_refl _⟩ ?_
  refine x_ldc (e := -100000002) dL_waters_300 ct_RL_37 (by decide) ?_
  refine x_ic_ne (tgt := 330) dL_waters_302 (by decide) ⟨by omega, by omega⟩ ⟨by omega, by omega⟩ (fun h => absurd h (by omega)) (fun hb302 => ?_)
  refine x_aload_n dL_waters_305 rfl ?_
  refine x_iload dL_waters_306 rfl ?_
  refine x_iconst dL_waters_308 ?_
  refine c_RL_38d dL_waters_309 rfl (tl_b hP ht hc) bk (Nat.le_of_ble_eq_true rfl) (Nat.le_of_ble_eq_true rfl) ⟨Nat.le_refl _, Nat.le_refl _⟩ ?_
  refine x_ldc (e := -100000002) dL_waters_312 ct_RL_37 (by decide) ?_
  refine x_ic_ne (tgt := 330) dL_waters_314 (by decide) ⟨by omega, by omega⟩ ⟨by omega, by omega⟩ (fun h => absurd h (by omega)) (fun hb314 => ?_)
  refine x_aload_n dL_waters_317 rfl ?_
  refine x_iload dL_waters_318 rfl ?_
  refine x_iload dL_waters_320 rfl ?_
  refine c_RL_38d dL_waters_322 rfl (tl_n hP ht hc ⟨by omega, by omega⟩ ⟨by omega, by omega⟩) bk (Nat.le_of_ble_eq_true rfl) (Nat.le_of_ble_eq_true rfl) ⟨Nat.le_refl _, Nat.le_refl _⟩ ?_
  refine x_ldc (e := -100000005) dL_waters_325 ct_RL_41 (by decide) ?_
  refine x_ic_eq (tgt := 332) dL_waters_327 (by decide) ⟨by omega, by omega⟩ ⟨by omega, by omega⟩ (fun hb327 => ?_) (fun h => (h (by omega)).elim)
  refine x_iinc dL_waters_332 rfl (by decide) ?_
  show JX _ _ _ _ _ _ _ _ _ _ _ [_, _, _, _, _, _, _, _, _, _, _, _] _ _
  refine x_goto (tgt := 67) dL_waters_335 (by decide) ?_
  exact K
theorem waters_end {G : JG} {S : JS} {D : JD} {d : Nat} {X t n q : Int} {hs : Int → Int → Int} {r : Int → Int} {nn : Int} {l8 l9 l10 l11 : Option JV} (hP : pSt S D X t n hs r q) (ht : t ≤ 60000) (hcons : sTot r = r 4 + r 5) : JX G yL_waters cL_waters 12 (some .boolean) (d + 8) (0, 0) (0, 0) S D 338 [some (.inr (.inr (some X))), some (.inr (.inl (jsum (wR r) (r 0).toNat + jsum (wK r) (r 1).toNat))), none, some (.inl (jsum (wO r) (r 1).toNat)), some (.inl (jsum (wI r) (r 1).toNat)), some (.inr (.inl (jsum (wP r) (r 1).toNat))), none, some (.inl (nn)), l8, l9, l10, l11] [] (jr (.inl 1) S D) := by
  have hB := hP.1
  have bk := hB.1
  have hI := hP.2.1.2.2.2.1
  have b1 := hI.1
  have e0 := hI.wx
  have e0b : jsum (sWx r) (r 0).toNat = jsum (wR r) (r 0).toNat + jsum (wK r) (r 1).toNat := e0
  have e6 : jsum (fun b => r (72 + 8 * b)) (r 2).toNat = jsum (wP r) (r 1).toNat := hI.2.2.2.2.2
  have e3 : jsum (fun c => if 0 ≤ r (29 + 11 * c) then (1 : Int) else 0) (r 1).toNat = jsum (wO r) (r 1).toNat := rfl
  have e5 : jsum (fun c => r (161 + 13 * c)) (r 1).toNat = jsum (wI r) (r 1).toNat := rfl
  have mx := (hI.maxw ht).1
  have hT : sTot r = jsum (wR r) (r 0).toNat + jsum (wK r) (r 1).toNat + jsum (fun b => r (70 + 8 * b)) (r 2).toNat := rfl
  have n1 := jsum_nonneg (f := wR r) (n := (r 0).toNat) (fun k x y => (hI.ar x (by omega)).2.2.2.2)
  have n2 := jsum_nonneg (f := wK r) (n := (r 1).toNat) (fun k x y => (hI.ac x (by omega)).2.2.2.2)
  have n3 := jsum_nonneg (f := fun b => r (70 + 8 * b)) (n := (r 2).toNat) (fun k x y => by have := hI.bB ht (k := k) ⟨x, by omega⟩; show 0 ≤ r (70 + 8 * k); omega)
  have n4 := jsum_nonneg (f := fun b => r (72 + 8 * b)) (n := (r 2).toNat) (fun k x y => by have := hI.bB ht (k := k) ⟨x, by omega⟩; show 0 ≤ r (72 + 8 * k); omega)
  have n5 := jsum_le (f := fun b => r (72 + 8 * b)) (M := 60000) (n := (r 2).toNat) (fun k x y => by have := hI.bB ht (k := k) ⟨x, by omega⟩; show r (72 + 8 * k) ≤ 60000; omega)
  have n6 := jsum_nonneg (f := wO r) (n := (r 1).toNat) (fun k x y => by unfold wO; split <;> omega)
  have n7 := jsum_le (f := wO r) (M := 1) (n := (r 1).toNat) (fun k x y => by unfold wO; split <;> omega)
  have n8 := jsum_nonneg (f := wI r) (n := (r 1).toNat) (fun k x y => by have := hI.line (c := k) x (by omega); unfold wI; omega)
  have n9 := jsum_le (f := wI r) (M := 12) (n := (r 1).toNat) (fun k x y => by have := hI.line (c := k) x (by omega); unfold wI; omega)
  generalize jsum (wR r) (r 0).toNat = AA at *
  generalize jsum (wK r) (r 1).toNat = BB at *
  generalize jsum (wO r) (r 1).toNat = OO at *
  generalize jsum (wI r) (r 1).toNat = II at *
  generalize jsum (wP r) (r 1).toNat = PP at *
  refine x_aload_n dL_waters_338 rfl ?_
  refine x_iconst dL_waters_339 ?_
  refine c_RL_42d dL_waters_340 rfl (ta_0 hP ht) bk (Nat.le_of_ble_eq_true rfl) (Nat.le_of_ble_eq_true rfl) ⟨Nat.le_refl _, Nat.le_refl _⟩ ?_
  rw [e0b]
  refine x_aload_n dL_waters_343 rfl ?_
  refine x_iconst dL_waters_344 ?_
  refine c_RL_42d dL_waters_345 rfl (ta_1 hP ht) bk (Nat.le_of_ble_eq_true rfl) (Nat.le_of_ble_eq_true rfl) ⟨Nat.le_refl _, Nat.le_refl _⟩ ?_
  refine x_ladd dL_waters_348 ?_
  refine x_aload_n dL_waters_349 rfl ?_
  refine x_iconst dL_waters_350 ?_
  refine c_RL_42d dL_waters_351 rfl (ta_4 hP ht) bk (Nat.le_of_ble_eq_true rfl) (Nat.le_of_ble_eq_true rfl) ⟨Nat.le_refl _, Nat.le_refl _⟩ ?_
  refine x_aload_n dL_waters_354 rfl ?_
  refine x_iconst dL_waters_355 ?_
  refine c_RL_42d dL_waters_356 rfl (ta_5 hP ht) bk (Nat.le_of_ble_eq_true rfl) (Nat.le_of_ble_eq_true rfl) ⟨Nat.le_refl _, Nat.le_refl _⟩ ?_
  refine x_ladd dL_waters_359 ?_
  refine x_lc_ne (tgt := 368) dL_waters_360 dL_waters_361 (by decide) ⟨by omega, by omega⟩ ⟨by omega, by omega⟩ (fun h => absurd h (by omega)) (fun hb361 => ?_)
  refine x_iconst dL_waters_364 ?_
  refine x_goto (tgt := 369) dL_waters_365 (by decide) ?_
  refine x_istore dL_waters_369 (by decide) ?_
  show JX _ _ _ _ _ _ _ _ _ _ _ [_, _, _, _, _, _, _, _, _, _, _, _] _ _
  refine x_iload dL_waters_371 rfl ?_
  refine x_if_eq (tgt := 445) dL_waters_373 (by decide) ⟨by omega, by omega⟩ (fun h => absurd h (by omega)) (fun hb373 => ?_)
  refine x_aload_n dL_waters_376 rfl ?_
  refine x_iconst dL_waters_377 ?_
  refine c_RL_42d dL_waters_378 rfl (ta_0 hP ht) bk (Nat.le_of_ble_eq_true rfl) (Nat.le_of_ble_eq_true rfl) ⟨Nat.le_refl _, Nat.le_refl _⟩ ?_
  rw [e0b]
  refine x_lload_n dL_waters_381 rfl ?_
  refine x_lc_ne (tgt := 445) dL_waters_382 dL_waters_383 (by decide) ⟨by omega, by omega⟩ ⟨by omega, by omega⟩ (fun h => absurd h (by omega)) (fun hb383 => ?_)
  refine x_aload_n dL_waters_386 rfl ?_
  refine x_bipush dL_waters_387 (by decide) ?_
  refine c_RL_42d dL_waters_389 rfl (ta_6 hP ht) bk (Nat.le_of_ble_eq_true rfl) (Nat.le_of_ble_eq_true rfl) ⟨Nat.le_refl _, Nat.le_refl _⟩ ?_
  rw [e6]
  refine x_lload dL_waters_392 rfl ?_
  refine x_lc_ne (tgt := 445) dL_waters_394 dL_waters_395 (by decide) ⟨by omega, by omega⟩ ⟨by omega, by omega⟩ (fun h => absurd h (by omega)) (fun hb395 => ?_)
  refine x_aload_n dL_waters_398 rfl ?_
  refine x_iconst dL_waters_399 ?_
  refine c_RL_18d dL_waters_400 rfl (tn_3 hP ht) bk (Nat.le_of_ble_eq_true rfl) (Nat.le_of_ble_eq_true rfl) ⟨Nat.le_refl _, Nat.le_refl _⟩ ?_
  rw [e3]
  refine x_iload_n dL_waters_403 rfl ?_
  refine x_ic_ne (tgt := 445) dL_waters_404 (by decide) ⟨by omega, by omega⟩ ⟨by omega, by omega⟩ (fun h => absurd h (by omega)) (fun hb404 => ?_)
  refine x_aload_n dL_waters_407 rfl ?_
  refine x_iconst dL_waters_408 ?_
  refine c_RL_18d dL_waters_409 rfl (tn_5 hP ht) bk (Nat.le_of_ble_eq_true rfl) (Nat.le_of_ble_eq_true rfl) ⟨Nat.le_refl _, Nat.le_refl _⟩ ?_
  rw [e5]
  refine x_iload dL_waters_412 rfl ?_
  refine x_ic_ne (tgt := 445) dL_waters_414 (by decide) ⟨by omega, by omega⟩ ⟨by omega, by omega⟩ (fun h => absurd h (by omega)) (fun hb414 => ?_)
  refine x_aload_n dL_waters_417 rfl ?_
  refine x_bipush dL_waters_418 (by decide) ?_
  refine c_RL_42d dL_waters_420 rfl (ta_7 hP ht) bk (Nat.le_of_ble_eq_true rfl) (Nat.le_of_ble_eq_true rfl) ⟨Nat.le_refl _, Nat.le_refl _⟩ ?_
  refine x_ldc2 (e := -100000002) dL_waters_423 ctl_RL_46 (by decide) ?_
  refine x_lc_ne (tgt := 445) dL_waters_426 dL_waters_427 (by decide) ⟨by omega, by omega⟩ ⟨by omega, by omega⟩ (fun h => absurd h (by omega)) (fun hb427 => ?_)
  refine x_aload_n dL_waters_430 rfl ?_
  refine x_bipush dL_waters_431 (by decide) ?_
  refine c_RL_18d dL_waters_433 rfl (tn_10 hP ht) bk (Nat.le_of_ble_eq_true rfl) (Nat.le_of_ble_eq_true rfl) ⟨Nat.le_refl _, Nat.le_refl _⟩ ?_
  refine x_ldc (e := -100000002) dL_waters_436 ct_RL_37 (by decide) ?_
  refine x_ic_ne (tgt := 445) dL_waters_438 (by decide) ⟨by omega, by omega⟩ ⟨by omega, by omega⟩ (fun h => absurd h (by omega)) (fun hb438 => ?_)
  refine x_iconst dL_waters_441 ?_
  refine x_goto (tgt := 446) dL_waters_442 (by decide) ?_
  exact x_ireturn dL_waters_446 rfl (jbool (by first | exact Or.inl rfl | exact Or.inr rfl)).1 ⟨Nat.le_refl _, Nat.le_refl _⟩ ⟨rfl, rfl, rfl⟩
theorem waters_l2 {G : JG} {S : JS} {D : JD} {d : Nat} {X t n q : Int} {hs : Int → Int → Int} {r : Int → Int} (hP : pSt S D X t n hs r q) (ht : t ≤ 60000) (hcons : sTot r = r 4 + r 5) : ∀ (k i : Nat) (l8 l9 l10 l11 : Option JV), (i : Int) + k = r 1 → JX G yL_waters cL_waters 12 (some .boolean) (d + 8) (0, 0) (0, 0) S D 67 [some (.inr (.inr (some X))), some (.inr (.inl (jsum (wR r) (r 0).toNat + jsum (wK r) i))), none, some (.inl (jsum (wO r) i)), some (.inl (jsum (wI r) i)), some (.inr (.inl (jsum (wP r) i))), none, some (.inl ((i : Int))), l8, l9, l10, l11] [] (jr (.inl 1) S D) := by
  have hB := hP.1
  have bk := hB.1
  have hI := hP.2.1.2.2.2.1
  have b1 := hI.1
  intro k
  induction k with
  | zero =>
    intro i l8 l9 l10 l11 hi
    have tl := waters_end (G := G) (d := d) (nn := (i : Int)) (l8 := l8) (l9 := l9) (l10 := l10) (l11 := l11) hP ht hcons
    rw [show (r 1).toNat = i by omega] at tl
    refine x_iload dL_waters_67 rfl ?_
    refine x_aload_n dL_waters_69 rfl ?_
    refine x_iconst dL_waters_70 ?_
    refine c_RL_18d dL_waters_71 rfl (tn_1 hP ht) bk (Nat.le_of_ble_eq_true rfl) (Nat.le_of_ble_eq_true rfl) ⟨Nat.le_refl _, Nat.le_refl _⟩ ?_
    refine x_ic_ge (tgt := 338) dL_waters_74 (by decide) ⟨by omega, by omega⟩ ⟨by omega, by omega⟩ (fun hb74 => ?_) (fun h => (h (by omega)).elim)
    exact tl
  | succ k ih =>
    intro i l8 l9 l10 l11 hi
    have hc : 0 ≤ (i : Int) ∧ (i : Int) < r 1 := ⟨by omega, by omega⟩
    have h2 := fun l8 l9 l10 l11 => ih (i + 1) l8 l9 l10 l11 (by omega)
    rw [jsum_nat, jsum_nat, jsum_nat, jsum_nat, show (((i + 1 : Nat)) : Int) = (i : Int) + 1 by omega, ← Int.add_assoc] at h2
    have K : ∀ (m : Nat) (l11 : Option JV), JX G yL_waters cL_waters 12 (some .boolean) (d + 8) (0, 0) (0, 0) S D 163 [some (.inr (.inr (some X))), some (.inr (.inl (jsum (wR r) (r 0).toNat + jsum (wK r) i))), none, some (.inl (jsum (wO r) i)), some (.inl (jsum (wI r) i)), some (.inr (.inl (jsum (wP r) i))), none, some (.inl ((i : Int))), some (.inl (r (161 + 13 * (i : Int)))), some (.inl (jsum (wL r i) (r (161 + 13 * (i : Int))).toNat)), some (.inl ((m : Int))), l11] [] (jr (.inl 1) S D) := fun m l11 => by
      by_cases hg : 0 ≤ r (29 + 11 * (i : Int))
      · exact waters_ch_y hP ht hc rfl rfl hg (h2 _ _ _ _)
      · exact waters_ch_n hP ht hc rfl rfl hg (h2 _ _ _ _)
    have ln := hI.line hc.1 hc.2
    have W := waters_in hP ht hc K (r (161 + 13 * (i : Int))).toNat 0 0 l11 (by omega) pBits_0
    refine x_iload dL_waters_67 rfl ?_
    refine x_aload_n dL_waters_69 rfl ?_
    refine x_iconst dL_waters_70 ?_
    refine c_RL_18d dL_waters_71 rfl (tn_1 hP ht) bk (Nat.le_of_ble_eq_true rfl) (Nat.le_of_ble_eq_true rfl) ⟨Nat.le_refl _, Nat.le_refl _⟩ ?_
    refine x_ic_ge (tgt := 338) dL_waters_74 (by decide) ⟨by omega, by omega⟩ ⟨by omega, by omega⟩ (fun h => absurd h (by omega)) (fun hb74 => ?_)
    refine x_iconst dL_waters_77 ?_
    refine x_istore dL_waters_78 (by decide) ?_
    show JX _ _ _ _ _ _ _ _ _ _ _ [_, _, _, _, _, _, _, _, _, _, _, _] _ _
    refine x_iconst dL_waters_80 ?_
    refine x_istore dL_waters_81 (by decide) ?_
    show JX _ _ _ _ _ _ _ _ _ _ _ [_, _, _, _, _, _, _, _, _, _, _, _] _ _
    refine x_iconst dL_waters_83 ?_
    refine x_istore dL_waters_84 (by decide) ?_
    show JX _ _ _ _ _ _ _ _ _ _ _ [_, _, _, _, _, _, _, _, _, _, _, _] _ _
    exact W
theorem waters_l1 {G : JG} {S : JS} {D : JD} {d : Nat} {X t n q : Int} {hs : Int → Int → Int} {r : Int → Int} (hP : pSt S D X t n hs r q) (ht : t ≤ 60000) (hcons : sTot r = r 4 + r 5) : ∀ (k i : Nat), (i : Int) + k = r 0 → JX G yL_waters cL_waters 12 (some .boolean) (d + 8) (0, 0) (0, 0) S D 13 [some (.inr (.inr (some X))), some (.inr (.inl (jsum (wR r) i))), none, some (.inl (0)), some (.inl (0)), some (.inr (.inl (0))), none, some (.inl ((i : Int))), none, none, none, none] [] (jr (.inl 1) S D) := by
  have hB := hP.1
  have bk := hB.1
  have hI := hP.2.1.2.2.2.1
  have b1 := hI.1
  intro k
  induction k with
  | zero =>
    intro i hi
    have tl := waters_l2 (G := G) (d := d) hP ht hcons (r 1).toNat 0 none none none none (by omega)
    rw [show (r 0).toNat = i by omega] at tl
    rw [show jsum (wR r) i + jsum (wK r) 0 = jsum (wR r) i from Int.add_zero _] at tl
    refine x_iload dL_waters_13 rfl ?_
    refine x_aload_n dL_waters_15 rfl ?_
    refine x_iconst dL_waters_16 ?_
    refine c_RL_18d dL_waters_17 rfl (tn_0 hP ht) bk (Nat.le_of_ble_eq_true rfl) (Nat.le_of_ble_eq_true rfl) ⟨Nat.le_refl _, Nat.le_refl _⟩ ?_
    refine x_ic_ge (tgt := 64) dL_waters_20 (by decide) ⟨by omega, by omega⟩ ⟨by omega, by omega⟩ (fun hb20 => ?_) (fun h => (h (by omega)).elim)
    refine x_iconst dL_waters_64 ?_
    refine x_istore dL_waters_65 (by decide) ?_
    show JX _ _ _ _ _ _ _ _ _ _ _ [_, _, _, _, _, _, _, _, _, _, _, _] _ _
    exact tl
  | succ k ih =>
    intro i hi
    have hr : 0 ≤ (i : Int) ∧ (i : Int) < r 0 := ⟨by omega, by omega⟩
    have hp : rPl r (i : Int) := Or.inl hr
    have ar := hI.ar hr.1 hr.2
    have mx := (hI.maxw ht).2.1 i hr.1 hr.2
    have h2 := ih (i + 1) (by omega)
    rw [jsum_nat, show wR r (i : Int) = r (8 + 3 * (i : Int)) from rfl, show (((i + 1 : Nat)) : Int) = (i : Int) + 1 by omega] at h2
    refine x_iload dL_waters_13 rfl ?_
    refine x_aload_n dL_waters_15 rfl ?_
    refine x_iconst dL_waters_16 ?_
    refine c_RL_18d dL_waters_17 rfl (tn_0 hP ht) bk (Nat.le_of_ble_eq_true rfl) (Nat.le_of_ble_eq_true rfl) ⟨Nat.le_refl _, Nat.le_refl _⟩ ?_
    refine x_ic_ge (tgt := 64) dL_waters_20 (by decide) ⟨by omega, by omega⟩ ⟨by omega, by omega⟩ (fun h => absurd h (by omega)) (fun hb20 => ?_)
    refine x_lload_n dL_waters_23 rfl ?_
    refine x_aload_n dL_waters_24 rfl ?_
    refine x_iload dL_waters_25 rfl ?_
    refine x_iconst dL_waters_27 ?_
    refine c_RL_9d dL_waters_28 rfl (tr_1 hP ht hr) bk (Nat.le_of_ble_eq_true rfl) (Nat.le_of_ble_eq_true rfl) ⟨Nat.le_refl _, Nat.le_refl _⟩ ?_
    refine x_i2l dL_waters_31 ⟨by omega, by omega⟩ ?_
    refine x_ladd dL_waters_32 ?_
    refine x_lstore_n dL_waters_33 (by decide) ?_
    show JX _ _ _ _ _ _ _ _ _ _ _ [_, _, _, _, _, _, _, _, _, _, _, _] _ _
    refine x_aload_n dL_waters_34 rfl ?_
    refine x_iload dL_waters_35 rfl ?_
    refine c_RL_33d dL_waters_37 rfl (kL_water hP ht hp) (Nat.le_of_ble_eq_true rfl) (Nat.le_of_ble_eq_true rfl) ⟨Nat.le_refl _, Nat.le_refl _⟩ ?_
    refine x_if_eq (tgt := 56) dL_waters_40 (by decide) ⟨by omega, by omega⟩ (fun h => absurd h (by omega)) (fun hb40 => ?_)
    refine x_aload_n dL_waters_43 rfl ?_
    refine x_iload dL_waters_44 rfl ?_
    refine x_bipush dL_waters_46 (by decide) ?_
    refine c_RL_9d dL_waters_48 rfl (tr_6 hP ht hr) bk (Nat.le_of_ble_eq_true rfl) (Nat.le_of_ble_eq_true rfl) ⟨Nat.le_refl _, Nat.le_refl _⟩ ?_
    refine x_ldc (e := -100000002) dL_waters_51 ct_RL_37 (by decide) ?_
    refine x_ic_eq (tgt := 58) dL_waters_53 (by decide) ⟨by omega, by omega⟩ ⟨by omega, by omega⟩ (fun hb53 => ?_) (fun h => (h (by omega)).elim)
    refine x_iinc dL_waters_58 rfl (by decide) ?_
    show JX _ _ _ _ _ _ _ _ _ _ _ [_, _, _, _, _, _, _, _, _, _, _, _] _ _
    refine x_goto (tgt := 13) dL_waters_61 (by decide) ?_
    exact h2
theorem kL_waters {G : JG} {S : JS} {D : JD} {d : Nat} {X t n q : Int} {hs : Int → Int → Int} {r : Int → Int} (hP : pSt S D X t n hs r q) (ht : t ≤ 60000) (hcons : sTot r = r 4 + r 5) : JM G yL_waters cL_waters 12 (some .boolean) (d + 8) (0, 0) S D [.inr (.inr (some X))] (jr (.inl 1) S D) := by
  have hB := hP.1
  have bk := hB.1
  have hI := hP.2.1.2.2.2.1
  have b1 := hI.1
  show JX _ _ _ _ _ _ _ _ _ _ _ [_, _, _, _, _, _, _, _, _, _, _, _] _ _
  refine x_lconst (e := 0) dL_waters_0 (by decide) ?_
  refine x_lstore_n dL_waters_1 (by decide) ?_
  show JX _ _ _ _ _ _ _ _ _ _ _ [_, _, _, _, _, _, _, _, _, _, _, _] _ _
  refine x_iconst dL_waters_2 ?_
  refine x_istore_n dL_waters_3 (by decide) ?_
  show JX _ _ _ _ _ _ _ _ _ _ _ [_, _, _, _, _, _, _, _, _, _, _, _] _ _
  refine x_iconst dL_waters_4 ?_
  refine x_istore dL_waters_5 (by decide) ?_
  show JX _ _ _ _ _ _ _ _ _ _ _ [_, _, _, _, _, _, _, _, _, _, _, _] _ _
  refine x_lconst (e := 0) dL_waters_7 (by decide) ?_
  refine x_lstore dL_waters_8 (by decide) ?_
  show JX _ _ _ _ _ _ _ _ _ _ _ [_, _, _, _, _, _, _, _, _, _, _, _] _ _
  refine x_iconst dL_waters_10 ?_
  refine x_istore dL_waters_11 (by decide) ?_
  show JX _ _ _ _ _ _ _ _ _ _ _ [_, _, _, _, _, _, _, _, _, _, _, _] _ _
  exact waters_l1 hP ht hcons (r 0).toNat 0 (by omega)
