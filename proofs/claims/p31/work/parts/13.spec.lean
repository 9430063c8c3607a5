/-! THE STATE AS A ROW OF NUMBERS (as the reference numbers it), and what is asked of it -/
def rup (r : Int → Int) (k v : Int) : Int → Int := fun j => if j = k then v else r j
theorem rup_eq {r : Int → Int} {k v : Int} : rup r k v k = v := by simp [rup]
theorem rup_ne {r : Int → Int} {k v j : Int} (h : j ≠ k) : rup r k v j = r j := by simp [rup, h]
theorem jup_row {D : JD} {a k v : Int} : (jup D a k v) a = rup (D a) k v := by
  funext j
  simp [jup, rup]
theorem jup_off {D : JD} {a k v x : Int} (h : x ≠ a) : (jup D a k v) x = D x := by
  funext j
  simp [jup, h]
def jsum (f : Int → Int) : Nat → Int
  | 0 => 0
  | n + 1 => jsum f n + f (n : Int)
theorem jsum_congr {f g : Int → Int} : ∀ {n : Nat}, (∀ k : Int, 0 ≤ k → k < n → f k = g k) → jsum f n = jsum g n
  | 0, _ => rfl
  | n + 1, h => by
    show jsum f n + f n = jsum g n + g n
    rw [jsum_congr (n := n) (fun k a b => h k a (by omega)), h n (by omega) (by omega)]
theorem jsum_nonneg {f : Int → Int} : ∀ {n : Nat}, (∀ k : Int, 0 ≤ k → k < n → 0 ≤ f k) → 0 ≤ jsum f n
  | 0, _ => Int.le_refl _
  | n + 1, h => by
    have h1 := jsum_nonneg (n := n) (fun k a b => h k a (by omega))
    have h2 := h n (by omega) (by omega)
    show 0 ≤ jsum f n + f n
    omega
theorem jsum_le {f : Int → Int} {M : Int} : ∀ {n : Nat}, (∀ k : Int, 0 ≤ k → k < n → f k ≤ M) → jsum f n ≤ n * M
  | 0, _ => by simp [jsum]
  | n + 1, h => by
    have h1 := jsum_le (n := n) (fun k a b => h k a (by omega))
    have h2 := h n (by omega) (by omega)
    have e : ((n + 1 : Nat) : Int) * M = n * M + M := by rw [Int.natCast_add, Int.add_mul]; simp
    show jsum f n + f n ≤ _
    omega
/-- one place of a sum changes -/
theorem jsum_one {f g : Int → Int} {i : Int} : ∀ {n : Nat}, 0 ≤ i → i < n → (∀ k : Int, 0 ≤ k → k < n → k ≠ i → g k = f k) → jsum g n = jsum f n + (g i - f i)
  | 0, _, h1, _ => by omega
  | n + 1, h0, h1, h => by
    show jsum g n + g n = jsum f n + f n + (g i - f i)
    by_cases e : i = (n : Int)
    · subst e
      rw [jsum_congr (f := g) (g := f) (n := n) (fun k a b => h k a (by omega) (by omega))]
      omega
    · rw [jsum_one (n := n) h0 (by omega) (fun k a b c => h k a (by omega) c), h n (by omega) (by omega) (fun q => e q.symm)]
      omega
theorem jsum_mem {f : Int → Int} {i : Int} : ∀ {n : Nat}, (∀ k : Int, 0 ≤ k → k < n → 0 ≤ f k) → 0 ≤ i → i < n → f i ≤ jsum f n
  | 0, _, _, h => by omega
  | n + 1, hf, h0, h1 => by
    show f i ≤ jsum f n + f n
    by_cases e : i = (n : Int)
    · subst e
      have := jsum_nonneg (n := n) (f := f) (fun k a b => hf k a (by omega))
      omega
    · have := jsum_mem (n := n) (f := f) (i := i) (fun k a b => hf k a (by omega)) h0 (by omega)
      have := hf n (by omega) (by omega)
      omega
def wA (w : Int) : Int := if w < 100 then 6 + 3 * w else 21 + 11 * (w - 100)
theorem wA_r {w : Int} (h : w < 100) : wA w = 6 + 3 * w := by simp [wA, h]
theorem wA_c {c : Int} (h : 0 ≤ c) : wA (100 + c) = 21 + 11 * c := by
  unfold wA
  rw [if_neg (by omega)]
  omega
def sW (r : Int → Int) (b : Int) : Int := r (66 + 8 * b) + r (69 + 8 * b) + r (70 + 8 * b)
def sFl (r : Int → Int) (w : Int) : Int := jsum (fun b => if r (71 + 8 * b) = w then sW r b else 0) (r 2).toNat
def sCn (r : Int → Int) (w : Int) : Int := jsum (fun b => if r (71 + 8 * b) = w then 1 else 0) (r 2).toNat
def sLf (r : Int → Int) (c : Int) : Int := r (24 + 11 * c) - jsum (fun b => if r (71 + 8 * b) = 100 + c then r (65 + 8 * b) else 0) (r 2).toNat
def sDp (r : Int → Int) (w : Int) : Int := (r (wA w + 2) + sFl r w) * 100 / r (wA w)
def sLv (r : Int → Int) (w : Int) : Int := r (wA w + 1) + sDp r w
def sDr (r : Int → Int) (b : Int) : Int := (sW r b + r (67 + 8 * b) - 1) / r (67 + 8 * b)
def sHt (r : Int → Int) (c g : Int) : Int :=
  ((r (23 + 11 * c) + r (8 + 3 * (c + g)) + sFl r (100 + c) + sFl r (c + g)) * 100 + (r (21 + 11 * c) * r (22 + 11 * c) + r (6 + 3 * (c + g)) * r (7 + 3 * (c + g)))) / (r (21 + 11 * c) + r (6 + 3 * (c + g)))
def sShd (r : Int → Int) (c g : Int) : Int :=
  min (max (r (21 + 11 * c) * (sHt r c g - r (22 + 11 * c)) / 100 - sFl r (100 + c)) 0) (r (23 + 11 * c) + r (8 + 3 * (c + g)))
def sSh (r : Int → Int) (c g : Int) : Int → Int := rup (rup r (8 + 3 * (c + g)) (r (23 + 11 * c) + r (8 + 3 * (c + g)) - sShd r c g)) (23 + 11 * c) (sShd r c g)
def sAllN (r : Int → Int) : Nat → Int → Int
  | 0 => r
  | k + 1 => if 0 ≤ sAllN r k (29 + 11 * k) then sSh (sAllN r k) k (sAllN r k (29 + 11 * k)) else sAllN r k
def sAll (r : Int → Int) : Int → Int := sAllN r (r 1).toNat
/-- all water, and all ballast -/
def sTot (r : Int → Int) : Int := jsum (fun i => r (8 + 3 * i)) (r 0).toNat + jsum (fun c => r (23 + 11 * c)) (r 1).toNat + jsum (fun b => r (70 + 8 * b)) (r 2).toNat
/-- what sums over barges are made of -/
def rSame (r r2 : Int → Int) : Prop := r2 2 = r 2 ∧ ∀ b k : Int, 0 ≤ b → b < r 2 → 0 ≤ k → k < 8 → r2 (65 + 8 * b + k) = r (65 + 8 * b + k)
theorem sW_same {r r2 : Int → Int} {b : Int} (h : rSame r r2) (h0 : 0 ≤ b) (h1 : b < r 2) : sW r2 b = sW r b := by
  have a1 := h.2 b 1 h0 h1 (by omega) (by omega)
  have a2 := h.2 b 4 h0 h1 (by omega) (by omega)
  have a3 := h.2 b 5 h0 h1 (by omega) (by omega)
  unfold sW
  rw [show 66 + 8 * b = 65 + 8 * b + 1 by omega, show 69 + 8 * b = 65 + 8 * b + 4 by omega, show 70 + 8 * b = 65 + 8 * b + 5 by omega, a1, a2, a3]
theorem sWhere_same {r r2 : Int → Int} {b : Int} (h : rSame r r2) (h0 : 0 ≤ b) (h1 : b < r 2) : r2 (71 + 8 * b) = r (71 + 8 * b) := by
  have := h.2 b 6 h0 h1 (by omega) (by omega)
  rwa [show 65 + 8 * b + 6 = 71 + 8 * b by omega] at this
theorem sFl_same {r r2 : Int → Int} (h : rSame r r2) (w : Int) : sFl r2 w = sFl r w := by
  unfold sFl
  rw [h.1]
  refine jsum_congr (fun k a b => ?_)
  have hk : k < r 2 := by omega
  rw [sWhere_same h a hk, sW_same h a hk]
theorem sCn_same {r r2 : Int → Int} (h : rSame r r2) (w : Int) : sCn r2 w = sCn r w := by
  unfold sCn
  rw [h.1]
  refine jsum_congr (fun k a b => ?_)
  have hk : k < r 2 := by omega
  rw [sWhere_same h a hk]
theorem sLf_same {r r2 : Int → Int} (h : rSame r r2) (c : Int) (hl : r2 (24 + 11 * c) = r (24 + 11 * c)) : sLf r2 c = sLf r c := by
  unfold sLf
  rw [h.1, hl]
  congr 1
  refine jsum_congr (fun k a b => ?_)
  have hk : k < r 2 := by omega
  have a1 := h.2 k 0 a hk (by omega) (by omega)
  rw [sWhere_same h a hk, show 65 + 8 * k = 65 + 8 * k + 0 by omega, a1]
/-- a flight's cells hold the row -/
def jWR (D : JD) (w : Int) (r : Int → Int) (p : Int) : Prop := D w 0 = r (wA p) ∧ D w 1 = r (wA p + 1) ∧ D w 2 = r (wA p + 2) ∧ D w 3 = sFl r p ∧ D w 4 = sCn r p
def jCR (D : JD) (c : Int) (r : Int → Int) (k : Int) : Prop :=
  D c 5 = r (24 + 11 * k) ∧ D c 6 = sLf r k ∧ D c 7 = (if r (29 + 11 * k) = -100000005 then -1 else r (29 + 11 * k)) ∧ D c 4 = r (161 + 13 * k) ∧
  (∀ z : Int, 0 ≤ z → z < r (161 + 13 * k) → D (c + 4) z = r (162 + 13 * k + z)) ∧
  D (c + 2) 0 = r (25 + 11 * k) ∧ D (c + 3) 0 = r (26 + 11 * k) ∧ D (c + 2) 1 = r (27 + 11 * k) ∧ D (c + 3) 1 = r (28 + 11 * k) ∧ D (c + 2) 2 = r (30 + 11 * k) ∧ D (c + 3) 2 = r (31 + 11 * k)
def jFR (D : JD) (b : Int) (r : Int → Int) : Prop :=
  (D b 3 = r 0 ∧ D b 4 = r 1 ∧ D b 5 = r 2 ∧ D b 6 = r 3 ∧ D b 7 = r 4 ∧ D b 8 = r 5) ∧
  (∀ i : Int, 0 ≤ i → i < r 0 → jWR D (b + 4 + i) r i) ∧
  (∀ c : Int, 0 ≤ c → c < r 1 → jWR D (b + 9 + 5 * c + 1) r (100 + c) ∧ jCR D (b + 9 + 5 * c) r c) ∧
  (∀ k z : Int, 0 ≤ k → k < r 2 → 0 ≤ z → z < 8 → D (b + 29 + k) z = r (65 + 8 * k + z))
/-- a water's numbers -/
def rWo (r : Int → Int) (p : Int) : Prop := 100 ≤ r (wA p) ∧ r (wA p) ≤ 100000 ∧ 0 ≤ r (wA p + 1) ∧ r (wA p + 1) ≤ 5000 ∧ 0 ≤ r (wA p + 2)
def rCo (t : Int) (r : Int → Int) (c : Int) : Prop :=
  10 ≤ r (24 + 11 * c) ∧ r (24 + 11 * c) ≤ 200 ∧ 0 ≤ r (25 + 11 * c) ∧ r (25 + 11 * c) ≤ 5000 ∧ 0 ≤ r (26 + 11 * c) ∧ r (26 + 11 * c) ≤ 5000 ∧
  0 ≤ r (27 + 11 * c) ∧ r (27 + 11 * c) ≤ r (30 + 11 * c) ∧ 0 ≤ r (28 + 11 * c) ∧ r (28 + 11 * c) ≤ r (31 + 11 * c) ∧ r (30 + 11 * c) ≤ t ∧ r (31 + 11 * c) ≤ t ∧
  (r (29 + 11 * c) = -100000005 ∨ r (29 + 11 * c) = 0 ∨ r (29 + 11 * c) = 1) ∧ 0 ≤ sLf r c ∧ r (161 + 13 * c) = sCn r (100 + c) ∧
  (∀ z : Int, 0 ≤ z → z < r (161 + 13 * c) → 0 ≤ r (162 + 13 * c + z) ∧ r (162 + 13 * c + z) < r 2 ∧ r (71 + 8 * r (162 + 13 * c + z)) = 100 + c) ∧
  (∀ y z : Int, 0 ≤ y → y < z → z < r (161 + 13 * c) → r (162 + 13 * c + y) ≠ r (162 + 13 * c + z))
def rBo (t : Int) (r : Int → Int) (b : Int) : Prop :=
  5 ≤ r (65 + 8 * b) ∧ r (65 + 8 * b) ≤ 60 ∧ 10 ≤ r (66 + 8 * b) ∧ r (66 + 8 * b) ≤ 500 ∧ 1 ≤ r (67 + 8 * b) ∧ r (67 + 8 * b) ≤ 20 ∧ 10 ≤ r (68 + 8 * b) ∧ r (68 + 8 * b) ≤ 1000 ∧
  0 ≤ r (69 + 8 * b) ∧ 0 ≤ r (70 + 8 * b) ∧ r (69 + 8 * b) + r (70 + 8 * b) ≤ r (68 + 8 * b) ∧ ((0 ≤ r (71 + 8 * b) ∧ r (71 + 8 * b) < r 0) ∨ (100 ≤ r (71 + 8 * b) ∧ r (71 + 8 * b) < 100 + r 1)) ∧ 0 ≤ r (72 + 8 * b) ∧ r (72 + 8 * b) ≤ t
/-- what holds of every state behind t calls and orders; t grows by 100 a call -/
def rIn (t : Int) (r : Int → Int) : Prop :=
  (0 ≤ r 0 ∧ r 0 ≤ 5 ∧ 0 ≤ r 1 ∧ r 1 ≤ 4 ∧ ((r 0 = 0 ∧ r 1 = 0) ∨ r 0 = r 1 + 1) ∧ 0 ≤ r 2 ∧ r 2 ≤ 12 ∧ 0 ≤ r 3 ∧ r 3 ≤ 50 ∧ -(10000 * t) ≤ r 4 ∧ r 4 ≤ 10000 * t ∧ 0 ≤ r 5 ∧ r 5 ≤ 10000000 * r 0) ∧
  (∀ i : Int, 0 ≤ i → i < r 0 → rWo r i) ∧ (∀ c : Int, 0 ≤ c → c < r 1 → rWo r (100 + c) ∧ rCo t r c) ∧ (∀ b : Int, 0 ≤ b → b < r 2 → rBo t r b) ∧
  sTot r ≤ 10000000 * r 0 + 10000 * t ∧
  jsum (fun b => r (72 + 8 * b)) (r 2).toNat = jsum (fun c => r (30 + 11 * c) + r (31 + 11 * c)) (r 1).toNat
