/-! THE REFERENCE: account, count -/
theorem jsum_add {f g : Int → Int} : ∀ n : Nat, jsum (fun k => f k + g k) n = jsum f n + jsum g n
  | 0 => rfl
  | n + 1 => by
    show jsum (fun k => f k + g k) n + (f n + g n) = jsum f n + f n + (jsum g n + g n)
    rw [jsum_add n]
    omega
theorem jsum_comm {F : Int → Int → Int} {n : Nat} : ∀ m : Nat, jsum (fun c => jsum (fun b => F c b) n) m = jsum (fun b => jsum (fun c => F c b) m) n
  | 0 => (jsum_zero (fun _ _ _ => rfl)).symm
  | m + 1 => by
    show jsum (fun c => jsum (fun b => F c b) n) m + jsum (fun b => F m b) n = jsum (fun b => jsum (fun c => F c b) m + F m b) n
    rw [jsum_comm m, jsum_add (f := fun b => jsum (fun c => F c b) m) (g := fun b => F m b)]
theorem jsum_pt {p : Int} : ∀ n : Nat, jsum (fun c => if p = 100 + c then (1 : Int) else 0) n = if 100 ≤ p ∧ p < 100 + n then 1 else 0
  | 0 => by
    rw [if_neg (by omega)]
    rfl
  | n + 1 => by
    show jsum (fun c => if p = 100 + c then (1 : Int) else 0) n + (if p = 100 + (n : Int) then 1 else 0) = _
    rw [jsum_pt n]
    by_cases e : p = 100 + (n : Int)
    · rw [if_neg (by omega), if_pos e, if_pos (by omega)]
      rfl
    · rw [if_neg e]
      by_cases q : 100 ≤ p ∧ p < 100 + n
      · rw [if_pos q, if_pos (by omega)]
        rfl
      · rw [if_neg q, if_neg (by omega)]
        rfl
theorem jsum_part {f g : Int → Int} {m : Int} (hm : 0 ≤ m) : ∀ n : Nat, jsum (fun i => f i + (if i < m then g i else 0)) n = jsum f n + jsum g (min n m.toNat)
  | 0 => by
    rw [show min 0 m.toNat = 0 by omega]
    rfl
  | n + 1 => by
    show jsum (fun i => f i + (if i < m then g i else 0)) n + (f n + (if (n : Int) < m then g n else 0)) = jsum f n + f n + _
    rw [jsum_part hm n]
    by_cases q : (n : Int) < m
    · rw [if_pos q, show min n m.toNat = n by omega, show min (n + 1) m.toNat = n + 1 by omega]
      show _ = _ + (jsum g n + g n)
      omega
    · rw [if_neg q, show min n m.toNat = m.toNat by omega, show min (n + 1) m.toNat = m.toNat by omega]
      omega
theorem rIn.wx {t : Int} {r : Int → Int} (hI : rIn t r) : jsum (sWx r) (r 0).toNat = jsum (fun i => r (8 + 3 * i)) (r 0).toNat + jsum (fun c => r (23 + 11 * c)) (r 1).toNat := by
  have b1 := hI.1
  have h := jsum_part (f := fun i => r (8 + 3 * i)) (g := fun c => r (23 + 11 * c)) (m := r 1) (by omega) (r 0).toNat
  rw [show min (r 0).toNat (r 1).toNat = (r 1).toNat by omega] at h
  exact h
theorem rIn.locked {t : Int} {r : Int → Int} (hI : rIn t r) : jsum (fun b => if 100 ≤ r (71 + 8 * b) then 1 else 0) (r 2).toNat = jsum (fun c => r (161 + 13 * c)) (r 1).toNat := by
  have b1 := hI.1
  rw [jsum_congr (f := fun c => r (161 + 13 * c)) (g := fun c => jsum (fun b => if r (71 + 8 * b) = 100 + c then (1 : Int) else 0) (r 2).toNat) (fun c x y => (hI.line x (by omega)).2.2), jsum_comm]
  refine jsum_congr (fun b x y => ?_)
  show (if 100 ≤ r (71 + 8 * b) then 1 else 0) = jsum (fun c => if r (71 + 8 * b) = 100 + c then (1 : Int) else 0) (r 1).toNat
  rw [jsum_pt]
  have bb := (hI.bw x (by omega)).1
  unfold rPl at bb
  by_cases q : 100 ≤ r (71 + 8 * b)
  · rw [if_pos q, if_pos (by omega)]
  · rw [if_neg q, if_neg (by omega)]
def vAcc (e W P B C T : Int) (r : Int → Int) : Int := if e = 0 then W else if e = 1 then B else if e = 2 then C else if e = 3 then T else if e = 4 then r 4 else if e = 5 then r 5 else if e = 6 then P else -100000002
theorem vAcc_z {t e : Int} {r : Int → Int} (hI : rIn t r) : vAcc e (jsum (fun i => r (8 + 3 * i)) (r 0).toNat + jsum (fun c => r (23 + 11 * c)) (r 1).toNat) (jsum (fun c => r (30 + 11 * c) + r (31 + 11 * c)) (r 1).toNat) (jsum (fun k => r (70 + 8 * k)) (r 2).toNat) (jsum (fun k => r (69 + 8 * k)) (r 2).toNat) (jsum (sW r) (r 2).toNat) r = zAccount e r := by
  unfold vAcc zAccount
  rw [hI.wx, hI.2.2.2.2.2]
def vCnt (e o g l q n z : Int) (r : Int → Int) : Int := if e = 0 then r 0 else if e = 1 then r 1 else if e = 2 then r 2 else if e = 3 then o else if e = 4 then g else if e = 5 then l else if e = 6 then r 3 else if e = 7 then q else if e = 8 then n else if e = 9 then z else -100000002