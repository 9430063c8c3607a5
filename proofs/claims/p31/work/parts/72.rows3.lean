/-! ROWS that the property's own law needs: negation, masks, shifts, or, pop -/
theorem i32_of (x : Int32) : i32 x.toInt := by
  have h1 := Int32.le_toInt x
  have h2 := Int32.toInt_lt x
  constructor <;> omega
theorem k_and31 : ∀ k : Nat, k < 32 → ((Int32.ofInt (k : Int) &&& (31 : Int32)).toBitVec.smod 32).toNat = k := by decide +kernel
section PROW
variable {G : JG} {y : MethodName} {cc : ByteArray} {nL : Nat} {rt : Option FieldType} {d : Nat} {kb kc : Nat × Nat} {S : JS} {D : JD} {pc : Nat} {ls : List (Option JV)} {st : List JV} {Q : Option JV → JS → JD → Prop}
theorem x_ineg {a : Int} (hd : decode cc pc = .ok (.ineg, 1)) (K : JX G y cc nL rt d kb kc S D (pc + 1) ls (.inl (-a) :: st) Q) : JX G y cc nL rt d kb kc S D pc ls (.inl a :: st) Q := by
  intro p l e9 R s m args below meth c H locs A QM C h1 h2 h3 h4 hS hl hA hK
  refine lv_ineg C.1 C.2.1 hd ?_
  rw [← Int32.ofInt_neg]
  exact K p l e9 R s m args below meth c H locs A QM C h1 h2 h3 h4 hS hl hA hK
theorem x_iandK {a m : Int} (k : Nat) (hm : m = 2 ^ k - 1) (hk : k = 1 ∨ k = 31) (hd : decode cc pc = .ok (.iand, 1)) (K : JX G y cc nL rt d kb kc S D (pc + 1) ls (.inl (a % 2 ^ k) :: st) Q) : JX G y cc nL rt d kb kc S D pc ls (.inl m :: .inl a :: st) Q := by
  intro p l e9 R s m9 args below meth c H locs A QM C h1 h2 h3 h4 hS hl hA hK
  refine lv_iand C.1 C.2.1 hd ?_
  have z : Int32.ofInt a &&& Int32.ofInt m = Int32.ofInt (a % 2 ^ k) := by
    have h : (Int32.ofInt a).toBitVec = BitVec.ofInt 32 a := by first | rfl | exact Int32.toBitVec_ofInt a
    have hz : (0 : Int) ≤ a % (2 ^ 32 : Nat) := Int.emod_nonneg _ (by decide)
    rcases hk with rfl | rfl
    · rw [pk_and _ 1 (by rw [hm]; decide)]
      have w : ((Int32.ofInt a).toBitVec.toNat : Int) % 2 = a % 2 := by
        rw [h, BitVec.toNat_ofInt]
        omega
      show Int32.ofNat _ = _
      rw [← Int32.ofInt_eq_ofNat]
      congr 1
    · rw [pk_and _ 31 (by rw [hm]; decide)]
      have w : ((Int32.ofInt a).toBitVec.toNat : Int) % 2147483648 = a % 2147483648 := by
        rw [h, BitVec.toNat_ofInt]
        omega
      show Int32.ofNat _ = _
      rw [← Int32.ofInt_eq_ofNat]
      congr 1
  rw [z]
  exact K p l e9 R s m9 args below meth c H locs A QM C h1 h2 h3 h4 hS hl hA hK
theorem x_iand1 {a : Int} (hd : decode cc pc = .ok (.iand, 1)) (K : JX G y cc nL rt d kb kc S D (pc + 1) ls (.inl (a % 2) :: st) Q) : JX G y cc nL rt d kb kc S D pc ls (.inl 1 :: .inl a :: st) Q :=
  x_iandK 1 rfl (Or.inl rfl) hd K
theorem x_iandM {a : Int} (hd : decode cc pc = .ok (.iand, 1)) (K : JX G y cc nL rt d kb kc S D (pc + 1) ls (.inl (a % 2147483648) :: st) Q) : JX G y cc nL rt d kb kc S D pc ls (.inl 2147483647 :: .inl a :: st) Q :=
  x_iandK 31 rfl (Or.inr rfl) hd K
/-- a shift to the right by any number: some int -/
theorem x_ishrE {a s : Int} (hd : decode cc pc = .ok (.ishr, 1)) (K : ∀ v : Int, i32 v → JX G y cc nL rt d kb kc S D (pc + 1) ls (.inl v :: st) Q) : JX G y cc nL rt d kb kc S D pc ls (.inl s :: .inl a :: st) Q := by
  intro p l e9 R s9 m args below meth c H locs A QM C h1 h2 h3 h4 hS hl hA hK
  refine lv_ishr C.1 C.2.1 hd ?_
  have k := K (Int32.ofInt a >>> (Int32.ofInt s &&& 31)).toInt (i32_of _) p l e9 R s9 m args below meth c H locs A QM C h1 h2 h3 h4 hS hl hA hK
  simp only [List.map_cons, jv_i, Int32.ofInt_toInt] at k
  exact k
/-- the bit b of m -/
theorem x_ishrB {b : Nat} {m : Nat} (hb : b < 32) (hm : m < 2147483648) (hd : decode cc pc = .ok (.ishr, 1)) (K : JX G y cc nL rt d kb kc S D (pc + 1) ls (.inl ((m / 2 ^ b : Nat) : Int) :: st) Q) : JX G y cc nL rt d kb kc S D pc ls (.inl (b : Int) :: .inl (m : Int) :: st) Q := by
  intro p l e9 R s9 m9 args below meth c H locs A QM C h1 h2 h3 h4 hS hl hA hK
  refine lv_ishr C.1 C.2.1 hd ?_
  have z : Int32.ofInt (m : Int) >>> (Int32.ofInt (b : Int) &&& 31) = Int32.ofInt ((m / 2 ^ b : Nat) : Int) := by
    have h := pk_shrN (n := m) hm (Int32.ofInt (b : Int) &&& 31) b (k_and31 b hb)
    have e1 : nI m = Int32.ofInt (m : Int) := by show Int32.ofNat _ = _; rw [← Int32.ofInt_eq_ofNat]
    have e2 : nI (m / 2 ^ b) = Int32.ofInt ((m / 2 ^ b : Nat) : Int) := by show Int32.ofNat _ = _; rw [← Int32.ofInt_eq_ofNat]
    rw [e1, e2] at h
    exact h
  rw [z]
  exact K p l e9 R s9 m9 args below meth c H locs A QM C h1 h2 h3 h4 hS hl hA hK
theorem x_ishl1 {b : Nat} (hb : b < 31) (hd : decode cc pc = .ok (.ishl, 1)) (K : JX G y cc nL rt d kb kc S D (pc + 1) ls (.inl ((2 ^ b : Nat) : Int) :: st) Q) : JX G y cc nL rt d kb kc S D pc ls (.inl (b : Int) :: .inl 1 :: st) Q := by
  intro p l e9 R s9 m9 args below meth c H locs A QM C h1 h2 h3 h4 hS hl hA hK
  refine lv_ishl C.1 C.2.1 hd ?_
  have z : Int32.ofInt 1 <<< (Int32.ofInt (b : Int) &&& 31) = Int32.ofInt ((2 ^ b : Nat) : Int) := by
    have hp : 2 ^ b ≤ 2 ^ 31 := Nat.pow_le_pow_right (by decide) (by omega)
    have h := pk_shlN (n := 1) (Int32.ofInt (b : Int) &&& 31) b (k_and31 b (by omega)) (by omega)
    have e1 : nI 1 = Int32.ofInt 1 := rfl
    have e2 : nI (1 * 2 ^ b) = Int32.ofInt ((2 ^ b : Nat) : Int) := by show Int32.ofNat _ = _; rw [← Int32.ofInt_eq_ofNat, Nat.one_mul]
    rw [e1, e2] at h
    exact h
  rw [z]
  exact K p l e9 R s9 m9 args below meth c H locs A QM C h1 h2 h3 h4 hS hl hA hK
theorem x_ior {a b : Nat} (hd : decode cc pc = .ok (.ior, 1)) (K : JX G y cc nL rt d kb kc S D (pc + 1) ls (.inl ((a ||| b : Nat) : Int) :: st) Q) : JX G y cc nL rt d kb kc S D pc ls (.inl (b : Int) :: .inl (a : Int) :: st) Q := by
  intro p l e9 R s9 m9 args below meth c H locs A QM C h1 h2 h3 h4 hS hl hA hK
  refine lv_ior C.1 C.2.1 hd ?_
  have z : Int32.ofInt (a : Int) ||| Int32.ofInt (b : Int) = Int32.ofInt ((a ||| b : Nat) : Int) := by
    refine Int32.toBitVec.inj ?_
    rw [Int32.toBitVec_or]
    have h : ∀ n : Nat, (Int32.ofInt (n : Int)).toBitVec = BitVec.ofNat 32 n := fun n => by
      have h2 : (Int32.ofInt (n : Int)).toBitVec = BitVec.ofInt 32 (n : Int) := by first | rfl | exact Int32.toBitVec_ofInt _
      rw [h2, BitVec.ofInt_natCast]
    rw [h, h, h, BitVec.ofNat_or]
  rw [z]
  exact K p l e9 R s9 m9 args below meth c H locs A QM C h1 h2 h3 h4 hS hl hA hK
end PROW
/-- what stands in the bits of n -/
theorem bit_of {m b : Nat} : (m / 2 ^ b) % 2 = 1 ↔ m.testBit b = true := by
  rw [Nat.testBit_eq_decide_div_mod_eq]
  exact (decide_eq_true_iff).symm
theorem bit_or {m b j : Nat} : (m ||| 2 ^ b).testBit j = (m.testBit j || decide (b = j)) := by
  rw [Nat.testBit_or, Nat.testBit_two_pow]
theorem bit_lt {m b : Nat} (hm : m < 4096) (hb : b < 12) : m ||| 2 ^ b < 4096 := by
  have h1 : (2 : Nat) ^ b < 2 ^ 12 := Nat.pow_lt_pow_right (by decide) hb
  exact Nat.or_lt_two_pow (n := 12) hm h1
