section LROW
variable {G : JG} {y : MethodName} {cc : ByteArray} {nL : Nat} {rt : Option FieldType} {d : Nat} {kb kc : Nat × Nat} {S : JS} {D : JD} {pc : Nat} {ls : List (Option JV)} {st : List JV} {Q : Option JV → JS → JD → Prop}
theorem x_ic_same {a off : Int} {tgt : Nat} (hd : decode cc pc = .ok (.if_icmp .eq off, 3)) (ht : (pc : Int) + off = (tgt : Int)) (Kt : JX G y cc nL rt d kb kc S D tgt ls st Q) : JX G y cc nL rt d kb kc S D pc ls (.inl a :: .inl a :: st) Q := by
  intro p l e9 R s m args below meth c H locs A QM C h1 h2 h3 h4 hS hl hA hK
  exact lv_icmp_eq C.1 C.2.1 hd ht (fun _ => Kt p l e9 R s m args below meth c H locs A QM C h1 h2 h3 h4 hS hl hA hK) (fun q => absurd rfl q)
theorem x_lcmp_same {a : Int} (hd : decode cc pc = .ok (.lcmp, 1)) (K : JX G y cc nL rt d kb kc S D (pc + 1) ls (.inl 0 :: st) Q) : JX G y cc nL rt d kb kc S D pc ls (.inr (.inl a) :: .inr (.inl a) :: st) Q := by
  intro p l e9 R s m args below meth c H locs A QM C h1 h2 h3 h4 hS hl hA hK
  refine W.lcmp C.1 C.2.1 hd ?_
  have z : lg_cmp (Int64.ofInt a) (Int64.ofInt a) = Int32.ofInt 0 := by
    have w1 : ¬ Int64.ofInt a > Int64.ofInt a := by rw [gt_iff_lt, Int64.lt_iff_toInt_lt]; omega
    unfold lg_cmp
    rw [if_neg w1, if_pos rfl]
    rfl
  rw [z]
  exact K p l e9 R s m args below meth c H locs A QM C h1 h2 h3 h4 hS hl hA hK
end LROW
theorem gxi {x : Int32} : i32 x.toInt := by
  have h1 := Int32.le_toInt x
  have h2 := Int32.toInt_lt x
  constructor <;> omega

