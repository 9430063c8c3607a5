/-! ROWS, an instruction each: values, locals, arithmetic, branches -/
abbrev i32 (e : Int) : Prop := -2147483648 ≤ e ∧ e ≤ 2147483647
abbrev i64 (e : Int) : Prop := -9223372036854775808 ≤ e ∧ e ≤ 9223372036854775807
theorem i32_t {e : Int} (h : i32 e) : (Int32.ofInt e).toInt = e := Int32.toInt_ofInt_of_le (by unfold i32 at h; omega) (by unfold i32 at h; omega)
theorem i64_t {e : Int} (h : i64 e) : (Int64.ofInt e).toInt = e := Int64.toInt_ofInt_of_le (by unfold i64 at h; omega) (by unfold i64 at h; omega)
theorem i32_lt0 {e : Int} (h : i32 e) : Int32.ofInt e < 0 ↔ e < 0 := by rw [Int32.lt_iff_toInt_lt, i32_t h, Int32.toInt_zero]
theorem i32_le0 {e : Int} (h : i32 e) : Int32.ofInt e ≤ 0 ↔ e ≤ 0 := by rw [Int32.le_iff_toInt_le, i32_t h, Int32.toInt_zero]
theorem i32_ge0 {e : Int} (h : i32 e) : (0 : Int32) ≤ Int32.ofInt e ↔ 0 ≤ e := by rw [Int32.le_iff_toInt_le, i32_t h, Int32.toInt_zero]
theorem i32_gt0 {e : Int} (h : i32 e) : (0 : Int32) < Int32.ofInt e ↔ 0 < e := by rw [Int32.lt_iff_toInt_lt, i32_t h, Int32.toInt_zero]
theorem i32_eq0 {e : Int} (h : i32 e) : Int32.ofInt e = 0 ↔ e = 0 := by rw [← Int32.toInt_inj, i32_t h, Int32.toInt_zero]
theorem i32_lt {a b : Int} (h : i32 a) (k : i32 b) : Int32.ofInt a < Int32.ofInt b ↔ a < b := by rw [Int32.lt_iff_toInt_lt, i32_t h, i32_t k]
theorem i32_le {a b : Int} (h : i32 a) (k : i32 b) : Int32.ofInt a ≤ Int32.ofInt b ↔ a ≤ b := by rw [Int32.le_iff_toInt_le, i32_t h, i32_t k]
theorem i32_eq {a b : Int} (h : i32 a) (k : i32 b) : Int32.ofInt a = Int32.ofInt b ↔ a = b := by rw [← Int32.toInt_inj, i32_t h, i32_t k]
theorem i32_nn {e : Int} (h0 : 0 ≤ e) (h1 : e < 2147483648) : (Int32.ofInt e).toNatClampNeg = e.toNat := by show (Int32.ofInt e).toInt.toNat = _; rw [i32_t ⟨by omega, by omega⟩]
theorem jd_abs {a b : Int} (h0 : 0 < b) : (a.tdiv b).natAbs ≤ a.natAbs := by rw [Int.natAbs_tdiv]; exact Nat.div_le_self _ _
theorem jd_nonneg {a b : Int} (ha : 0 ≤ a) (h0 : 0 < b) : 0 ≤ a.tdiv b := Int.tdiv_nonneg ha (by omega)
theorem jd_neg {a b : Int} (ha : a ≤ 0) (h0 : 0 < b) : a.tdiv b ≤ 0 := by
  have h := Int.tdiv_nonneg (a := -a) (b := b) (by omega) (by omega)
  rw [Int.neg_tdiv] at h
  omega
theorem jd_32 {a b : Int} (ra : i32 a) (h0 : 0 < b) : i32 (a.tdiv b) := by
  have h := jd_abs (a := a) h0
  unfold i32 at ra ⊢
  rcases Int.le_total 0 a with q | q
  · have := jd_nonneg q h0; omega
  · have := jd_neg q h0; omega
theorem jd_64 {a b : Int} (ra : i64 a) (h0 : 0 < b) : i64 (a.tdiv b) := by
  have h := jd_abs (a := a) h0
  unfold i64 at ra ⊢
  rcases Int.le_total 0 a with q | q
  · have := jd_nonneg q h0; omega
  · have := jd_neg q h0; omega
theorem jd_i {a b : Int} (ra : i32 a) (rb : i32 b) (h0 : 0 < b) : Int32.ofInt a / Int32.ofInt b = Int32.ofInt (a.tdiv b) := by
  have w := jd_32 ra h0
  rw [← Int32.toInt_inj, Int32.toInt_div, i32_t ra, i32_t rb, i32_t w, Int.bmod_def]
  unfold i32 at w
  omega
theorem jd_l {a b : Int} (ra : i64 a) (rb : i64 b) (h0 : 0 < b) : Int64.ofInt a / Int64.ofInt b = Int64.ofInt (a.tdiv b) := by
  have w := jd_64 ra h0
  rw [← Int64.toInt_inj, Int64.toInt_div, i64_t ra, i64_t rb, i64_t w, Int.bmod_def]
  unfold i64 at w
  omega
theorem jd_m (a b : Int) : a - a.tdiv b * b = a.tmod b := by
  have := Int.mul_tdiv_add_tmod a b
  have e : a.tdiv b * b = b * a.tdiv b := Int.mul_comm _ _
  omega
/-- an index that is in a row of n -/
theorem i32_in {e n : Int} (h0 : 0 ≤ e) (h1 : e < n) (h2 : n < 2147483648) : vp_in (Int32.ofInt e) n.toNat := by
  refine vp_in_iff.mpr ?_
  rw [i32_t ⟨by omega, by omega⟩]
  omega
theorem jv_c1 (v : JV) (h : ∀ e, v ≠ .inr (.inl e)) : (jv v).category = 1 := by
  rcases v with e | e | r
  · rfl
  · exact absurd rfl (h e)
  · cases r <;> rfl
def jas (ls : List (Option JV)) : List (Nat × Value) := ls.zipIdx.filterMap (fun q => q.1.map (fun v => (q.2, jv v)))
theorem jas_mem {ls : List (Option JV)} {q : Nat × Value} (h : q ∈ jas ls) : ∃ v, ls[q.1]? = some (some v) ∧ q.2 = jv v := by
  obtain ⟨x, hx, hy⟩ := List.mem_filterMap.mp h
  obtain ⟨o, k⟩ := x
  have h1 := List.mem_zipIdx_iff_getElem?.mp hx
  cases o with
  | none => simp at hy
  | some v =>
    simp at hy
    subst hy
    exact ⟨v, h1, rfl⟩
theorem jas_of {ls : List (Option JV)} {k : Nat} {v : JV} (h : ls[k]? = some (some v)) : (k, jv v) ∈ jas ls :=
  List.mem_filterMap.mpr ⟨(some v, k), List.mem_zipIdx_iff_getElem?.mpr h, rfl⟩
theorem jls_has {nL : Nat} {ls : List (Option JV)} {A : Array Slot} (h : jLs nL ls A) : lv_has A nL (jas ls) := by
  refine ⟨h.2.1, h.2.2.1, fun q hq => ?_⟩
  obtain ⟨v, h1, h2⟩ := jas_mem hq
  rw [h2]
  exact h.2.2.2 _ _ h1
theorem jcl2_get {ls : List (Option JV)} {i k : Nat} {v : JV} (h : (jcl2 ls i)[k]? = some (some v)) : ls[k]? = some (some v) ∧ ¬ (k = i ∧ (jv v).category = 2) := by
  unfold jcl2 at h
  split at h
  next e hz =>
    by_cases q : k = i
    · subst q
      rw [List.getElem?_set_self'] at h
      simp [hz] at h
    · rw [List.getElem?_set_ne (fun w => q w.symm)] at h
      exact ⟨h, fun w => q w.1⟩
  next hz =>
    refine ⟨h, fun w => ?_⟩
    obtain ⟨w1, w2⟩ := w
    subst w1
    rcases v with e | e | r
    · cases w2
    · exact hz e h
    · cases r <;> cases w2
theorem jclr_get {ls : List (Option JV)} {i k : Nat} {v : JV} (h : (jclr ls i)[k]? = some (some v)) (hk : k ≠ i) : ls[k]? = some (some v) ∧ ¬ (k + 1 = i ∧ (jv v).category = 2) := by
  cases i with
  | zero => exact ⟨h, fun q => by omega⟩
  | succ i =>
    obtain ⟨h1, h2⟩ := jcl2_get (ls := ls) (i := i) h
    exact ⟨h1, fun q => h2 ⟨by omega, q.2⟩⟩
theorem jclr_len (ls : List (Option JV)) (i : Nat) : (jclr ls i).length = ls.length := by
  cases i with
  | zero => rfl
  | succ i =>
    show (jcl2 ls i).length = _
    unfold jcl2
    split
    · simp
    · rfl
theorem jls_of1 {nL i : Nat} {ls : List (Option JV)} {A' : Array Slot} {v : JV} (hlen : ls.length = nL)
    (h : lv_has A' nL ((i, jv v) :: (jas ls).filter (fun q => !(q.1 == i) && !(q.1 + 1 == i && q.2.category == 2)))) : jLs nL (jst ls i v) A' := by
  refine ⟨by simp [jst, jclr_len, hlen], h.1, h.2.1, fun k w hk => ?_⟩
  unfold jst at hk
  by_cases q : k = i
  · subst q
    rw [List.getElem?_set_self'] at hk
    have : v = w := by
      cases hz : (jclr ls k)[k]? with
      | none => rw [hz] at hk; simp at hk
      | some z => rw [hz] at hk; simpa using hk
    subst this
    exact h.2.2 _ List.mem_cons_self
  · rw [List.getElem?_set_ne (fun w => q w.symm)] at hk
    obtain ⟨h1, h2⟩ := jclr_get hk q
    refine h.2.2 (k, jv w) (List.mem_cons_of_mem _ (List.mem_filter.mpr ⟨jas_of h1, ?_⟩))
    by_cases c1 : k + 1 = i
    · have c2 : ¬ (jv w).category = 2 := fun c => h2 ⟨c1, c⟩
      simp [q, c2]
    · simp [q, c1]
theorem jls_of2 {nL i : Nat} {ls : List (Option JV)} {A' : Array Slot} {v : JV} (hlen : ls.length = nL)
    (h : lv_has A' nL ((i, jv v) :: (jas ls).filter (fun q => !(q.1 == i) && (!(q.1 == i + 1) && !(q.1 + 1 == i && q.2.category == 2))))) : jLs nL (jst2 ls i v) A' := by
  refine ⟨by simp [jst2, jclr_len, hlen], h.1, h.2.1, fun k w hk => ?_⟩
  unfold jst2 at hk
  by_cases q2 : k = i + 1
  · subst q2
    rw [List.getElem?_set_self'] at hk
    cases hz : ((jclr ls i).set i (some v))[i + 1]? with
    | none => rw [hz] at hk; simp at hk
    | some z => rw [hz] at hk; simp at hk
  · rw [List.getElem?_set_ne (fun w => q2 w.symm)] at hk
    by_cases q : k = i
    · subst q
      rw [List.getElem?_set_self'] at hk
      have : v = w := by
        cases hz : (jclr ls k)[k]? with
        | none => rw [hz] at hk; simp at hk
        | some z => rw [hz] at hk; simpa using hk
      subst this
      exact h.2.2 _ List.mem_cons_self
    · rw [List.getElem?_set_ne (fun w => q w.symm)] at hk
      obtain ⟨h1, h2⟩ := jclr_get hk q
      refine h.2.2 (k, jv w) (List.mem_cons_of_mem _ (List.mem_filter.mpr ⟨jas_of h1, ?_⟩))
      by_cases c1 : k + 1 = i
      · have c2 : ¬ (jv w).category = 2 := fun c => h2 ⟨c1, c⟩
        simp [q, q2, c2]
      · simp [q, q2, c1]
section JROWS
variable {G : JG} {y : MethodName} {cc : ByteArray} {nL : Nat} {rt : Option FieldType} {d : Nat} {kb kc : Nat × Nat} {S : JS} {D : JD} {pc : Nat} {ls : List (Option JV)} {st : List JV} {Q : Option JV → JS → JD → Prop}
theorem x_iconst {e : Int} (hd : decode cc pc = .ok (.iconst e, 1))  (K : JX G y cc nL rt d kb kc S D (pc + 1) ls (.inl e :: st) Q) : JX G y cc nL rt d kb kc S D pc ls st Q := by
  intro p l e9 R s m args below meth c H locs A QM C h1 h2 h3 h4 hS hl hA hK
  exact lv_iconst C.1 C.2.1 hd rfl (K p l e9 R s m args below meth c H locs A QM C h1 h2 h3 h4 hS hl hA hK)
theorem x_bipush {n : Int} (hd : decode cc pc = .ok (.bipush n, 2)) (hn : (Int8.ofInt n).toInt32 = Int32.ofInt n) (K : JX G y cc nL rt d kb kc S D (pc + 2) ls (.inl n :: st) Q) : JX G y cc nL rt d kb kc S D pc ls st Q := by
  intro p l e9 R s m args below meth c H locs A QM C h1 h2 h3 h4 hS hl hA hK
  exact lv_bipush C.1 C.2.1 hd hn (K p l e9 R s m args below meth c H locs A QM C h1 h2 h3 h4 hS hl hA hK)
theorem x_sipush {n : Int} (hd : decode cc pc = .ok (.sipush n, 3)) (hn : (Int16.ofInt n).toInt32 = Int32.ofInt n) (K : JX G y cc nL rt d kb kc S D (pc + 3) ls (.inl n :: st) Q) : JX G y cc nL rt d kb kc S D pc ls st Q := by
  intro p l e9 R s m args below meth c H locs A QM C h1 h2 h3 h4 hS hl hA hK
  exact lv_sipush C.1 C.2.1 hd hn (K p l e9 R s m args below meth c H locs A QM C h1 h2 h3 h4 hS hl hA hK)
theorem x_lconst {n : Fin 2} {e : Int} (hd : decode cc pc = .ok (.lconst n, 1)) (hn : Int64.ofNat (n : Nat) = Int64.ofInt e) (K : JX G y cc nL rt d kb kc S D (pc + 1) ls (.inr (.inl e) :: st) Q) : JX G y cc nL rt d kb kc S D pc ls st Q := by
  intro p l e9 R s m args below meth c H locs A QM C h1 h2 h3 h4 hS hl hA hK
  exact lv_lconst C.1 C.2.1 hd hn (K p l e9 R s m args below meth c H locs A QM C h1 h2 h3 h4 hS hl hA hK)
theorem x_null  (hd : decode cc pc = .ok (.aconst_null, 1))  (K : JX G y cc nL rt d kb kc S D (pc + 1) ls (.inr (.inr none) :: st) Q) : JX G y cc nL rt d kb kc S D pc ls st Q := by
  intro p l e9 R s m args below meth c H locs A QM C h1 h2 h3 h4 hS hl hA hK
  exact lv_null C.1 C.2.1 hd (K p l e9 R s m args below meth c H locs A QM C h1 h2 h3 h4 hS hl hA hK)
theorem x_ldc {index : Nat} {v : Int32} {e : Int} (hd : decode cc pc = .ok (.ldc index, 2)) (hw : Cond.constant y.cls index v ∈ WG) (hv : v = Int32.ofInt e) (K : JX G y cc nL rt d kb kc S D (pc + 2) ls (.inl e :: st) Q) : JX G y cc nL rt d kb kc S D pc ls st Q := by
  intro p l e9 R s m args below meth c H locs A QM C h1 h2 h3 h4 hS hl hA hK
  subst hv
  exact lv_ldc C.1 C.2.1 C.2.2.2.1 (C.2.2.2.2.1 _ hw) hd (K p l e9 R s m args below meth c H locs A QM C h1 h2 h3 h4 hS hl hA hK)
theorem x_ldcw {index : Nat} {v : Int32} {e : Int} (hd : decode cc pc = .ok (.ldc_w index, 3)) (hw : Cond.constant y.cls index v ∈ WG) (hv : v = Int32.ofInt e) (K : JX G y cc nL rt d kb kc S D (pc + 3) ls (.inl e :: st) Q) : JX G y cc nL rt d kb kc S D pc ls st Q := by
  intro p l e9 R s m args below meth c H locs A QM C h1 h2 h3 h4 hS hl hA hK
  subst hv
  exact lv_ldcw C.1 C.2.1 C.2.2.2.1 (C.2.2.2.2.1 _ hw) hd (K p l e9 R s m args below meth c H locs A QM C h1 h2 h3 h4 hS hl hA hK)
theorem x_ldc2 {index : Nat} {v : Int64} {e : Int} (hd : decode cc pc = .ok (.ldc2_w index, 3)) (hw : Cond.constantLong y.cls index v ∈ WG) (hv : v = Int64.ofInt e) (K : JX G y cc nL rt d kb kc S D (pc + 3) ls (.inr (.inl e) :: st) Q) : JX G y cc nL rt d kb kc S D pc ls st Q := by
  intro p l e9 R s m args below meth c H locs A QM C h1 h2 h3 h4 hS hl hA hK
  subst hv
  exact lv_ldc2 C.1 C.2.1 C.2.2.2.1 (C.2.2.2.2.1 _ hw) hd (K p l e9 R s m args below meth c H locs A QM C h1 h2 h3 h4 hS hl hA hK)
theorem x_iload_n {k : Fin 4} {e : Int} (hd : decode cc pc = .ok (.iload_n k, 1)) (hl0 : ls[(k : Nat)]? = some (some (.inl e))) (K : JX G y cc nL rt d kb kc S D (pc + 1) ls (.inl e :: st) Q) : JX G y cc nL rt d kb kc S D pc ls st Q := by
  intro p l e9 R s m args below meth c H locs A QM C h1 h2 h3 h4 hS hl hA hK
  exact lv_iload_n C.1 C.2.1 hd rfl (hA.2.2.2 _ _ hl0) (K p l e9 R s m args below meth c H locs A QM C h1 h2 h3 h4 hS hl hA hK)
theorem x_iload {k : Nat} {e : Int} (hd : decode cc pc = .ok (.iload k, 2)) (hl0 : ls[k]? = some (some (.inl e))) (K : JX G y cc nL rt d kb kc S D (pc + 2) ls (.inl e :: st) Q) : JX G y cc nL rt d kb kc S D pc ls st Q := by
  intro p l e9 R s m args below meth c H locs A QM C h1 h2 h3 h4 hS hl hA hK
  exact lv_iload C.1 C.2.1 hd (hA.2.2.2 _ _ hl0) (K p l e9 R s m args below meth c H locs A QM C h1 h2 h3 h4 hS hl hA hK)
theorem x_lload_n {k : Fin 4} {e : Int} (hd : decode cc pc = .ok (.lload_n k, 1)) (hl0 : ls[(k : Nat)]? = some (some (.inr (.inl e)))) (K : JX G y cc nL rt d kb kc S D (pc + 1) ls (.inr (.inl e) :: st) Q) : JX G y cc nL rt d kb kc S D pc ls st Q := by
  intro p l e9 R s m args below meth c H locs A QM C h1 h2 h3 h4 hS hl hA hK
  exact lv_lload_n C.1 C.2.1 hd rfl (hA.2.2.2 _ _ hl0) (K p l e9 R s m args below meth c H locs A QM C h1 h2 h3 h4 hS hl hA hK)
theorem x_lload {k : Nat} {e : Int} (hd : decode cc pc = .ok (.lload k, 2)) (hl0 : ls[k]? = some (some (.inr (.inl e)))) (K : JX G y cc nL rt d kb kc S D (pc + 2) ls (.inr (.inl e) :: st) Q) : JX G y cc nL rt d kb kc S D pc ls st Q := by
  intro p l e9 R s m args below meth c H locs A QM C h1 h2 h3 h4 hS hl hA hK
  exact lv_lload C.1 C.2.1 hd (hA.2.2.2 _ _ hl0) (K p l e9 R s m args below meth c H locs A QM C h1 h2 h3 h4 hS hl hA hK)
theorem x_aload_n {k : Fin 4} {r : Option Int} (hd : decode cc pc = .ok (.aload_n k, 1)) (hl0 : ls[(k : Nat)]? = some (some (.inr (.inr r)))) (K : JX G y cc nL rt d kb kc S D (pc + 1) ls (.inr (.inr r) :: st) Q) : JX G y cc nL rt d kb kc S D pc ls st Q := by
  intro p l e9 R s m args below meth c H locs A QM C h1 h2 h3 h4 hS hl hA hK
  cases r with
  | none => exact lv_aload_nN C.1 C.2.1 hd rfl (hA.2.2.2 _ _ hl0) (K p l e9 R s m args below meth c H locs A QM C h1 h2 h3 h4 hS hl hA hK)
  | some a => exact lv_aload_n C.1 C.2.1 hd rfl (hA.2.2.2 _ _ hl0) (K p l e9 R s m args below meth c H locs A QM C h1 h2 h3 h4 hS hl hA hK)
theorem x_aload {k : Nat} {r : Option Int} (hd : decode cc pc = .ok (.aload k, 2)) (hl0 : ls[k]? = some (some (.inr (.inr r)))) (K : JX G y cc nL rt d kb kc S D (pc + 2) ls (.inr (.inr r) :: st) Q) : JX G y cc nL rt d kb kc S D pc ls st Q := by
  intro p l e9 R s m args below meth c H locs A QM C h1 h2 h3 h4 hS hl hA hK
  cases r with
  | none => exact lv_aloadN C.1 C.2.1 hd (hA.2.2.2 _ _ hl0) (K p l e9 R s m args below meth c H locs A QM C h1 h2 h3 h4 hS hl hA hK)
  | some a => exact lv_aload C.1 C.2.1 hd (hA.2.2.2 _ _ hl0) (K p l e9 R s m args below meth c H locs A QM C h1 h2 h3 h4 hS hl hA hK)
theorem x_istore_n {k : Fin 4} {e : Int} (hd : decode cc pc = .ok (.istore_n k, 1)) (hn : (k : Nat) < nL) (K : JX G y cc nL rt d kb kc S D (pc + 1) (jst ls k (.inl e)) st Q) : JX G y cc nL rt d kb kc S D pc ls (.inl e :: st) Q := by
  intro p l e9 R s m args below meth c H locs A QM C h1 h2 h3 h4 hS hl hA hK
  exact lv_istore_n C.1 C.2.1 hd rfl (jls_has hA) hn rfl (fun A2 hA2 => K p l e9 R s m args below meth c H locs A2 QM C h1 h2 h3 h4 hS hl (jls_of1 hA.1 hA2) hK)
theorem x_istore {k : Nat} {e : Int} (hd : decode cc pc = .ok (.istore k, 2)) (hn : k < nL) (K : JX G y cc nL rt d kb kc S D (pc + 2) (jst ls k (.inl e)) st Q) : JX G y cc nL rt d kb kc S D pc ls (.inl e :: st) Q := by
  intro p l e9 R s m args below meth c H locs A QM C h1 h2 h3 h4 hS hl hA hK
  exact lv_istore C.1 C.2.1 hd (jls_has hA) hn rfl (fun A2 hA2 => K p l e9 R s m args below meth c H locs A2 QM C h1 h2 h3 h4 hS hl (jls_of1 hA.1 hA2) hK)
theorem x_lstore_n {k : Fin 4} {e : Int} (hd : decode cc pc = .ok (.lstore_n k, 1)) (hn : (k : Nat) + 1 < nL) (K : JX G y cc nL rt d kb kc S D (pc + 1) (jst2 ls k (.inr (.inl e))) st Q) : JX G y cc nL rt d kb kc S D pc ls (.inr (.inl e) :: st) Q := by
  intro p l e9 R s m args below meth c H locs A QM C h1 h2 h3 h4 hS hl hA hK
  exact lv_lstore_n C.1 C.2.1 hd rfl (jls_has hA) hn rfl (fun A2 hA2 => K p l e9 R s m args below meth c H locs A2 QM C h1 h2 h3 h4 hS hl (jls_of2 hA.1 hA2) hK)
theorem x_lstore {k : Nat} {e : Int} (hd : decode cc pc = .ok (.lstore k, 2)) (hn : k + 1 < nL) (K : JX G y cc nL rt d kb kc S D (pc + 2) (jst2 ls k (.inr (.inl e))) st Q) : JX G y cc nL rt d kb kc S D pc ls (.inr (.inl e) :: st) Q := by
  intro p l e9 R s m args below meth c H locs A QM C h1 h2 h3 h4 hS hl hA hK
  exact lv_lstore C.1 C.2.1 hd (jls_has hA) hn rfl (fun A2 hA2 => K p l e9 R s m args below meth c H locs A2 QM C h1 h2 h3 h4 hS hl (jls_of2 hA.1 hA2) hK)
theorem x_astore_n {k : Fin 4} {r : Option Int} (hd : decode cc pc = .ok (.astore_n k, 1)) (hn : (k : Nat) < nL) (K : JX G y cc nL rt d kb kc S D (pc + 1) (jst ls k (.inr (.inr r))) st Q) : JX G y cc nL rt d kb kc S D pc ls (.inr (.inr r) :: st) Q := by
  intro p l e9 R s m args below meth c H locs A QM C h1 h2 h3 h4 hS hl hA hK
  cases r with
  | none => exact lv_astore_nN C.1 C.2.1 hd rfl (jls_has hA) hn rfl (fun A2 hA2 => K p l e9 R s m args below meth c H locs A2 QM C h1 h2 h3 h4 hS hl (jls_of1 hA.1 hA2) hK)
  | some a => exact lv_astore_n C.1 C.2.1 hd rfl (jls_has hA) hn rfl (fun A2 hA2 => K p l e9 R s m args below meth c H locs A2 QM C h1 h2 h3 h4 hS hl (jls_of1 hA.1 hA2) hK)
theorem x_astore {k : Nat} {r : Option Int} (hd : decode cc pc = .ok (.astore k, 2)) (hn : k < nL) (K : JX G y cc nL rt d kb kc S D (pc + 2) (jst ls k (.inr (.inr r))) st Q) : JX G y cc nL rt d kb kc S D pc ls (.inr (.inr r) :: st) Q := by
  intro p l e9 R s m args below meth c H locs A QM C h1 h2 h3 h4 hS hl hA hK
  cases r with
  | none => exact lv_astoreN C.1 C.2.1 hd (jls_has hA) hn rfl (fun A2 hA2 => K p l e9 R s m args below meth c H locs A2 QM C h1 h2 h3 h4 hS hl (jls_of1 hA.1 hA2) hK)
  | some a => exact lv_astore C.1 C.2.1 hd (jls_has hA) hn rfl (fun A2 hA2 => K p l e9 R s m args below meth c H locs A2 QM C h1 h2 h3 h4 hS hl (jls_of1 hA.1 hA2) hK)
theorem x_iinc {k : Nat} {n e : Int} (hd : decode cc pc = .ok (.iinc k n, 3)) (hl0 : ls[k]? = some (some (.inl e))) (hn : k < nL) (K : JX G y cc nL rt d kb kc S D (pc + 3) (jst ls k (.inl (e + n))) st Q) : JX G y cc nL rt d kb kc S D pc ls st Q := by
  intro p l e9 R s m args below meth c H locs A QM C h1 h2 h3 h4 hS hl hA hK
  obtain ⟨j, hj⟩ := List.getElem?_of_mem (jas_of hl0)
  exact lv_iinc C.1 C.2.1 hd (jls_has hA) hj (v := Int32.ofInt (e + n)) (by rw [Int32.ofInt_add]) hn rfl (fun A2 hA2 => K p l e9 R s m args below meth c H locs A2 QM C h1 h2 h3 h4 hS hl (jls_of1 hA.1 hA2) hK)
theorem x_iadd {a b : Int} (hd : decode cc pc = .ok (.iadd, 1))  (K : JX G y cc nL rt d kb kc S D (pc + 1) ls (.inl (a + b) :: st) Q) : JX G y cc nL rt d kb kc S D pc ls (.inl b :: .inl a :: st) Q := by
  intro p l e9 R s m args below meth c H locs A QM C h1 h2 h3 h4 hS hl hA hK
  refine lv_iadd C.1 C.2.1 hd ?_
  rw [← Int32.ofInt_add]
  exact K p l e9 R s m args below meth c H locs A QM C h1 h2 h3 h4 hS hl hA hK
theorem x_isub {a b : Int} (hd : decode cc pc = .ok (.isub, 1))  (K : JX G y cc nL rt d kb kc S D (pc + 1) ls (.inl (a - b) :: st) Q) : JX G y cc nL rt d kb kc S D pc ls (.inl b :: .inl a :: st) Q := by
  intro p l e9 R s m args below meth c H locs A QM C h1 h2 h3 h4 hS hl hA hK
  refine lv_isub C.1 C.2.1 hd ?_
  rw [← Int32.ofInt_sub]
  exact K p l e9 R s m args below meth c H locs A QM C h1 h2 h3 h4 hS hl hA hK
theorem x_imul {a b : Int} (hd : decode cc pc = .ok (.imul, 1))  (K : JX G y cc nL rt d kb kc S D (pc + 1) ls (.inl (a * b) :: st) Q) : JX G y cc nL rt d kb kc S D pc ls (.inl b :: .inl a :: st) Q := by
  intro p l e9 R s m args below meth c H locs A QM C h1 h2 h3 h4 hS hl hA hK
  refine lv_imul C.1 C.2.1 hd ?_
  rw [← Int32.ofInt_mul]
  exact K p l e9 R s m args below meth c H locs A QM C h1 h2 h3 h4 hS hl hA hK
theorem x_ladd {a b : Int} (hd : decode cc pc = .ok (.ladd, 1))  (K : JX G y cc nL rt d kb kc S D (pc + 1) ls (.inr (.inl (a + b)) :: st) Q) : JX G y cc nL rt d kb kc S D pc ls (.inr (.inl b) :: .inr (.inl a) :: st) Q := by
  intro p l e9 R s m args below meth c H locs A QM C h1 h2 h3 h4 hS hl hA hK
  refine lv_ladd C.1 C.2.1 hd ?_
  rw [← Int64.ofInt_add]
  exact K p l e9 R s m args below meth c H locs A QM C h1 h2 h3 h4 hS hl hA hK
theorem x_lsub {a b : Int} (hd : decode cc pc = .ok (.lsub, 1))  (K : JX G y cc nL rt d kb kc S D (pc + 1) ls (.inr (.inl (a - b)) :: st) Q) : JX G y cc nL rt d kb kc S D pc ls (.inr (.inl b) :: .inr (.inl a) :: st) Q := by
  intro p l e9 R s m args below meth c H locs A QM C h1 h2 h3 h4 hS hl hA hK
  refine lv_lsub C.1 C.2.1 hd ?_
  rw [← Int64.ofInt_sub]
  exact K p l e9 R s m args below meth c H locs A QM C h1 h2 h3 h4 hS hl hA hK
theorem x_lmul {a b : Int} (hd : decode cc pc = .ok (.lmul, 1))  (K : JX G y cc nL rt d kb kc S D (pc + 1) ls (.inr (.inl (a * b)) :: st) Q) : JX G y cc nL rt d kb kc S D pc ls (.inr (.inl b) :: .inr (.inl a) :: st) Q := by
  intro p l e9 R s m args below meth c H locs A QM C h1 h2 h3 h4 hS hl hA hK
  refine lv_lmul C.1 C.2.1 hd ?_
  rw [← Int64.ofInt_mul]
  exact K p l e9 R s m args below meth c H locs A QM C h1 h2 h3 h4 hS hl hA hK
theorem x_lneg {a : Int} (hd : decode cc pc = .ok (.lneg, 1))  (K : JX G y cc nL rt d kb kc S D (pc + 1) ls (.inr (.inl (-a)) :: st) Q) : JX G y cc nL rt d kb kc S D pc ls (.inr (.inl a) :: st) Q := by
  intro p l e9 R s m args below meth c H locs A QM C h1 h2 h3 h4 hS hl hA hK
  refine lv_lneg C.1 C.2.1 hd ?_
  rw [← Int64.ofInt_neg]
  exact K p l e9 R s m args below meth c H locs A QM C h1 h2 h3 h4 hS hl hA hK
theorem x_idiv {a b : Int} (hd : decode cc pc = .ok (.idiv, 1)) (ra : i32 a) (rb : i32 b) (h0 : 0 < b) (K : JX G y cc nL rt d kb kc S D (pc + 1) ls (.inl (a.tdiv b) :: st) Q) : JX G y cc nL rt d kb kc S D pc ls (.inl b :: .inl a :: st) Q := by
  intro p l e9 R s m args below meth c H locs A QM C h1 h2 h3 h4 hS hl hA hK
  refine lv_idiv C.1 C.2.1 hd (fun z => by have := (i32_eq0 rb).mp z; omega) ?_
  rw [jd_i ra rb h0]
  exact K p l e9 R s m args below meth c H locs A QM C h1 h2 h3 h4 hS hl hA hK
theorem x_irem {a b : Int} (hd : decode cc pc = .ok (.irem, 1)) (ra : i32 a) (rb : i32 b) (h0 : 0 < b) (K : JX G y cc nL rt d kb kc S D (pc + 1) ls (.inl (a.tmod b) :: st) Q) : JX G y cc nL rt d kb kc S D pc ls (.inl b :: .inl a :: st) Q := by
  intro p l e9 R s m args below meth c H locs A QM C h1 h2 h3 h4 hS hl hA hK
  refine lv_irem C.1 C.2.1 hd (fun z => by have := (i32_eq0 rb).mp z; omega) ?_
  rw [jd_i ra rb h0, ← Int32.ofInt_mul, ← Int32.ofInt_sub, jd_m]
  exact K p l e9 R s m args below meth c H locs A QM C h1 h2 h3 h4 hS hl hA hK
theorem x_ldiv {a b : Int} (hd : decode cc pc = .ok (.ldiv, 1)) (ra : i64 a) (rb : i64 b) (h0 : 0 < b) (K : JX G y cc nL rt d kb kc S D (pc + 1) ls (.inr (.inl (a.tdiv b)) :: st) Q) : JX G y cc nL rt d kb kc S D pc ls (.inr (.inl b) :: .inr (.inl a) :: st) Q := by
  intro p l e9 R s m args below meth c H locs A QM C h1 h2 h3 h4 hS hl hA hK
  refine lv_ldiv C.1 C.2.1 hd (fun z => by have z2 := Int64.toInt_inj.mpr z; rw [i64_t rb, Int64.toInt_zero] at z2; omega) ?_
  rw [jd_l ra rb h0]
  exact K p l e9 R s m args below meth c H locs A QM C h1 h2 h3 h4 hS hl hA hK
theorem x_lrem {a b : Int} (hd : decode cc pc = .ok (.lrem, 1)) (ra : i64 a) (rb : i64 b) (h0 : 0 < b) (K : JX G y cc nL rt d kb kc S D (pc + 1) ls (.inr (.inl (a.tmod b)) :: st) Q) : JX G y cc nL rt d kb kc S D pc ls (.inr (.inl b) :: .inr (.inl a) :: st) Q := by
  intro p l e9 R s m args below meth c H locs A QM C h1 h2 h3 h4 hS hl hA hK
  refine lv_lrem C.1 C.2.1 hd (fun z => by have z2 := Int64.toInt_inj.mpr z; rw [i64_t rb, Int64.toInt_zero] at z2; omega) ?_
  rw [jd_l ra rb h0, ← Int64.ofInt_mul, ← Int64.ofInt_sub, jd_m]
  exact K p l e9 R s m args below meth c H locs A QM C h1 h2 h3 h4 hS hl hA hK
def jxor (a b : Int) : Int := (Int64.ofInt a ^^^ Int64.ofInt b).toInt
theorem x_lxor {a b : Int} (hd : decode cc pc = .ok (.lxor, 1))  (K : JX G y cc nL rt d kb kc S D (pc + 1) ls (.inr (.inl (jxor a b)) :: st) Q) : JX G y cc nL rt d kb kc S D pc ls (.inr (.inl b) :: .inr (.inl a) :: st) Q := by
  intro p l e9 R s m args below meth c H locs A QM C h1 h2 h3 h4 hS hl hA hK
  refine lv_lxor C.1 C.2.1 hd ?_
  rw [show Int64.ofInt a ^^^ Int64.ofInt b = Int64.ofInt (jxor a b) from by rw [jxor, Int64.ofInt_toInt]]
  exact K p l e9 R s m args below meth c H locs A QM C h1 h2 h3 h4 hS hl hA hK
theorem x_iand31 {a : Int} (hd : decode cc pc = .ok (.iand, 1))  (K : JX G y cc nL rt d kb kc S D (pc + 1) ls (.inl (a % 32) :: st) Q) : JX G y cc nL rt d kb kc S D pc ls (.inl 31 :: .inl a :: st) Q := by
  intro p l e9 R s m args below meth c H locs A QM C h1 h2 h3 h4 hS hl hA hK
  refine lv_iand C.1 C.2.1 hd ?_
  have z : Int32.ofInt a &&& Int32.ofInt 31 = Int32.ofInt (a % 32) := by
    rw [pk_and _ 5 (by decide)]
    have h : (Int32.ofInt a).toBitVec = BitVec.ofInt 32 a := by first | rfl | exact Int32.toBitVec_ofInt a
    have w : ((Int32.ofInt a).toBitVec.toNat : Int) % 32 = a % 32 := by
      rw [h, BitVec.toNat_ofInt]
      have hz : (0 : Int) ≤ a % (2 ^ 32 : Nat) := Int.emod_nonneg _ (by decide)
      omega
    show Int32.ofNat _ = _
    rw [← Int32.ofInt_eq_ofNat]
    congr 1
  rw [z]
  exact K p l e9 R s m args below meth c H locs A QM C h1 h2 h3 h4 hS hl hA hK
theorem x_i2l {a : Int} (hd : decode cc pc = .ok (.i2l, 1)) (r : i32 a) (K : JX G y cc nL rt d kb kc S D (pc + 1) ls (.inr (.inl a) :: st) Q) : JX G y cc nL rt d kb kc S D pc ls (.inl a :: st) Q := by
  intro p l e9 R s m args below meth c H locs A QM C h1 h2 h3 h4 hS hl hA hK
  refine lv_i2l C.1 C.2.1 hd (v := Int64.ofInt a) ?_ ?_
  · rw [← Int64.toInt_inj, Int32.toInt_toInt64, i32_t r, i64_t ⟨by unfold i32 at r; omega, by unfold i32 at r; omega⟩]
  · exact K p l e9 R s m args below meth c H locs A QM C h1 h2 h3 h4 hS hl hA hK
theorem x_l2i {a : Int} (hd : decode cc pc = .ok (.l2i, 1))  (K : JX G y cc nL rt d kb kc S D (pc + 1) ls (.inl a :: st) Q) : JX G y cc nL rt d kb kc S D pc ls (.inr (.inl a) :: st) Q := by
  intro p l e9 R s m args below meth c H locs A QM C h1 h2 h3 h4 hS hl hA hK
  refine lv_l2i C.1 C.2.1 hd (v := Int32.ofInt a) ?_ ?_
  · first | exact Int64.toInt32_ofInt | exact Int64.toInt32_ofInt a | simp
  · exact K p l e9 R s m args below meth c H locs A QM C h1 h2 h3 h4 hS hl hA hK
theorem x_i2c {a : Int} (hd : decode cc pc = .ok (.i2c, 1))  (K : JX G y cc nL rt d kb kc S D (pc + 1) ls (.inl (a % 65536) :: st) Q) : JX G y cc nL rt d kb kc S D pc ls (.inl a :: st) Q := by
  intro p l e9 R s m args below meth c H locs A QM C h1 h2 h3 h4 hS hl hA hK
  refine lv_i2c C.1 C.2.1 hd (v := Int32.ofInt (a % 65536)) ?_ ?_
  · rw [pk_char]
    have w : ((Int32.ofInt a).toBitVec.toNat : Int) % 65536 = a % 65536 := by
      have h : (Int32.ofInt a).toBitVec = BitVec.ofInt 32 a := by first | rfl | exact Int32.toBitVec_ofInt a
      rw [h, BitVec.toNat_ofInt]
      have hz : (0 : Int) ≤ a % (2 ^ 32 : Nat) := Int.emod_nonneg _ (by decide)
      omega
    show Int32.ofNat _ = _
    rw [← Int32.ofInt_eq_ofNat]
    congr 1
  · exact K p l e9 R s m args below meth c H locs A QM C h1 h2 h3 h4 hS hl hA hK
def jcmp (a b : Int) : Int := if b < a then 1 else if a = b then 0 else -1
theorem x_lcmp {a b : Int} (hd : decode cc pc = .ok (.lcmp, 1)) (ra : i64 a) (rb : i64 b) (K : JX G y cc nL rt d kb kc S D (pc + 1) ls (.inl (jcmp a b) :: st) Q) : JX G y cc nL rt d kb kc S D pc ls (.inr (.inl b) :: .inr (.inl a) :: st) Q := by
  intro p l e9 R s m args below meth c H locs A QM C h1 h2 h3 h4 hS hl hA hK
  refine W.lcmp C.1 C.2.1 hd ?_
  have z : lg_cmp (Int64.ofInt a) (Int64.ofInt b) = Int32.ofInt (jcmp a b) := by
    have w1 : Int64.ofInt a > Int64.ofInt b ↔ b < a := by rw [gt_iff_lt, Int64.lt_iff_toInt_lt, i64_t ra, i64_t rb]
    have w2 : Int64.ofInt a = Int64.ofInt b ↔ a = b := by rw [← Int64.toInt_inj, i64_t ra, i64_t rb]
    unfold lg_cmp jcmp
    simp only [w1, w2]
    split
    · rfl
    · split <;> rfl
  rw [z]
  exact K p l e9 R s m args below meth c H locs A QM C h1 h2 h3 h4 hS hl hA hK
theorem x_dup {v : JV} (hd : decode cc pc = .ok (.dup, 1)) (hv : ∀ e, v ≠ .inr (.inl e)) (K : JX G y cc nL rt d kb kc S D (pc + 1) ls (v :: v :: st) Q) : JX G y cc nL rt d kb kc S D pc ls (v :: st) Q := by
  intro p l e9 R s m args below meth c H locs A QM C h1 h2 h3 h4 hS hl hA hK
  exact lv_dup C.1 C.2.1 hd (jv_c1 v hv) (K p l e9 R s m args below meth c H locs A QM C h1 h2 h3 h4 hS hl hA hK)
theorem x_dup2 {v w : JV} (hd : decode cc pc = .ok (.dup2, 1)) (hv : ∀ e, v ≠ .inr (.inl e)) (hw : ∀ e, w ≠ .inr (.inl e)) (K : JX G y cc nL rt d kb kc S D (pc + 1) ls (v :: w :: v :: w :: st) Q) : JX G y cc nL rt d kb kc S D pc ls (v :: w :: st) Q := by
  intro p l e9 R s m args below meth c H locs A QM C h1 h2 h3 h4 hS hl hA hK
  exact lv_dup2_11 C.1 C.2.1 hd (jv_c1 v hv) (jv_c1 w hw) (K p l e9 R s m args below meth c H locs A QM C h1 h2 h3 h4 hS hl hA hK)
theorem x_goto {off : Int} {tgt : Nat} (hd : decode cc pc = .ok (.goto off, 3)) (ht : (pc : Int) + off = (tgt : Int)) (K : JX G y cc nL rt d kb kc S D tgt ls st Q) : JX G y cc nL rt d kb kc S D pc ls st Q := by
  intro p l e9 R s m args below meth c H locs A QM C h1 h2 h3 h4 hS hl hA hK
  exact lv_goto C.1 C.2.1 hd ht (K p l e9 R s m args below meth c H locs A QM C h1 h2 h3 h4 hS hl hA hK)
theorem x_if_eq {e off : Int} {tgt : Nat} (hd : decode cc pc = .ok (.ifCond .eq off, 3)) (ht : (pc : Int) + off = (tgt : Int)) (r : i32 e) (Kt : e = 0 → JX G y cc nL rt d kb kc S D tgt ls st Q) (Kf : ¬ (e = 0) → JX G y cc nL rt d kb kc S D (pc + 3) ls st Q) : JX G y cc nL rt d kb kc S D pc ls (.inl e :: st) Q := by
  intro p l e9 R s m args below meth c H locs A QM C h1 h2 h3 h4 hS hl hA hK
  have w := i32_eq0 r
  exact lv_if_eq C.1 C.2.1 hd ht (fun q => Kt (w.mp q) p l e9 R s m args below meth c H locs A QM C h1 h2 h3 h4 hS hl hA hK) (fun q => Kf (fun z => q (w.mpr z)) p l e9 R s m args below meth c H locs A QM C h1 h2 h3 h4 hS hl hA hK)
theorem x_ic_eq {a b off : Int} {tgt : Nat} (hd : decode cc pc = .ok (.if_icmp .eq off, 3)) (ht : (pc : Int) + off = (tgt : Int)) (ra : i32 a) (rb : i32 b) (Kt : a = b → JX G y cc nL rt d kb kc S D tgt ls st Q) (Kf : ¬ (a = b) → JX G y cc nL rt d kb kc S D (pc + 3) ls st Q) : JX G y cc nL rt d kb kc S D pc ls (.inl b :: .inl a :: st) Q := by
  intro p l e9 R s m args below meth c H locs A QM C h1 h2 h3 h4 hS hl hA hK
  have w := i32_eq ra rb
  exact lv_icmp_eq C.1 C.2.1 hd ht (fun q => Kt (w.mp q) p l e9 R s m args below meth c H locs A QM C h1 h2 h3 h4 hS hl hA hK) (fun q => Kf (fun z => q (w.mpr z)) p l e9 R s m args below meth c H locs A QM C h1 h2 h3 h4 hS hl hA hK)
theorem x_if_ne {e off : Int} {tgt : Nat} (hd : decode cc pc = .ok (.ifCond .ne off, 3)) (ht : (pc : Int) + off = (tgt : Int)) (r : i32 e) (Kt : ¬ e = 0 → JX G y cc nL rt d kb kc S D tgt ls st Q) (Kf : ¬ (¬ e = 0) → JX G y cc nL rt d kb kc S D (pc + 3) ls st Q) : JX G y cc nL rt d kb kc S D pc ls (.inl e :: st) Q := by
  intro p l e9 R s m args below meth c H locs A QM C h1 h2 h3 h4 hS hl hA hK
  have w := not_congr (i32_eq0 r)
  exact lv_if_ne C.1 C.2.1 hd ht (fun q => Kt (w.mp q) p l e9 R s m args below meth c H locs A QM C h1 h2 h3 h4 hS hl hA hK) (fun q => Kf (fun z => (w.mpr z) q) p l e9 R s m args below meth c H locs A QM C h1 h2 h3 h4 hS hl hA hK)
theorem x_ic_ne {a b off : Int} {tgt : Nat} (hd : decode cc pc = .ok (.if_icmp .ne off, 3)) (ht : (pc : Int) + off = (tgt : Int)) (ra : i32 a) (rb : i32 b) (Kt : ¬ a = b → JX G y cc nL rt d kb kc S D tgt ls st Q) (Kf : ¬ (¬ a = b) → JX G y cc nL rt d kb kc S D (pc + 3) ls st Q) : JX G y cc nL rt d kb kc S D pc ls (.inl b :: .inl a :: st) Q := by
  intro p l e9 R s m args below meth c H locs A QM C h1 h2 h3 h4 hS hl hA hK
  have w := not_congr (i32_eq ra rb)
  exact lv_icmp_ne C.1 C.2.1 hd ht (fun q => Kt (w.mp q) p l e9 R s m args below meth c H locs A QM C h1 h2 h3 h4 hS hl hA hK) (fun q => Kf (fun z => (w.mpr z) q) p l e9 R s m args below meth c H locs A QM C h1 h2 h3 h4 hS hl hA hK)
theorem x_if_lt {e off : Int} {tgt : Nat} (hd : decode cc pc = .ok (.ifCond .lt off, 3)) (ht : (pc : Int) + off = (tgt : Int)) (r : i32 e) (Kt : e < 0 → JX G y cc nL rt d kb kc S D tgt ls st Q) (Kf : ¬ (e < 0) → JX G y cc nL rt d kb kc S D (pc + 3) ls st Q) : JX G y cc nL rt d kb kc S D pc ls (.inl e :: st) Q := by
  intro p l e9 R s m args below meth c H locs A QM C h1 h2 h3 h4 hS hl hA hK
  have w := i32_lt0 r
  exact lv_if_lt C.1 C.2.1 hd ht (fun q => Kt (w.mp q) p l e9 R s m args below meth c H locs A QM C h1 h2 h3 h4 hS hl hA hK) (fun q => Kf (fun z => q (w.mpr z)) p l e9 R s m args below meth c H locs A QM C h1 h2 h3 h4 hS hl hA hK)
theorem x_ic_lt {a b off : Int} {tgt : Nat} (hd : decode cc pc = .ok (.if_icmp .lt off, 3)) (ht : (pc : Int) + off = (tgt : Int)) (ra : i32 a) (rb : i32 b) (Kt : a < b → JX G y cc nL rt d kb kc S D tgt ls st Q) (Kf : ¬ (a < b) → JX G y cc nL rt d kb kc S D (pc + 3) ls st Q) : JX G y cc nL rt d kb kc S D pc ls (.inl b :: .inl a :: st) Q := by
  intro p l e9 R s m args below meth c H locs A QM C h1 h2 h3 h4 hS hl hA hK
  have w := i32_lt ra rb
  exact lv_icmp_lt C.1 C.2.1 hd ht (fun q => Kt (w.mp q) p l e9 R s m args below meth c H locs A QM C h1 h2 h3 h4 hS hl hA hK) (fun q => Kf (fun z => q (w.mpr z)) p l e9 R s m args below meth c H locs A QM C h1 h2 h3 h4 hS hl hA hK)
theorem x_if_ge {e off : Int} {tgt : Nat} (hd : decode cc pc = .ok (.ifCond .ge off, 3)) (ht : (pc : Int) + off = (tgt : Int)) (r : i32 e) (Kt : 0 ≤ e → JX G y cc nL rt d kb kc S D tgt ls st Q) (Kf : ¬ (0 ≤ e) → JX G y cc nL rt d kb kc S D (pc + 3) ls st Q) : JX G y cc nL rt d kb kc S D pc ls (.inl e :: st) Q := by
  intro p l e9 R s m args below meth c H locs A QM C h1 h2 h3 h4 hS hl hA hK
  have w := i32_ge0 r
  exact lv_if_ge C.1 C.2.1 hd ht (fun q => Kt (w.mp q) p l e9 R s m args below meth c H locs A QM C h1 h2 h3 h4 hS hl hA hK) (fun q => Kf (fun z => q (w.mpr z)) p l e9 R s m args below meth c H locs A QM C h1 h2 h3 h4 hS hl hA hK)
theorem x_ic_ge {a b off : Int} {tgt : Nat} (hd : decode cc pc = .ok (.if_icmp .ge off, 3)) (ht : (pc : Int) + off = (tgt : Int)) (ra : i32 a) (rb : i32 b) (Kt : b ≤ a → JX G y cc nL rt d kb kc S D tgt ls st Q) (Kf : ¬ (b ≤ a) → JX G y cc nL rt d kb kc S D (pc + 3) ls st Q) : JX G y cc nL rt d kb kc S D pc ls (.inl b :: .inl a :: st) Q := by
  intro p l e9 R s m args below meth c H locs A QM C h1 h2 h3 h4 hS hl hA hK
  have w := i32_le rb ra
  exact lv_icmp_ge C.1 C.2.1 hd ht (fun q => Kt (w.mp q) p l e9 R s m args below meth c H locs A QM C h1 h2 h3 h4 hS hl hA hK) (fun q => Kf (fun z => q (w.mpr z)) p l e9 R s m args below meth c H locs A QM C h1 h2 h3 h4 hS hl hA hK)
theorem x_if_gt {e off : Int} {tgt : Nat} (hd : decode cc pc = .ok (.ifCond .gt off, 3)) (ht : (pc : Int) + off = (tgt : Int)) (r : i32 e) (Kt : 0 < e → JX G y cc nL rt d kb kc S D tgt ls st Q) (Kf : ¬ (0 < e) → JX G y cc nL rt d kb kc S D (pc + 3) ls st Q) : JX G y cc nL rt d kb kc S D pc ls (.inl e :: st) Q := by
  intro p l e9 R s m args below meth c H locs A QM C h1 h2 h3 h4 hS hl hA hK
  have w := i32_gt0 r
  exact lv_if_gt C.1 C.2.1 hd ht (fun q => Kt (w.mp q) p l e9 R s m args below meth c H locs A QM C h1 h2 h3 h4 hS hl hA hK) (fun q => Kf (fun z => q (w.mpr z)) p l e9 R s m args below meth c H locs A QM C h1 h2 h3 h4 hS hl hA hK)
theorem x_ic_gt {a b off : Int} {tgt : Nat} (hd : decode cc pc = .ok (.if_icmp .gt off, 3)) (ht : (pc : Int) + off = (tgt : Int)) (ra : i32 a) (rb : i32 b) (Kt : b < a → JX G y cc nL rt d kb kc S D tgt ls st Q) (Kf : ¬ (b < a) → JX G y cc nL rt d kb kc S D (pc + 3) ls st Q) : JX G y cc nL rt d kb kc S D pc ls (.inl b :: .inl a :: st) Q := by
  intro p l e9 R s m args below meth c H locs A QM C h1 h2 h3 h4 hS hl hA hK
  have w := i32_lt rb ra
  exact lv_icmp_gt C.1 C.2.1 hd ht (fun q => Kt (w.mp q) p l e9 R s m args below meth c H locs A QM C h1 h2 h3 h4 hS hl hA hK) (fun q => Kf (fun z => q (w.mpr z)) p l e9 R s m args below meth c H locs A QM C h1 h2 h3 h4 hS hl hA hK)
theorem x_if_le {e off : Int} {tgt : Nat} (hd : decode cc pc = .ok (.ifCond .le off, 3)) (ht : (pc : Int) + off = (tgt : Int)) (r : i32 e) (Kt : e ≤ 0 → JX G y cc nL rt d kb kc S D tgt ls st Q) (Kf : ¬ (e ≤ 0) → JX G y cc nL rt d kb kc S D (pc + 3) ls st Q) : JX G y cc nL rt d kb kc S D pc ls (.inl e :: st) Q := by
  intro p l e9 R s m args below meth c H locs A QM C h1 h2 h3 h4 hS hl hA hK
  have w := i32_le0 r
  exact lv_if_le C.1 C.2.1 hd ht (fun q => Kt (w.mp q) p l e9 R s m args below meth c H locs A QM C h1 h2 h3 h4 hS hl hA hK) (fun q => Kf (fun z => q (w.mpr z)) p l e9 R s m args below meth c H locs A QM C h1 h2 h3 h4 hS hl hA hK)
theorem x_ic_le {a b off : Int} {tgt : Nat} (hd : decode cc pc = .ok (.if_icmp .le off, 3)) (ht : (pc : Int) + off = (tgt : Int)) (ra : i32 a) (rb : i32 b) (Kt : a ≤ b → JX G y cc nL rt d kb kc S D tgt ls st Q) (Kf : ¬ (a ≤ b) → JX G y cc nL rt d kb kc S D (pc + 3) ls st Q) : JX G y cc nL rt d kb kc S D pc ls (.inl b :: .inl a :: st) Q := by
  intro p l e9 R s m args below meth c H locs A QM C h1 h2 h3 h4 hS hl hA hK
  have w := i32_le ra rb
  exact lv_icmp_le C.1 C.2.1 hd ht (fun q => Kt (w.mp q) p l e9 R s m args below meth c H locs A QM C h1 h2 h3 h4 hS hl hA hK) (fun q => Kf (fun z => q (w.mpr z)) p l e9 R s m args below meth c H locs A QM C h1 h2 h3 h4 hS hl hA hK)
theorem x_ifnull {off : Int} {tgt : Nat} {r : Option Int} (hd : decode cc pc = .ok (.ifnull off, 3)) (ht : (pc : Int) + off = (tgt : Int)) (Kt : r = none → JX G y cc nL rt d kb kc S D tgt ls st Q) (Kf : ¬ r = none → JX G y cc nL rt d kb kc S D (pc + 3) ls st Q) : JX G y cc nL rt d kb kc S D pc ls (.inr (.inr r) :: st) Q := by
  intro p l e9 R s m args below meth c H locs A QM C h1 h2 h3 h4 hS hl hA hK
  cases r with
  | none => exact lv_ifnullN C.1 C.2.1 hd ht (Kt rfl p l e9 R s m args below meth c H locs A QM C h1 h2 h3 h4 hS hl hA hK)
  | some a => exact lv_ifnull C.1 C.2.1 hd (Kf (fun z => by cases z) p l e9 R s m args below meth c H locs A QM C h1 h2 h3 h4 hS hl hA hK)
theorem x_ifnonnull {off : Int} {tgt : Nat} {r : Option Int} (hd : decode cc pc = .ok (.ifnonnull off, 3)) (ht : (pc : Int) + off = (tgt : Int)) (Kt : ¬ r = none → JX G y cc nL rt d kb kc S D tgt ls st Q) (Kf : r = none → JX G y cc nL rt d kb kc S D (pc + 3) ls st Q) : JX G y cc nL rt d kb kc S D pc ls (.inr (.inr r) :: st) Q := by
  intro p l e9 R s m args below meth c H locs A QM C h1 h2 h3 h4 hS hl hA hK
  cases r with
  | none => exact lv_ifnonnullN C.1 C.2.1 hd (Kf rfl p l e9 R s m args below meth c H locs A QM C h1 h2 h3 h4 hS hl hA hK)
  | some a => exact lv_ifnonnull C.1 C.2.1 hd ht (Kt (fun z => by cases z) p l e9 R s m args below meth c H locs A QM C h1 h2 h3 h4 hS hl hA hK)
/-- a switch: the place behind the offset, or the default -/
theorem x_switch {dflt lo hi e : Int} {offs : Array Int} {len tgt : Nat} (hd : decode cc pc = .ok (.tableswitch dflt lo hi offs, len)) (r : i32 e) (ht : (pc : Int) + (if e < lo ∨ hi < e then dflt else offs.getD (e - lo).toNat 0) = (tgt : Int)) (hz : hi < lo + offs.size) (K : JX G y cc nL rt d kb kc S D tgt ls st Q) : JX G y cc nL rt d kb kc S D pc ls (.inl e :: st) Q := by
  intro p l e9 R s m args below meth c H locs A QM C h1 h2 h3 h4 hS hl hA hK
  by_cases q : e < lo ∨ hi < e
  · rw [if_pos q] at ht
    exact lv_tableOut C.1 C.2.1 hd (by rw [i32_t r]; exact q) ht (K p l e9 R s m args below meth c H locs A QM C h1 h2 h3 h4 hS hl hA hK)
  · rw [if_neg q] at ht
    have q1 : (e - lo).toNat < offs.size := by omega
    exact lv_tableIn C.1 C.2.1 hd (off := offs.getD (e - lo).toNat 0) (by rw [i32_t r]; omega) (by rw [i32_t r]; omega) (by rw [i32_t r]; simp [Array.getD, q1]) ht (K p l e9 R s m args below meth c H locs A QM C h1 h2 h3 h4 hS hl hA hK)
theorem x_ireturn {e : Int} {ty : FieldType} (hd : decode cc pc = .ok (.ireturn, 1)) (hr : rt = some ty) (hn : narrow ty (.int (Int32.ofInt e)) = .int (Int32.ofInt e)) (hk : kc.1 ≤ kb.1 ∧ kc.2 ≤ kb.2) (K : Q (some (.inl e)) S D) : JX G y cc nL rt d kb kc S D pc ls [.inl e] Q := by
  intro p l e9 R s m args below meth c H locs A QM C h1 h2 h3 h4 hS hl hA hK
  exact W.widen hk.1 hk.2 (hK _ S D H locs pc A _ K hS hl (Or.inl ⟨hd, e, ty, rfl, rfl, hr, hn⟩))
theorem x_lreturn {e : Int} (hd : decode cc pc = .ok (.lreturn, 1)) (hr : rt = some .long) (hk : kc.1 ≤ kb.1 ∧ kc.2 ≤ kb.2) (K : Q (some (.inr (.inl e))) S D) : JX G y cc nL rt d kb kc S D pc ls [.inr (.inl e)] Q := by
  intro p l e9 R s m args below meth c H locs A QM C h1 h2 h3 h4 hS hl hA hK
  exact W.widen hk.1 hk.2 (hK _ S D H locs pc A _ K hS hl (Or.inr (Or.inl ⟨hd, e, rfl, rfl, hr⟩)))
theorem x_areturn {r : Option Int} {ty : FieldType} (hd : decode cc pc = .ok (.areturn, 1)) (hr : rt = some ty) (ht : (∃ n, ty = .object n) ∨ ∃ t, ty = .array t) (hk : kc.1 ≤ kb.1 ∧ kc.2 ≤ kb.2) (K : Q (some (.inr (.inr r))) S D) : JX G y cc nL rt d kb kc S D pc ls [.inr (.inr r)] Q := by
  intro p l e9 R s m args below meth c H locs A QM C h1 h2 h3 h4 hS hl hA hK
  exact W.widen hk.1 hk.2 (hK _ S D H locs pc A _ K hS hl (Or.inr (Or.inr (Or.inl ⟨hd, r, ty, rfl, rfl, hr, ht⟩))))
theorem x_return (hd : decode cc pc = .ok (.return_, 1)) (hr : rt = none) (hk : kc.1 ≤ kb.1 ∧ kc.2 ≤ kb.2) (K : Q none S D) : JX G y cc nL rt d kb kc S D pc ls [] Q := by
  intro p l e9 R s m args below meth c H locs A QM C h1 h2 h3 h4 hS hl hA hK
  exact W.widen hk.1 hk.2 (hK _ S D H locs pc A _ K hS hl (Or.inr (Or.inr (Or.inr ⟨hd, rfl, rfl, hr⟩))))
end JROWS
