/-! ROWS of the heap: arrays, the script, what the JDK does itself -/
theorem jN_of {n : Int} (h : 0 ≤ n) : (n.toNat : Int) = n := Int.toNat_of_nonneg h
theorem jO_of {n : Int} (h : 0 ≤ n) : Int32.ofNat n.toNat = Int32.ofInt n := by rw [← Int32.ofInt_eq_ofNat, jN_of h]
theorem jchar {v : Int} (h0 : 0 ≤ v) (h1 : v < 65536) : narrow .char (.int (Int32.ofInt v)) = .int (Int32.ofInt v) ∧ fits .char (.int (Int32.ofInt v)) = true := by
  have h := pk_charN (q := v.toNat) (by omega)
  have e : nI v.toNat = Int32.ofInt v := jO_of h0
  rw [e] at h
  exact h
theorem jbool {v : Int} (h : v = 0 ∨ v = 1) : narrow .boolean (.int (Int32.ofInt v)) = .int (Int32.ofInt v) ∧ fits .boolean (.int (Int32.ofInt v)) = true := by
  rcases h with rfl | rfl <;> exact ⟨by decide, by decide⟩
theorem jok_i {ty : FieldType} (e : Int) (h : ty = .int) : jok ty (.inl e) := by subst h; exact ⟨rfl, rfl⟩
theorem jok_l {ty : FieldType} (e : Int) (h : ty = .long) : jok ty (.inr (.inl e)) := by subst h; exact ⟨rfl, rfl⟩
theorem jok_z {ty : FieldType} {e : Int} (h : ty = .boolean) (he : e = 0 ∨ e = 1) : jok ty (.inl e) := by subst h; exact jbool he
theorem jok_c {ty : FieldType} {e : Int} (h : ty = .char) (h0 : 0 ≤ e) (h1 : e < 65536) : jok ty (.inl e) := by subst h; exact jchar h0 h1
theorem jok_o {ty : FieldType} {n : String} (r : Option Int) (h : ty = .object n) : jok ty (.inr (.inr r)) := by subst h; cases r <;> exact ⟨rfl, rfl⟩
theorem jok_a {ty t : FieldType} (r : Option Int) (h : ty = .array t) : jok ty (.inr (.inr r)) := by subst h; cases r <;> exact ⟨rfl, rfl⟩
/-- a stretch is copied -/
def jcp (D : JD) (a0 sp a dp n : Int) : JD := fun x z => if x = a ∧ dp ≤ z ∧ z < dp + n then D a0 (sp + (z - dp)) else D x z
section JARR
variable {G : JG} {y : MethodName} {cc : ByteArray} {nL : Nat} {rt : Option FieldType} {d : Nat} {kb kc : Nat × Nat} {S : JS} {D : JD} {pc : Nat} {ls : List (Option JV)} {st : List JV} {Q : Option JV → JS → JD → Prop}
theorem x_alen {a : Int} {c : Nat} (hd : decode cc pc = .ok (.arraylength, 1)) (h9 : 9 ≤ c ∧ c < 16) (hK : jK S a = c) (K : JX G y cc nL rt d kb kc S D (pc + 1) ls (.inl (jL S a) :: st) Q) : JX G y cc nL rt d kb kc S D pc ls (.inr (.inr (some a)) :: st) Q := by
  intro p l e9 R s m args below meth c9 H locs A QM C9 h1 h2 h3 h4 hS hl hA hK9
  obtain ⟨t1, t2, t3, t4, t5⟩ := hS.2.2.2.2 a c hK h9.1 h9.2
  have hAr := (C9.2.2.2.2.2.1.2.1 c h9.1 h9.2).1 (jL S a).toNat (fun j => jfv (jat c) (D a (j : Int)) (jR S a (j : Int)))
  refine W.alen (n := Int32.ofInt (jL S a)) C9.1 C9.2.1 t5 hAr ?_ rfl rfl hd (K p l e9 R s m args below meth c9 H locs A QM C9 h1 h2 h3 h4 hS hl hA hK9)
  rw [arrV_size]
  exact jO_of t3
theorem x_iald {a e : Int} (hd : decode cc pc = .ok (.iaload, 1)) (hK : jK S a = 9) (he : 0 ≤ e ∧ e < jL S a) (K : JX G y cc nL rt d kb kc S D (pc + 1) ls (.inl (D a e) :: st) Q) : JX G y cc nL rt d kb kc S D pc ls (.inl e :: .inr (.inr (some a)) :: st) Q := by
  intro p l e9 R s m args below meth c9 H locs A QM C9 h1 h2 h3 h4 hS hl hA hK9
  obtain ⟨t1, t2, t3, t4, t5⟩ := hS.2.2.2.2 a 9 hK (by decide) (by decide)
  have hAr := (C9.2.2.2.2.2.1.2.1 9 (by decide) (by decide)).1 (jL S a).toNat (fun j => jfv (jat 9) (D a (j : Int)) (jR S a (j : Int)))
  refine W.iald (j := Int32.ofInt e) (v := .int (Int32.ofInt (D a e))) C9.1 C9.2.1 t5 hAr (fun q => by cases q) (by rw [arrV_size]; exact i32_in he.1 he.2 t4) ?_ rfl rfl hd (K p l e9 R s m args below meth c9 H locs A QM C9 h1 h2 h3 h4 hS hl hA hK9)
  rw [i32_nn he.1 (by omega), arrV_read _ _ (by omega)]
  show some (Value.int (Int32.ofInt (D a (e.toNat : Int)))) = _
  rw [jN_of he.1]
theorem x_cald {a e : Int} (hd : decode cc pc = .ok (.caload, 1)) (hK : jK S a = 10) (he : 0 ≤ e ∧ e < jL S a) (K : JX G y cc nL rt d kb kc S D (pc + 1) ls (.inl (D a e) :: st) Q) : JX G y cc nL rt d kb kc S D pc ls (.inl e :: .inr (.inr (some a)) :: st) Q := by
  intro p l e9 R s m args below meth c9 H locs A QM C9 h1 h2 h3 h4 hS hl hA hK9
  obtain ⟨t1, t2, t3, t4, t5⟩ := hS.2.2.2.2 a 10 hK (by decide) (by decide)
  have hAr := (C9.2.2.2.2.2.1.2.1 10 (by decide) (by decide)).1 (jL S a).toNat (fun j => jfv (jat 10) (D a (j : Int)) (jR S a (j : Int)))
  refine W.cald (j := Int32.ofInt e) (v := .int (Int32.ofInt (D a e))) C9.1 C9.2.1 t5 hAr (fun q => by cases q) (by rw [arrV_size]; exact i32_in he.1 he.2 t4) ?_ rfl rfl hd (K p l e9 R s m args below meth c9 H locs A QM C9 h1 h2 h3 h4 hS hl hA hK9)
  rw [i32_nn he.1 (by omega), arrV_read _ _ (by omega)]
  show some (Value.int (Int32.ofInt (D a (e.toNat : Int)))) = _
  rw [jN_of he.1]
theorem x_aald {a e : Int} {c : Nat} {Cn : String} (hd : decode cc pc = .ok (.aaload, 1)) (h9 : 9 ≤ c ∧ c < 16) (ht : jat c = .object Cn) (hK : jK S a = c) (he : 0 ≤ e ∧ e < jL S a) (K : JX G y cc nL rt d kb kc S D (pc + 1) ls (.inr (.inr (jR S a e)) :: st) Q) : JX G y cc nL rt d kb kc S D pc ls (.inl e :: .inr (.inr (some a)) :: st) Q := by
  intro p l e9 R s m args below meth c9 H locs A QM C9 h1 h2 h3 h4 hS hl hA hK9
  obtain ⟨t1, t2, t3, t4, t5⟩ := hS.2.2.2.2 a c hK h9.1 h9.2
  have hAr := (C9.2.2.2.2.2.1.2.1 c h9.1 h9.2).1 (jL S a).toNat (fun j => jfv (jat c) (D a (j : Int)) (jR S a (j : Int)))
  refine W.aald (j := Int32.ofInt e) (v := jv (.inr (.inr (jR S a e)))) (ty := .object Cn) C9.1 C9.2.1 t5 (by rw [← ht]; exact hAr) rfl (fun q => by cases q) (by rw [arrV_size]; exact i32_in he.1 he.2 t4) ?_ rfl rfl hd (K p l e9 R s m args below meth c9 H locs A QM C9 h1 h2 h3 h4 hS hl hA hK9)
  rw [i32_nn he.1 (by omega), arrV_read _ _ (by omega), ht]
  show some (va_rf ((jR S a (e.toNat : Int)).map Int.toNat)) = _
  rw [jN_of he.1]
  rfl
theorem jAr_set {G : JG} {S : JS} {D : JD} {H' : Heap} {a e v : Int} {c : Nat} (h : H'[a.toNat]? = some ((arrV (gA G c) (jL S a).toNat (fun j => jfv (jat c) (D a (j : Int)) (jR S a (j : Int)))).setSlot e.toNat (.int (Int32.ofInt v)))) (he : 0 ≤ e) (ht : jat c = .int ∨ jat c = .char ∨ jat c = .boolean) : jAr G S (jup D a e v) H' a c := by
  unfold jAr
  rw [h, arrV_store]
  congr 2
  funext j
  by_cases q : j = e.toNat
  · subst q
    simp only [updV, if_true]
    rw [jN_of he, jup_eq, jfv_i _ _ _ ht]
  · have q2 : (j : Int) ≠ e := by omega
    simp only [updV, if_neg q, jup_nk q2]
theorem jup_set {D : JD} {a e v x z : Int} (h : x ≠ a) : jup D a e v x z = D x z := jup_ne h
theorem x_iast {a e v : Int} (hd : decode cc pc = .ok (.iastore, 1)) (hK : jK S a = 9) (he : 0 ≤ e ∧ e < jL S a) (K : JX G y cc nL rt d kb kc S (jup D a e v) (pc + 1) ls st Q) : JX G y cc nL rt d kb kc S D pc ls (.inl v :: .inl e :: .inr (.inr (some a)) :: st) Q := by
  intro p l e9 R s m args below meth c9 H locs A QM C9 h1 h2 h3 h4 hS hl hA hK9
  obtain ⟨t1, t2, t3, t4, t5⟩ := hS.2.2.2.2 a 9 hK (by decide) (by decide)
  have hAr := (C9.2.2.2.2.2.1.2.1 9 (by decide) (by decide)).1 (jL S a).toNat (fun j => jfv (jat 9) (D a (j : Int)) (jR S a (j : Int)))
  refine W.iast (j := Int32.ofInt e) (x := Int32.ofInt v) C9.1 C9.2.1 t5 hAr (fun q => by cases q) (by rw [arrV_size]; exact i32_in he.1 he.2 t4) rfl rfl hd fun H1 e1 z1 o1 => ?_
  rw [i32_nn he.1 (by omega)] at e1
  refine K p l e9 R s m args below meth c9 H1 _ A QM C9 h1 h2 h3 h4 (hS.set rfl rfl rfl t1 (fun x z hx => ⟨jup_ne hx, rfl⟩) z1 o1 (fun c' hc' h => by omega) (fun c' hc' _ _ => ?_)) ?_ hA hK9
  · have : 9 = c' := hK.symm.trans hc'
    subst this
    exact jAr_set e1 he.1 (Or.inl rfl)
  · intro q hq
    rcases List.mem_append.mp hq with h | h
    · exact hl q h
    · rw [List.mem_singleton.mp h]
      show (gB G).size ≤ a.toNat
      omega
theorem x_cast {a e v : Int} (hd : decode cc pc = .ok (.castore, 1)) (hK : jK S a = 10) (he : 0 ≤ e ∧ e < jL S a) (hv : 0 ≤ v ∧ v < 65536) (K : JX G y cc nL rt d kb kc S (jup D a e v) (pc + 1) ls st Q) : JX G y cc nL rt d kb kc S D pc ls (.inl v :: .inl e :: .inr (.inr (some a)) :: st) Q := by
  intro p l e9 R s m args below meth c9 H locs A QM C9 h1 h2 h3 h4 hS hl hA hK9
  obtain ⟨t1, t2, t3, t4, t5⟩ := hS.2.2.2.2 a 10 hK (by decide) (by decide)
  have hAr := (C9.2.2.2.2.2.1.2.1 10 (by decide) (by decide)).1 (jL S a).toNat (fun j => jfv (jat 10) (D a (j : Int)) (jR S a (j : Int)))
  refine W.cast (j := Int32.ofInt e) (x := Int32.ofInt v) C9.1 C9.2.1 t5 hAr (fun q => by cases q) (by rw [arrV_size]; exact i32_in he.1 he.2 t4) rfl rfl hd fun H1 e1 z1 o1 => ?_
  rw [i32_nn he.1 (by omega), (jchar hv.1 hv.2).1] at e1
  refine K p l e9 R s m args below meth c9 H1 _ A QM C9 h1 h2 h3 h4 (hS.set rfl rfl rfl t1 (fun x z hx => ⟨jup_ne hx, rfl⟩) z1 o1 (fun c' hc' h => by omega) (fun c' hc' _ _ => ?_)) ?_ hA hK9
  · have : 10 = c' := hK.symm.trans hc'
    subst this
    exact jAr_set e1 he.1 (Or.inr (Or.inl rfl))
  · intro q hq
    rcases List.mem_append.mp hq with h | h
    · exact hl q h
    · rw [List.mem_singleton.mp h]
      show (gB G).size ≤ a.toNat
      omega
/-- a reference to an object of kind k goes into an array of its class -/
theorem x_aast {a e v : Int} {c k N : Nat} {Cn : String} {T : u_T} (hd : decode cc pc = .ok (.aastore, 1)) (h9 : 9 ≤ c ∧ c < 16) (ht : jat c = .object Cn) (hc : jcl[k]? = some (Cn, T, N)) (h8 : k < 9) (hK : jK S a = c) (hv : jK S v = k) (he : 0 ≤ e ∧ e < jL S a) (K : JX G y cc nL rt d kb kc (jur S a e (some v)) D (pc + 1) ls st Q) : JX G y cc nL rt d kb kc S D pc ls (.inr (.inr (some v)) :: .inl e :: .inr (.inr (some a)) :: st) Q := by
  intro p l e9 R s m args below meth c9 H locs A QM C9 h1 h2 h3 h4 hS hl hA hK9
  obtain ⟨t1, t2, t3, t4, t5⟩ := hS.2.2.2.2 a c hK h9.1 h9.2
  obtain ⟨u1, u2, r', hr', cellV, g1, g2, g3, -⟩ := hS.2.2.2.1 v k hv h8
  have hcls := (C9.2.2.2.2.2.1.1 k _ hc).2
  have hRA := (C9.2.2.2.2.2.1.2.1 c h9.1 h9.2).2
  rw [ht] at hRA
  obtain ⟨kA, comp, k1, k2, k3, -⟩ := hRA
  have hcomp : comp = (gD G).1 k := Option.some.inj (k3.symm.trans hcls.1)
  subst hcomp
  obtain ⟨kC, hkC, -⟩ := hcls.2
  have hin := i32_in he.1 he.2 t4
  have hlt : (Int32.ofInt e).toNatClampNeg < (jL S a).toNat := Nat.not_le.mp fun q => hin (Or.inr q)
  have h0 : ¬ Int32.ofInt e < 0 := fun q => hin (Or.inl q)
  refine W.aast C9.1 C9.2.1 (j := Int32.ofInt e) t5 (fun q h => by cases h) (fun h => by cases h) k1 k2 rfl hkC ⟨h0, by rw [arrV_size]; exact hlt⟩ g1 (fun q h => by rw [g3] at h; cases h) (by rw [g2]; exact hkC) (by rw [g2]; exact va_assign hcls) rfl rfl hd fun H1 e1 z1 o1 => ?_
  rw [i32_nn he.1 (by omega)] at e1
  refine K p l e9 R s m args below meth c9 H1 _ A QM C9 h1 h2 h3 h4 (hS.set rfl rfl rfl t1 (fun x z hx => ⟨rfl, by simp [jR, jur, hx]⟩) z1 o1 (fun c' hc' h => by omega) (fun c' hc' _ _ => ?_)) ?_ hA hK9
  · have : c = c' := hK.symm.trans hc'
    subst this
    unfold jAr
    rw [e1, arrV_store]
    congr 2
    funext j
    rw [ht]
    by_cases q : j = e.toNat
    · subst q
      simp only [updV, if_true]
      show Value.ref v.toNat = va_rf ((jR (jur S a e (some v)) a (e.toNat : Int)).map Int.toNat)
      rw [jN_of he.1]
      simp [jR, jur, va_rf]
    · have q2 : (j : Int) ≠ e := by omega
      simp only [updV, if_neg q]
      show va_rf _ = va_rf _
      simp [jR, jur, q2]
  · intro q hq
    rcases List.mem_append.mp hq with h | h
    · exact hl q h
    · rw [List.mem_singleton.mp h]
      show (gB G).size ≤ a.toNat
      omega
theorem x_newarr {c : Nat} {n : Int} {atype : ArrayType} (hd : decode cc pc = .ok (.newarray atype, 2)) (h9 : 9 ≤ c ∧ c < 12) (ht : newarray.typeOf atype = jat c) (hw : Cond.arrayClass (newarray.typeOf atype) ∈ WG) (hn : 0 ≤ n ∧ n < 2147483648) (hb : n.toNat * componentBytes (newarray.typeOf atype) ≤ 536870912) (hk : kc.1 + 1 ≤ kb.1 ∧ kc.2 + n.toNat ≤ kb.2)
    (K : JX G y cc nL rt d kb (kc.1 + 1, kc.2 + n.toNat) (jnw S c n) (jnd S D) (pc + 2) ls (.inr (.inr (some S.1)) :: st) Q) : JX G y cc nL rt d kb kc S D pc ls (.inl n :: st) Q := by
  intro p l e9 R s m args below meth c9 H locs A QM C9 h1 h2 h3 h4 hS hl hA hK9
  have hts := C9.2.2.2.2.1
  have hz : (H.size : Int) = S.1 := hS.1
  refine va_newaK C9.1 C9.2.1 (hts _ hw) rfl hd (n := Int32.ofInt n) rfl (fun q => absurd ((i32_lt0 ⟨by omega, by omega⟩).mp q) (by omega)) (i32_nn hn.1 hn.2) hb (by omega) (by omega) rfl fun H1 cA e1 z1 o1 _ hNm => ?_
  have hcA : cA = gA G c := by
    have h2 := (C9.2.2.2.2.2.1.2.1 c h9.1 (by omega)).2
    rw [← ht] at h2
    have h3 : s.vm.findClass ("[" ++ (newarray.typeOf atype).toString) = some (gA G c) := by cases atype <;> exact h2
    exact Option.some.inj (hNm.symm.trans h3)
  subst hcA
  have hS1 : JSim G (jnw S c n) (jnd S D) H1 := by
    refine hS.new z1 o1 hn (fun h => by omega) (fun _ _ => ?_)
    have e : S.1.toNat = H.size := by omega
    unfold jAr
    rw [e, e1]
    have el : jL (jnw S c n) S.1 = n := by simp [jL, jnw]
    rw [el, ht]
    congr 2
    funext j
    have z1 : jnd S D S.1 (j : Int) = 0 := by simp [jnd]
    have z2 : jR (jnw S c n) S.1 (j : Int) = none := by simp [jR, jnw]
    rw [z1, z2]
    rcases (show c = 9 ∨ c = 10 ∨ c = 11 by omega) with rfl | rfl | rfl <;> rfl
  have hst : (Value.ref H.size :: st.map jv) = ((.inr (.inr (some S.1)) :: st : List JV).map jv) := by
    show _ = jv (.inr (.inr (some S.1))) :: st.map jv
    rw [jv_r, show S.1.toNat = H.size from by omega]
  have K1 := K p l e9 R s m args below meth c9 H1 locs A QM C9 h1 h2 h3 h4 hS1 hl hA hK9
  rw [← hst] at K1
  exact K1
theorem x_anew {c index : Nat} {n : Int} {Cn : String} (hd : decode cc pc = .ok (.anewarray index, 3)) (h9 : 9 ≤ c ∧ c < 16) (ht : jat c = .object Cn) (hcl : Cond.classLink y.cls index Cn ∈ WG) (hao : Cn ∈ [RX6, RX1, RX0, RX2]) (hn : 0 ≤ n ∧ n < 1000000) (hk : kc.1 + 1 ≤ kb.1 ∧ kc.2 + n.toNat ≤ kb.2)
    (K : JX G y cc nL rt d kb (kc.1 + 1, kc.2 + n.toNat) (jnw S c n) (jnd S D) (pc + 3) ls (.inr (.inr (some S.1)) :: st) Q) : JX G y cc nL rt d kb kc S D pc ls (.inl n :: st) Q := by
  intro p l e9 R s m args below meth c9 H locs A QM C9 h1 h2 h3 h4 hS hl hA hK9
  have hts := C9.2.2.2.2.1
  have hz : (H.size : Int) = S.1 := hS.1
  have en := i32_nn hn.1 (show n < 2147483648 by omega)
  refine W.anew (n := Int32.ofInt n) C9.1 C9.2.1 C9.2.2.2.1 (hts _ hcl) (va_AO.use (C9.2.2.2.2.2.1.2.2.2.1 _ hao)) rfl hd rfl (fun q => absurd ((i32_lt0 ⟨by omega, by omega⟩).mp q) (by omega)) (by rw [en]; omega) (by omega) (by rw [en]; omega) fun cA kA comp f1 f2 f3 f4 => ?_
  have hcA : cA = gA G c := by
    have h2 := (C9.2.2.2.2.2.1.2.1 c h9.1 h9.2).2
    rw [ht] at h2
    obtain ⟨_, _, -, -, -, h3⟩ := h2
    exact Option.some.inj (f1.symm.trans h3)
  subst hcA
  rw [en]
  generalize hH1 : H.push ({ cls := gA G c, slots := Array.replicate n.toNat .null, vm := .none } : Cell) = H1
  have z1 : H1.size = H.size + 1 := by rw [← hH1, Array.size_push]
  have e1 : H1[H.size]? = some (arrV (gA G c) n.toNat (fun _ => .null)) := by rw [← hH1, Array.getElem?_push_size, ← arrV_new]
  have o1 : ∀ q : Nat, q < H.size → H1[q]? = H[q]? := fun q hq => by rw [← hH1, Array.getElem?_push, if_neg (Nat.ne_of_lt hq)]
  have hS1 : JSim G (jnw S c n) (jnd S D) H1 := by
    refine hS.new z1 o1 ⟨hn.1, by omega⟩ (fun h => by omega) (fun _ _ => ?_)
    have e : S.1.toNat = H.size := by omega
    unfold jAr
    rw [e, e1]
    have el : jL (jnw S c n) S.1 = n := by simp [jL, jnw]
    rw [el, ht]
    congr 2
    funext j
    have z2 : jR (jnw S c n) S.1 (j : Int) = none := by simp [jR, jnw]
    rw [z2]
    rfl
  have hst : (Value.ref H.size :: st.map jv) = ((.inr (.inr (some S.1)) :: st : List JV).map jv) := by
    show _ = jv (.inr (.inr (some S.1))) :: st.map jv
    rw [jv_r, show S.1.toNat = H.size from by omega]
  have K1 := K p l e9 R s m args below meth c9 H1 locs A QM C9 h1 h2 h3 h4 hS1 hl hA hK9
  rw [← hst] at K1
  exact K1
/-- the script's length, and its ints -/
theorem x_slen (hd : decode cc pc = .ok (.arraylength, 1)) (hb : gb G < (gB G).size) (K : JX G y cc nL rt d kb kc S D (pc + 1) ls (.inl (gL G : Int) :: st) Q) : JX G y cc nL rt d kb kc S D pc ls (.inr (.inr (some (gb G : Int))) :: st) Q := by
  intro p l e9 R s m args below meth c9 H locs A QM C9 h1 h2 h3 h4 hS hl hA hK9
  obtain ⟨scr, x1, x2, x3, x4, x5⟩ := C9.2.2.2.2.2.1.2.2.2.2.2.2.1
  exact W.alen (n := Int32.ofInt (gL G : Int)) C9.1 C9.2.1 (a := gb G) (by rw [hS.2.2.1 _ hb]; exact x1) x2 (by rw [x4]; exact (Int32.ofInt_eq_ofNat).symm) rfl rfl hd (K p l e9 R s m args below meth c9 H locs A QM C9 h1 h2 h3 h4 hS hl hA hK9)
theorem x_sld {e : Int} (hd : decode cc pc = .ok (.iaload, 1)) (hb : gb G < (gB G).size) (hL : gL G < 2147483648) (he : 0 ≤ e ∧ e < (gL G : Int)) (K : JX G y cc nL rt d kb kc S D (pc + 1) ls (.inl ((gX G e.toNat).toInt) :: st) Q) : JX G y cc nL rt d kb kc S D pc ls (.inl e :: .inr (.inr (some (gb G : Int))) :: st) Q := by
  intro p l e9 R s m args below meth c9 H locs A QM C9 h1 h2 h3 h4 hS hl hA hK9
  obtain ⟨scr, x1, x2, x3, x4, x5⟩ := C9.2.2.2.2.2.1.2.2.2.2.2.2.1
  refine W.iald (j := Int32.ofInt e) (v := .int (Int32.ofInt ((gX G e.toNat).toInt))) C9.1 C9.2.1 (a := gb G) (by rw [hS.2.2.1 _ hb]; exact x1) x2 x3 (by rw [x4]; exact i32_in (n := (gL G : Int)) he.1 he.2 (by omega)) ?_ rfl rfl hd (K p l e9 R s m args below meth c9 H locs A QM C9 h1 h2 h3 h4 hS hl hA hK9)
  rw [i32_nn he.1 (by omega), x5 _ (by omega), Int32.ofInt_toInt]
def jcat (v : JV) : Nat := match v with
  | .inr (.inl _) => 2
  | _ => 1
theorem jcat_eq (v : JV) : (jv v).category = jcat v := by
  rcases v with e | e | r
  · rfl
  · rfl
  · cases r <;> rfl
theorem jcat_sum (st : List JV) : ((st.map jv).map fun v => v.category).sum = (st.map jcat).sum := by
  rw [List.map_map]
  congr 1
  exact List.map_congr_left (fun v _ => jcat_eq v)
/-- Object's own constructor -/
theorem x_object {index : Nat} {r : Option Int} {a : Int} (hd : decode cc pc = .ok (.invokespecial index, 3)) (hw : Cond.methodLink y.cls index objectInit ∈ WG) (hr : r = some a) (hd1 : 1 ≤ d) (hcat : (st.map jcat).sum ≤ 8) (K : JX G y cc nL rt d kb kc S D (pc + 3) ls st Q) : JX G y cc nL rt d kb kc S D pc ls (.inr (.inr r) :: st) Q := by
  subst hr
  intro p l e9 R s m args below meth c9 H locs A QM C9 h1 h2 h3 h4 hS hl hA hK9
  have hts := C9.2.2.2.2.1
  refine W.objInit C9.1 C9.2.1 C9.2.2.2.1 (hts _ hw) (hts _ im_objectInit) (hts _ cd_objectInit) (a := a.toNat) (rest := st.map jv) rfl (by rw [C9.2.2.1]; exact hA.2.1) rfl hd (by omega) ?_ (K p l e9 R s m args below meth c9 H locs A QM C9 h1 h2 h3 h4 hS hl hA hK9)
  rw [jcat_sum]
  show 2 * 0 + _ + 12 ≤ _
  omega
theorem x_acopy {index : Nat} {a0 a sp dp n : Int} (hd : decode cc pc = .ok (.invokestatic index, 3)) (hw : Cond.methodLink y.cls index arraycopyName ∈ WG) (hd1 : 1 ≤ d) (hst : (st.map jcat).sum = 0) (hK0 : jK S a0 = 9) (hK : jK S a = 9) (h0 : 0 ≤ sp ∧ 0 ≤ dp ∧ 0 ≤ n ∧ sp + n ≤ jL S a0 ∧ dp + n ≤ jL S a)
    (K : JX G y cc nL rt d kb kc S (jcp D a0 sp a dp n) (pc + 3) ls st Q) : JX G y cc nL rt d kb kc S D pc ls (.inl n :: .inl dp :: .inr (.inr (some a)) :: .inl sp :: .inr (.inr (some a0)) :: st) Q := by
  intro p l e9 R s m args below meth c9 H locs A QM C9 h1 h2 h3 h4 hS hl hA hK9
  have hts := C9.2.2.2.2.1
  obtain ⟨t1, t2, t3, t4, t5⟩ := hS.2.2.2.2 a 9 hK (by decide) (by decide)
  obtain ⟨u1, u2, u3, u4, u5⟩ := hS.2.2.2.2 a0 9 hK0 (by decide) (by decide)
  have hAr0 := (C9.2.2.2.2.2.1.2.1 9 (by decide) (by decide)).1 (jL S a0).toNat (fun j => jfv (jat 9) (D a0 (j : Int)) (jR S a0 (j : Int)))
  have hAr1 := (C9.2.2.2.2.2.1.2.1 9 (by decide) (by decide)).1 (jL S a).toNat (fun j => jfv (jat 9) (D a (j : Int)) (jR S a (j : Int)))
  have es := i32_t (e := sp) ⟨by omega, by omega⟩
  have ed := i32_t (e := dp) ⟨by omega, by omega⟩
  have en := i32_t (e := n) ⟨by omega, by omega⟩
  have cs := i32_nn (e := sp) h0.1 (by omega)
  have cd := i32_nn (e := dp) h0.2.1 (by omega)
  have cn := i32_nn (e := n) h0.2.2.1 (by omega)
  have neg : ∀ z : Int, 0 ≤ z → z < 2147483648 → ¬ Int32.ofInt z < 0 := fun z z0 z1 q => absurd ((i32_lt0 ⟨by omega, by omega⟩).mp q) (by omega)
  intro T hT X
  obtain ⟨-, k0, hk0, cm0, hkk0⟩ := hAr0
  obtain ⟨-, k1, hk1, cm1, hkk1⟩ := hAr1
  have hlo : 36 ≤ R.locals := by omega
  obtain ⟨vm', X', step⟩ := X.arraycopy C9.1 C9.2.2.2.1 (hts _ hw) (hts _ nat_arraycopy) (hts _ st_arraycopy) (hts _ ini_RJ10) (src := a0.toNat) (dst := a.toNat) (srcPos := Int32.ofInt sp) (destPos := Int32.ofInt dp) (n := Int32.ofInt n) (by rw [hT]; exact u5) (by rw [hT]; exact t5)
    (fun _ h => by cases h) (fun _ h => by cases h) (fun h => by cases h) (fun h => by cases h) hk0 hk1 hkk0 hkk1 (by simp [refKind, jat]) (neg sp h0.1 (by omega)) (neg dp h0.2.1 (by omega)) (neg n h0.2.2.1 (by omega))
    (by rw [es, en, arrV_size]; omega) (by rw [ed, en, arrV_size]; omega)
    (fun vm₁ _ i hi => by
      rw [cn] at hi
      rw [Array.getD_eq_getD_getElem?, cs, arrV_read _ _ (by omega)]
      exact ⟨rfl, trivial⟩)
    (g := F0 m pc A (.int (Int32.ofInt n) :: .int (Int32.ofInt dp) :: .ref a.toNat :: .int (Int32.ofInt sp) :: .ref a0.toNat :: st.map jv)) rfl (by rw [C9.2.2.1]; exact hA.2.1) (rest := st.map jv) rfl (by rw [C9.2.1]; exact hd) (by omega)
    (by rw [jcat_sum, hst]; show 2 * 0 + 0 + _ ≤ _; exact Nat.le_trans (by decide +kernel) hlo)
  have e1 : copied (arrV (gA G 9) (jL S a0).toNat (fun j => jfv (jat 9) (D a0 (j : Int)) (jR S a0 (j : Int)))) (arrV (gA G 9) (jL S a).toNat (fun j => jfv (jat 9) (D a (j : Int)) (jR S a (j : Int)))) (Int32.ofInt sp) (Int32.ofInt dp) (Int32.ofInt n) = arrV (gA G 9) (jL S a).toNat (fun j => jfv (jat 9) (jcp D a0 sp a dp n a (j : Int)) (jR S a (j : Int))) := by
    have h := va_copied (fun z : Int => Value.int (Int32.ofInt z)) (gA G 9) (gA G 9) (n0 := (jL S a0).toNat) (n1 := (jL S a).toNat) (sp := sp.toNat) (dp := dp.toNat) (n := n.toNat) (fun j => D a0 (j : Int)) (fun j => D a (j : Int)) (by omega)
    unfold copied
    rw [cs, cd, cn]
    refine h.trans ?_
    congr 1
    funext j
    show Value.int _ = Value.int _
    congr 2
    unfold va_cpy jcp
    by_cases q : dp.toNat ≤ j ∧ j < dp.toNat + n.toNat
    · rw [if_pos q, if_pos (by omega)]
      show D a0 ((sp.toNat + (j - dp.toNat) : Nat) : Int) = _
      congr 1
      omega
    · rw [if_neg q, if_neg (by omega)]
  rw [e1] at X' step
  have hla : a.toNat < H.size := (Array.getElem?_eq_some_iff.mp t5).1
  generalize hcell : arrV (gA G 9) (jL S a).toNat (fun j => jfv (jat 9) (jcp D a0 sp a dp n a (j : Int)) (jR S a (j : Int))) = cell at X' step
  have hheap : ((T.setVm vm').setCell a.toNat cell).heap = H.setIfInBounds a.toNat cell := by rw [← hT]; rfl
  have oq : ∀ q : Nat, q ≠ a.toNat → (H.setIfInBounds a.toNat cell)[q]? = H[q]? := fun q hq => by simp [Array.getElem?_setIfInBounds, Ne.symm hq]
  obtain ⟨t, a1, b1⟩ := K p l e9 R s m args below meth c9 (H.setIfInBounds a.toNat cell) _ A QM C9 h1 h2 h3 h4
    (hS.set (S' := S) (D' := jcp D a0 sp a dp n) rfl rfl rfl t1 (fun x z hx => ⟨by simp [jcp, hx], rfl⟩) (by simp) oq (fun c' hc' h => by omega) (fun c' hc' _ _ => by
      have : 9 = c' := hK.symm.trans hc'
      subst this
      unfold jAr
      rw [hcell]
      simp [Array.getElem?_setIfInBounds, hla]))
    (fun q hq => by
      rcases List.mem_append.mp hq with h | h
      · exact hl q h
      · obtain ⟨z, -, hz⟩ := List.mem_map.mp h
        rw [← hz]
        show (gB G).size ≤ a.toNat
        omega) hA hK9 _ hheap X'
  exact ⟨t, step t a1, b1⟩
end JARR
