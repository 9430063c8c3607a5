/-! ROWS of the heap: fields, arrays, new objects -/
theorem jfv_i (ty : FieldType) (e : Int) (r : Option Int) (h : ty = .int ∨ ty = .char ∨ ty = .boolean) : jfv ty e r = .int (Int32.ofInt e) := by
  rcases h with rfl | rfl | rfl <;> rfl
theorem jOb.to {G : JG} {S S' : JS} {D D' : JD} {H H' : Heap} {a : Int} {c : Nat} (h : jOb G S D H a c) (hH : H'[a.toNat]? = H[a.toNat]?) (hv : ∀ k : Int, D' a k = D a k ∧ jR S' a k = jR S a k) : jOb G S' D' H' a c := by
  obtain ⟨r, h1, cell, q1, q2, q3, q4⟩ := h
  exact ⟨r, h1, cell, by rw [hH]; exact q1, q2, q3, fun k hk => by show _ = some (jfv (jty c k) (D' a (k : Int)) (jR S' a (k : Int))); rw [(hv k).1, (hv k).2]; exact q4 k hk⟩
theorem jAr.to {G : JG} {S S' : JS} {D D' : JD} {H H' : Heap} {a : Int} {c : Nat} (h : jAr G S D H a c) (hH : H'[a.toNat]? = H[a.toNat]?) (hL : jL S' a = jL S a) (hv : ∀ k : Int, D' a k = D a k ∧ jR S' a k = jR S a k) : jAr G S' D' H' a c := by
  unfold jAr at h ⊢
  rw [hH, h, hL]
  congr 2
  funext j
  rw [(hv j).1, (hv j).2]
/-- one cell is written -/
theorem JSim.set {G : JG} {S S' : JS} {D D' : JD} {H H' : Heap} {a : Int} (hS : JSim G S D H) (hn : jN S' = jN S) (hk : jK S' = jK S) (hL : jL S' = jL S) (ha : ((gB G).size : Int) ≤ a)
    (hv : ∀ x k : Int, x ≠ a → D' x k = D x k ∧ jR S' x k = jR S x k) (hz : H'.size = H.size) (ho : ∀ q : Nat, q ≠ a.toNat → H'[q]? = H[q]?)
    (h9 : ∀ c, jK S a = c → c < 9 → jOb G S' D' H' a c) (h10 : ∀ c, jK S a = c → 9 ≤ c → c < 16 → jAr G S' D' H' a c) : JSim G S' D' H' := by
  obtain ⟨s1, s2, s3, s4, s5⟩ := hS
  refine ⟨by rw [hz, hn]; exact s1, by rw [hz]; exact s2, fun q hq => by rw [ho q (by omega)]; exact s3 q hq, fun x c hc h => ?_, fun x c hc h1 h2 => ?_⟩
  · rw [hk] at hc
    obtain ⟨t1, t2, t3⟩ := s4 x c hc h
    refine ⟨t1, by rw [hn]; exact t2, ?_⟩
    by_cases e : x = a
    · subst e; exact h9 c hc h
    · exact t3.to (ho _ (by omega)) (fun k => hv x k e)
  · rw [hk] at hc
    obtain ⟨t1, t2, t3, t4, t5⟩ := s5 x c hc h1 h2
    rw [hL]
    refine ⟨t1, by rw [hn]; exact t2, t3, t4, ?_⟩
    by_cases e : x = a
    · subst e; exact h10 c hc h1 h2
    · exact t5.to (ho _ (by omega)) (by rw [hL]) (fun k => hv x k e)
theorem jup_ne {D : JD} {a k e x z : Int} (h : x ≠ a) : jup D a k e x z = D x z := by simp [jup, h]
theorem jup_eq {D : JD} {a k e : Int} : jup D a k e a k = e := by simp [jup]
theorem jup_nk {D : JD} {a k e x z : Int} (h : z ≠ k) : jup D a k e x z = D x z := by simp [jup, h]
/-- what comes in at the end of the heap -/
def jnw (S : JS) (c : Nat) (n : Int) : JS := (S.1 + 1, fun x => if x = S.1 then c else S.2.1 x, fun x => if x = S.1 then n else S.2.2.1 x, fun x z => if x = S.1 then none else S.2.2.2 x z)
def jnd (S : JS) (D : JD) : JD := fun x z => if x = S.1 then 0 else D x z
theorem JSim.new {G : JG} {S : JS} {D : JD} {H H' : Heap} {c : Nat} {n : Int} (hS : JSim G S D H) (hz : H'.size = H.size + 1) (ho : ∀ q : Nat, q < H.size → H'[q]? = H[q]?) (hn : 0 ≤ n ∧ n < 2147483648)
    (h9 : c < 9 → jOb G (jnw S c n) (jnd S D) H' S.1 c) (h10 : 9 ≤ c → c < 16 → jAr G (jnw S c n) (jnd S D) H' S.1 c) : JSim G (jnw S c n) (jnd S D) H' := by
  obtain ⟨s1, s2, s3, s4, s5⟩ := hS
  have s1' : (H.size : Int) = S.1 := s1
  have old : ∀ x : Int, x < S.1 → 0 ≤ x → H'[x.toNat]? = H[x.toNat]? := fun x h h0 => ho _ (by omega)
  refine ⟨by rw [hz]; show _ = S.1 + 1; omega, by omega, fun q hq => by rw [ho q (by omega)]; exact s3 q hq, fun x k hc h => ?_, fun x k hc h1 h2 => ?_⟩
  · by_cases e : x = S.1
    · subst e
      have : c = k := by simpa [jK, jnw] using hc
      subst this
      exact ⟨by omega, by show S.1 < S.1 + 1; omega, h9 h⟩
    · have hc' : jK S x = k := by simpa [jK, jnw, e] using hc
      obtain ⟨t1, t2, t3⟩ := s4 x k hc' h
      exact ⟨t1, by show x < S.1 + 1; have : x < S.1 := t2; omega, t3.to (old x t2 (by omega)) (fun z => ⟨by simp [jnd, e], by simp [jR, jnw, e]⟩)⟩
  · by_cases e : x = S.1
    · subst e
      have : c = k := by simpa [jK, jnw] using hc
      subst this
      exact ⟨by omega, by show S.1 < S.1 + 1; omega, by simp [jL, jnw]; omega, by simp [jL, jnw]; omega, h10 h1 h2⟩
    · have hc' : jK S x = k := by simpa [jK, jnw, e] using hc
      obtain ⟨t1, t2, t3, t4, t5⟩ := s5 x k hc' h1 h2
      have el : jL (jnw S c n) x = jL S x := by simp [jL, jnw, e]
      exact ⟨t1, by show x < S.1 + 1; have : x < S.1 := t2; omega, by rw [el]; exact t3, by rw [el]; exact t4, t5.to (old x t2 (by omega)) el (fun z => ⟨by simp [jnd, e], by simp [jR, jnw, e]⟩)⟩
theorem jparse {c k : Nat} {C : String} {T : u_T} {N : Nat} (hc : jcl[c]? = some (C, T, N)) (hk : k < N) : parseFieldDescriptor (T k).2.2.1 = some (jty c k) := by
  match c, hc with
  | 0, hc => cases hc; exact tyX0_ok k hk
  | 1, hc => cases hc; exact tyX1_ok k hk
  | 2, hc => cases hc; exact tyX2_ok k hk
  | 3, hc => cases hc; exact tyX3_ok k hk
  | 4, hc => cases hc; exact tyX4_ok k hk
  | 5, hc => cases hc; exact tyX5_ok k hk
  | 6, hc => cases hc; exact tyX6_ok k hk
  | 7, hc => cases hc; exact tyX7_ok k hk
  | n + 8, hc => simp [jcl] at hc
theorem jnames {c : Nat} {C : String} {T : u_T} {N : Nat} (hc : jcl[c]? = some (C, T, N)) : ∀ a, a < N → ∀ b, b < N → a ≠ b → (T a).2.1 ≠ (T b).2.1 := by
  match c, hc with
  | 0, hc => cases hc; exact nmX0
  | 1, hc => cases hc; exact nmX1
  | 2, hc => cases hc; exact nmX2
  | 3, hc => cases hc; exact nmX3
  | 4, hc => cases hc; exact nmX4
  | 5, hc => cases hc; exact nmX5
  | 6, hc => cases hc; exact nmX6
  | 7, hc => cases hc; exact nmX7
  | n + 8, hc => simp [jcl] at hc
theorem jlays {c : Nat} {C : String} {T : u_T} {N : Nat} (hc : jcl[c]? = some (C, T, N)) : ∀ w ∈ u_ws C T N, w ∈ WG := by
  match c, hc with
  | 0, hc => cases hc; exact lay_X0
  | 1, hc => cases hc; exact lay_X1
  | 2, hc => cases hc; exact lay_X2
  | 3, hc => cases hc; exact lay_X3
  | 4, hc => cases hc; exact lay_X4
  | 5, hc => cases hc; exact lay_X5
  | 6, hc => cases hc; exact lay_X6
  | 7, hc => cases hc; exact lay_X7
  | n + 8, hc => simp [jcl] at hc
theorem jdef {c k : Nat} {C : String} {T : u_T} {N : Nat} (hc : jcl[c]? = some (C, T, N)) (hk : k < N) : defaultValue (jty c k) = jfv (jty c k) 0 none := by
  match c, hc with
  | 0, hc => cases hc; exact (by decide +kernel : ∀ k, k < 8 → defaultValue (jty 0 k) = jfv (jty 0 k) 0 none) k hk
  | 1, hc => cases hc; exact (by decide +kernel : ∀ k, k < 8 → defaultValue (jty 1 k) = jfv (jty 1 k) 0 none) k hk
  | 2, hc => cases hc; exact (by decide +kernel : ∀ k, k < 9 → defaultValue (jty 2 k) = jfv (jty 2 k) 0 none) k hk
  | 3, hc => cases hc; exact (by decide +kernel : ∀ k, k < 3 → defaultValue (jty 3 k) = jfv (jty 3 k) 0 none) k hk
  | 4, hc => cases hc; exact (by decide +kernel : ∀ k, k < 6 → defaultValue (jty 4 k) = jfv (jty 4 k) 0 none) k hk
  | 5, hc => cases hc; exact (by decide +kernel : ∀ k, k < 3 → defaultValue (jty 5 k) = jfv (jty 5 k) 0 none) k hk
  | 6, hc => cases hc; exact (by decide +kernel : ∀ k, k < 5 → defaultValue (jty 6 k) = jfv (jty 6 k) 0 none) k hk
  | 7, hc => cases hc; exact (by decide +kernel : ∀ k, k < 6 → defaultValue (jty 7 k) = jfv (jty 7 k) 0 none) k hk
  | n + 8, hc => simp [jcl] at hc
/-- a value for a field or a place of the type ty -/
def jok (ty : FieldType) (v : JV) : Prop := narrow ty (jv v) = jv v ∧ fits ty (jv v) = true
/-- the number and the reference that v is -/
def jve (v : JV) : Int := match v with
  | .inl e => e
  | .inr (.inl e) => e
  | .inr (.inr _) => 0
def jvr (v : JV) : Option Int := match v with
  | .inr (.inr r) => r
  | _ => none
section JHEAP
variable {G : JG} {y : MethodName} {cc : ByteArray} {nL : Nat} {rt : Option FieldType} {d : Nat} {kb kc : Nat × Nat} {S : JS} {D : JD} {pc : Nat} {ls : List (Option JV)} {st : List JV} {Q : Option JV → JS → JD → Prop}
theorem x_get {a : Int} {c k index N : Nat} {C : String} {T : u_T} {v : JV} (hd : decode cc pc = .ok (.getfield index, 3)) (hw : Cond.fieldLink y.cls index (T k).1 (T k).2.1 (T k).2.2.1 ∈ WG) (hc : jcl[c]? = some (C, T, N)) (hk : k < N) (h9 : c < 9)
    (hv : jfv (jty c k) (D a (k : Int)) (jR S a (k : Int)) = jv v) (hK : jK S a = c) (K : JX G y cc nL rt d kb kc S D (pc + 3) ls (v :: st) Q) : JX G y cc nL rt d kb kc S D pc ls (.inr (.inr (some a)) :: st) Q := by
  intro p l e9 R s m args below meth c9 H locs A QM C9 h1 h2 h3 h4 hS hl hA hK9
  obtain ⟨t1, t2, r, hr, cell, q1, q2, q3, q4⟩ := hS.2.2.2.1 a c hK h9
  have hr' : r = (C, T, N) := Option.some.inj (hr.symm.trans hc)
  subst hr'
  have hts := C9.2.2.2.2.1
  have hin := jlays hc
  obtain ⟨hSl, hfc, kC, hkC, hkind⟩ := C9.2.2.2.2.2.1.1 c _ hc
  obtain ⟨cf, kf, fi, f, hi, hsl⟩ := hSl k hk
  refine W.getf C9.1 C9.2.1 C9.2.2.2.1 (hts _ hw) hi (u_facts hfc hkC (u_lays hts hin hk) hi).1 q1 (by rw [q3]; exact fun h => by cases h) (v := jv v) ?_ rfl rfl hd (K p l e9 R s m args below meth c9 H locs A QM C9 h1 h2 h3 h4 hS hl hA hK9)
  rw [hsl, q4 k hk]
  exact congrArg some hv
theorem x_put {a : Int} {c k index N : Nat} {C : String} {T : u_T} {v : JV} {S' : JS} {D' : JD} (hd : decode cc pc = .ok (.putfield index, 3)) (hw : Cond.fieldLink y.cls index (T k).1 (T k).2.1 (T k).2.2.1 ∈ WG) (hc : jcl[c]? = some (C, T, N)) (hk : k < N) (h9 : c < 9)
    (hfin : (T k).2.2.2 = false ∨ ((T k).1 = y.cls ∧ y.name = "<init>")) (hok : jok (jty c k) v) (hK : jK S a = c)
    (hS' : jN S' = jN S ∧ jK S' = jK S ∧ jL S' = jL S) (hv : ∀ x z : Int, x ≠ a ∨ z ≠ k → D' x z = D x z ∧ jR S' x z = jR S x z) (hv2 : jfv (jty c k) (D' a (k : Int)) (jR S' a (k : Int)) = jv v)
    (K : JX G y cc nL rt d kb kc S' D' (pc + 3) ls st Q) : JX G y cc nL rt d kb kc S D pc ls (v :: .inr (.inr (some a)) :: st) Q := by
  intro p l e9 R s m args below meth c9 H locs A QM C9 h1 h2 h3 h4 hS hl hA hK9
  obtain ⟨t1, t2, r, hr, cell, q1, q2, q3, q4⟩ := hS.2.2.2.1 a c hK h9
  have hr' : r = (C, T, N) := Option.some.inj (hr.symm.trans hc)
  subst hr'
  have hts := C9.2.2.2.2.1
  have hown := C9.2.2.2.1
  have hin := jlays hc
  have hKn := C9.2.2.2.2.2.1
  have hap := va_apart (own := y.cls) (D := gD G) (cl := jcl) (tys := []) hts hin (jty c) (fun k hk => jparse hc hk) (jnames hc) ⟨hKn.1, fun _ _ h => by simp at h⟩ hc
  obtain ⟨hSl, hfc, kC, hkC, hkind⟩ := hKn.1 c _ hc
  obtain ⟨cf, kf, fi, f, hi, hsl⟩ := hSl k hk
  have hst := (u_facts hfc hkC (u_lays hts hin hk) hi).1
  have hlay := hts _ (hin _ (u_in_lay hk))
  unfold u_lay at hlay
  have go : ∀ H' : Heap, H'[a.toNat]? = some (cell.setSlot f.slot (jv v)) → H'.size = H.size → (∀ q, q ≠ a.toNat → H'[q]? = H[q]?) → W p l e9 R s m args below meth c9 H' (locs ++ [⟨a.toNat, f.slot⟩]) kc.1 kc.2 QM (F0 m (pc + 3) A (st.map jv)) := by
    intro H' e1 e2 e3
    rw [hsl] at e1
    refine K p l e9 R s m args below meth c9 H' _ A QM C9 h1 h2 h3 h4 (hS.set hS'.1 hS'.2.1 hS'.2.2 t1 (fun x z hx => hv x z (Or.inl hx)) e2 e3 (fun c' hc' _ => ?_) (fun c' hc' h _ => absurd (hK.symm.trans hc') (by omega))) ?_ hA hK9
    · have : c = c' := hK.symm.trans hc'
      subst this
      refine ⟨_, hc, t_OB.to (V := updV (fun k => jfv (jty c k) (D a (k : Int)) (jR S a (k : Int))) k (jv v)) ⟨_, e1, q2, q3, t_set q4 hap hk (jv v)⟩ (fun j _ => ?_)⟩
      by_cases ej : j = k
      · subst ej
        simp [updV, hv2]
      · have hj := hv a (j : Int) (Or.inr (by omega))
        simp [updV, ej, hj.1, hj.2]
    · intro q hq
      rcases List.mem_append.mp hq with h | h
      · exact hl q h
      · rw [List.mem_singleton.mp h]
        show (gB G).size ≤ a.toNat
        omega
  by_cases hf : (T k).2.2.2 = true
  · rw [if_pos hf] at hlay
    obtain ⟨hdecl, hname⟩ := hfin.resolve_left (by rw [hf]; decide)
    have hcf : m.cls = cf := by
      obtain ⟨_, _, c', _, _, _, -, -, hf', -, -, -, hown2, -⟩ := Cond.laysFinal_spec hlay
      have e1 : c' = cf := by have := hi.symm.trans hf'; simp at this; exact this.1.symm
      rw [hdecl] at hown2
      rw [← e1]; exact Option.some.inj (hown.symm.trans hown2)
    have h6 := u_fits hfc hkC hkind (Or.inr hlay) hi (jparse hc hk) hok.1 hok.2
    exact W.putFinK C9.1 C9.2.1 hown (hts _ hw) hi hst hcf (by rw [C9.2.2.2.2.2.2.2.2, hname]) (by rw [q2]; exact h6) q1 q3 (by rw [hsl]; exact k2_hasslot (q4 k hk)) rfl rfl hd go
  · rw [if_neg hf] at hlay
    have h6 := u_store hfc hkC hkind hlay hi (jparse hc hk) hok.1 hok.2
    exact W.putK C9.1 C9.2.1 (f := f) ⟨hown, hts _ hw, ⟨_, _, _, hi⟩, hst⟩ (by rw [q2]; exact h6) q1 q3 (by rw [hsl]; exact k2_hasslot (q4 k hk)) rfl rfl hd go
theorem x_new {c index N : Nat} {C : String} {T : u_T} (hd : decode cc pc = .ok (.new index, 3)) (hc : jcl[c]? = some (C, T, N)) (h9 : c < 9) (hcl : Cond.classLink y.cls index C ∈ WG) (hin : Cond.instantiable C N ∈ WG) (hini : Cond.initialized C ∈ WG) (hk : kc.1 + 1 ≤ kb.1 ∧ kc.2 + N ≤ kb.2)
    (K : JX G y cc nL rt d kb (kc.1 + 1, kc.2 + N) (jnw S c 0) (jnd S D) (pc + 3) ls (.inr (.inr (some S.1)) :: st) Q) : JX G y cc nL rt d kb kc S D pc ls st Q := by
  intro p l e9 R s m args below meth c9 H locs A QM C9 h1 h2 h3 h4 hS hl hA hK9
  have hts := C9.2.2.2.2.1
  have hKn := C9.2.2.2.2.2.1.1 c _ hc
  refine W.newcK C9.1 C9.2.1 C9.2.2.2.1 (hts _ hcl) (hts _ hin) (hts _ hini) rfl hd (by omega) (by omega) hKn.2.1 rfl fun H1 kC hkC e1 z1 o1 => ?_
  have hz : (H.size : Int) = S.1 := hS.1
  have hS1 : JSim G (jnw S c 0) (jnd S D) H1 := by
    refine hS.new z1 o1 ⟨by omega, by omega⟩ (fun _ => ?_) (fun h _ => by omega)
    have e : S.1.toNat = H.size := by omega
    refine ⟨_, hc, ?_⟩
    rw [e]
    refine (u_born (jty c) hts (jlays hc) hKn hkC e1 (fun k hk => jparse hc hk)).to (fun k hk => ?_)
    have z1 : jnd S D S.1 (k : Int) = 0 := by simp [jnd]
    have z2 : jR (jnw S c 0) S.1 (k : Int) = none := by simp [jR, jnw]
    rw [z1, z2]
    exact jdef hc hk
  have hst : (Value.ref H.size :: st.map jv) = ((.inr (.inr (some S.1)) :: st : List JV).map jv) := by
    show _ = jv (.inr (.inr (some S.1))) :: st.map jv
    rw [jv_r, show S.1.toNat = H.size from by omega]
  have K1 := K p l e9 R s m args below meth c9 H1 locs A QM C9 h1 h2 h3 h4 hS1 hl hA hK9
  rw [← hst] at K1
  exact K1
end JHEAP
