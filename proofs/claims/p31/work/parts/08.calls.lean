/-! CALLS: a judgement of the callee's body is a contract; a row a call -/
def jarg (vs : List JV) : List (Option JV) := match vs with
  | [] => []
  | .inr (.inl e) :: t => some (.inr (.inl e)) :: none :: jarg t
  | v :: t => some v :: jarg t
/-- the locals with which a method begins -/
def jent (nL : Nat) (vs : List JV) : List (Option JV) := jarg vs ++ List.replicate (nL - (jarg vs).length) none
theorem jarg_len (vs : List JV) : (lg_sl (vs.map jv)).length = (jarg vs).length := by
  induction vs with
  | nil => rfl
  | cons v t ih =>
    rcases v with e | e | r
    · show ([Slot.val _] ++ lg_sl (t.map jv)).length = (jarg t).length + 1
      rw [List.length_append, ih]; simp; omega
    · show ([Slot.val _, Slot.second] ++ lg_sl (t.map jv)).length = (jarg t).length + 1 + 1
      rw [List.length_append, ih]; simp; omega
    · cases r with
      | none =>
        show ([Slot.val _] ++ lg_sl (t.map jv)).length = (jarg t).length + 1
        rw [List.length_append, ih]; simp; omega
      | some a =>
        show ([Slot.val _] ++ lg_sl (t.map jv)).length = (jarg t).length + 1
        rw [List.length_append, ih]; simp; omega
theorem jarg_in : ∀ (vs : List JV) (i k : Nat) (v : JV), (jarg vs)[k]? = some (some v) → (i + k, jv v) ∈ lv_args i (vs.map jv)
  | [], i, k, v, h => by simp [jarg] at h
  | w :: t, i, k, v, h => by
    have one : (jv w).category ≠ 2 → (some w :: jarg t)[k]? = some (some v) → (i + k, jv v) ∈ lv_args i ((w :: t).map jv) := by
      intro hc h
      simp only [List.map_cons, lv_args, if_neg hc]
      cases k with
      | zero =>
        have : w = v := by simpa using h
        subst this
        exact List.mem_cons_self
      | succ k =>
        have := jarg_in t (i + 1) k v (by simpa using h)
        rw [show i + 1 + k = i + (k + 1) by omega] at this
        exact List.mem_cons_of_mem _ this
    rcases w with e | e | r
    · exact one (by rw [jcat_eq]; exact (by decide : (1 : Nat) ≠ 2)) h
    · have hc : (jv (.inr (.inl e))).category = 2 := rfl
      simp only [List.map_cons, lv_args, if_pos hc]
      have h' : (some (.inr (.inl e)) :: none :: jarg t : List (Option JV))[k]? = some (some v) := h
      match k, h' with
      | 0, h' =>
        have : (.inr (.inl e) : JV) = v := by simpa using h'
        subst this
        exact List.mem_cons_self
      | 1, h' => simp at h'
      | k + 2, h' =>
        have := jarg_in t (i + 2) k v (by simpa using h')
        rw [show i + 2 + k = i + (k + 2) by omega] at this
        exact List.mem_cons_of_mem _ this
    · exact one (by rw [jcat_eq]; exact (by decide : (1 : Nat) ≠ 2)) h
theorem jent_ls {nL : Nat} {vs : List JV} (h : (jarg vs).length ≤ nL) : jLs nL (jent nL vs) ((lg_sl (vs.map jv) ++ List.replicate (nL - (lg_sl (vs.map jv)).length) Slot.unset).toArray) := by
  have h0 := lv_entry (vs.map jv) (n := nL) (by rw [jarg_len]; exact h)
  refine ⟨by simp [jent]; omega, h0.1, h0.2.1, fun k v hk => ?_⟩
  have hk' : (jarg vs)[k]? = some (some v) := by
    unfold jent at hk
    by_cases q : k < (jarg vs).length
    · rwa [List.getElem?_append_left q] at hk
    · rw [List.getElem?_append_right (by omega)] at hk
      have := List.eq_of_mem_replicate (List.mem_of_getElem? hk)
      cases this
  have := jarg_in vs 0 k v hk'
  rw [Nat.zero_add] at this
  exact h0.2.2 (k, jv v) this
/-- a contract: what the body of y does with these arguments -/
abbrev JM (G : JG) (y : MethodName) (cc : ByteArray) (nL : Nat) (rt : Option FieldType) (d : Nat) (kb : Nat × Nat) (S : JS) (D : JD) (vs : List JV) (Q : Option JV → JS → JD → Prop) : Prop :=
  JX G y cc nL rt d kb (0, 0) S D 0 (jent nL vs) [] Q
theorem jofW {l : Launch} {y : MethodName} {ws ws' : List Cond} {rm : Room} {Pc : Array Value → State → Prop} {Qc : Array Value → State → Outcome → State → Prop} {mc ms : Nat} {free : Addr → Prop} {cc : ByteArray} {maxL : Nat} {ret : Option FieldType}
    (hy : plainFor y = true) (hw : ws = Cond.code y cc maxL ret :: ws')
    (body : ∀ p e s m args below meth c s₁, BodyLoose p l y (headSpec ws rm) cc maxL ret e s m args below meth c s₁ → c.maxLocals = maxL → Pc args s →
      W p l e (headSpec ws rm).room s m args below meth c s.heap [] 0 0 (MQ below Qc args s mc ms free) (entryFrame m args maxL)) : Met l y ws rm Pc Qc mc ms free := by
  refine MetFree.of_bodySF (code := cc) (maxLocals := maxL) (ret := ret) hy ?_ ?_
  · intro args s m h hn
    obtain ⟨meth, c, h1, h2, h3, h4, h5, h6, -, -⟩ := Cond.code_spec hn (atoms_spec (ws := ws) h _ (by rw [hw]; exact List.mem_cons_self))
    exact ⟨meth, c, h1, h2, h3, h4, h5, h6⟩
  · intro p e s m args below meth c s₁ B hml hP _
    have hh0 : s₁.heap = s.heap := by rw [B.state]; rfl
    obtain ⟨t, a1, o, b1, b2, b3⟩ := body p e s m args below meth c s₁ B hml hP s₁ hh0 (Stand.of_body B)
    exact ⟨t, o, a1, b1, b2, ⟨b3.1, b3.2⟩⟩
theorem jmet {G : JG} {y : MethodName} {cc : ByteArray} {nL : Nat} {rt : Option FieldType} {d : Nat} {kb : Nat × Nat} {S : JS} {D : JD} {vs : List JV} {Q : Option JV → JS → JD → Prop} (l : Launch) (hJ : JM G y cc nL rt d kb S D vs Q) (hp : plainFor y = true) (hn : (jarg vs).length ≤ nL) :
    Met l y (Cond.code y cc nL rt :: WG) { frames := d, cells := kb.1, slots := kb.2, locals := 37 * d } (fun a U => a = (vs.map jv).toArray ∧ JSim G S D U.heap ∧ JKn G U)
      (fun _ _ o t => ∃ (v : Option JV) (S' : JS) (D' : JD), o = .returned (v.map jv) ∧ Q v S' D' ∧ JSim G S' D' t.heap) kb.1 kb.2 (fun q => (gB G).size ≤ q) := by
  refine jofW (cc := cc) (maxL := nL) (ret := rt) hp rfl ?_
  intro p e s m args below meth c s₁ B hml hv
  obtain ⟨rfl, hS, hK⟩ := hv
  have hts0 := atoms_spec (ws := Cond.code y cc nL rt :: WG) B.pre
  have hown : s.vm.findClass y.cls = some m.cls := findClass_of_methodNamed B.named
  have hname : meth.name = y.name := (name_of_methodNamed B.named B.method).1
  have C9 : JCtx G y cc nL rt p s m (vs.map jv).toArray meth c := ⟨B.exec, B.bytes, hml, hown, fun w hw => hts0 w (List.mem_cons_of_mem _ hw), hK, B.returns, B.notSynchronized, hname⟩
  have hlocks := B.notSynchronized
  rw [lg_entry_eq]
  refine hJ p l e _ s m _ below meth c s.heap [] _ _ C9 (Nat.le_refl _) (Nat.le_refl _) (Nat.le_refl _) (Nat.le_refl _) hS (fun q h => by cases h) (jent_ls hn) ?_
  intro v S' D' H' locs' pc' A' st' hq hS' hl' hr
  rcases hr with ⟨hd, e', ty, rfl, rfl, hty, hnar⟩ | ⟨hd, e', rfl, rfl, hty⟩ | ⟨hd, r', ty, rfl, rfl, hty, hob⟩ | ⟨hd, rfl, rfl, hty⟩
  · exact W.zret B.exec B.bytes (B.returns.trans hty) hnar (fun t ht _ => ⟨_, S', D', rfl, hq, by rw [ht]; exact hS'⟩) hl' hd
  · exact W.lret B.exec B.bytes (B.returns.trans hty) (fun t ht _ => ⟨_, S', D', rfl, hq, by rw [ht]; exact hS'⟩) hl' hd
  · exact W.aret B.exec B.bytes (B.returns.trans hty) hob (by cases r' <;> simp [va_rf]) (fun t ht _ => ⟨_, S', D', rfl, hq, by rw [ht]; exact hS'⟩) hl' hd
  · exact W.vret B.exec B.bytes (B.returns.trans hty) (fun t ht _ => ⟨_, S', D', rfl, hq, by rw [ht]; exact hS'⟩) hl' hd
theorem jblind {G : JG} {S : JS} {D : JD} {vs : List JV} : FrameBlind (fun a U => a = (vs.map jv).toArray ∧ JSim G S D U.heap ∧ JKn G U) := fun a U g mk h => ⟨h.1, h.2.1, h.2.2.same rfl⟩
theorem jgood {ws : List Cond} (h : ∀ w ∈ ws, w ∈ WG) : GoodIn WG ws := fun w hw => ⟨h w hw, WG_good w (h w hw)⟩
theorem jgood_code {y : MethodName} {cc : ByteArray} {nL : Nat} {rt : Option FieldType} (hc : Cond.code y cc nL rt ∈ WG) : GoodIn WG (Cond.code y cc nL rt :: WG) := jgood (fun w hw => by
  rcases List.mem_cons.mp hw with rfl | h
  · exact hc
  · exact h)
section JCALL
variable {G : JG} {y : MethodName} {cc : ByteArray} {nL : Nat} {rt : Option FieldType} {d : Nat} {kb kc : Nat × Nat} {S : JS} {D : JD} {pc : Nat} {ls : List (Option JV)} {st : List JV} {Q : Option JV → JS → JD → Prop}
variable {y2 : MethodName} {c2 : ByteArray} {n2 : Nat} {r2 : Option FieldType} {b2 : Nat × Nat} {Q2 : Option JV → JS → JD → Prop} {index : Nat}
/-- behind the call -/
theorem jback {vs As : List JV} {st0 : List JV} (hK : ∀ (v : Option JV) (S' : JS) (D' : JD), Q2 v S' D' → JX G y cc nL rt d kb (kc.1 + b2.1, kc.2 + b2.2) S' D' (pc + 3) ls (v.toList ++ st) Q)
    {p : Program} {l : Launch} {e : Env} {R : Room} {s : State} {m : MethodId} {args : Array Value} {below : List Frame} {meth : Method} {c : Code} {H : Heap} {locs : List Loc} {A : Array Slot} {QM : State → Prop} {a : Array Value}
    (C9 : JCtx G y cc nL rt p s m args meth c) (h1 : d ≤ R.frames) (h2 : 37 * d ≤ R.locals) (h3 : kb.1 ≤ R.cells) (h4 : kb.2 ≤ R.slots) (hl : ∀ q ∈ locs, (gB G).size ≤ q.base) (hA : jLs nL ls A)
    (hK9 : ∀ (v : Option JV) (S' : JS) (D' : JD) (H' : Heap) (locs' : List Loc) (pc' : Nat) (A' : Array Slot) (st' : List Value), Q v S' D' → JSim G S' D' H' → (∀ q ∈ locs', (gB G).size ≤ q.base) → jRet cc rt pc' v st' → W p l e R s m args below meth c H' locs' kb.1 kb.2 QM (F0 m pc' A' st'))
    (hr : va_Run p l e R s m args below meth c H locs kc.1 kc.2 b2.1 b2.2 (F0 m pc A (st0.map jv)) (st.map jv) ((fun (_ : Array Value) (_ : State) (o : Outcome) (t : State) => ∃ (v : Option JV) (S' : JS) (D' : JD), o = .returned (v.map jv) ∧ Q2 v S' D' ∧ JSim G S' D' t.heap) a) (fun q => (gB G).size ≤ q)) :
    W p l e R s m args below meth c H locs kc.1 kc.2 QM (F0 m pc A (st0.map jv)) := by
  intro T hT X
  obtain ⟨v, st₀, t, T', L, h0, X', hL, e1, e2, ⟨v', S', D', hv, hq, hs⟩, step⟩ := hr T hT X
  have hv' : v = v'.map jv := by injection hv
  subst hv'
  have K1 := hK v' S' D' hq p l e R s m args below meth c T'.heap (locs ++ L) A QM C9 h1 h2 h3 h4 (by rw [e1]; exact hs) (fun q hq => by
      rcases List.mem_append.mp hq with h | h
      · exact hl q h
      · exact hL q h) hA hK9
  obtain ⟨t2, a1, b1⟩ := K1 T' rfl X'
  refine ⟨t2, step t2 ?_, b1⟩
  have est : (v'.toList ++ st).map jv = (v'.map jv).toList ++ st.map jv := by cases v' <;> rfl
  rw [est] at a1
  exact a1
theorem jV {As : List JV} {a : Int} {ck N : Nat} {T : u_T} (hd : decode cc pc = .ok (.invokevirtual index, 3)) (hM : JM G y2 c2 n2 r2 d b2 S D (.inr (.inr (some a)) :: As) Q2)
    (hw : Cond.methodLink y.cls index y2 ∈ WG ∧ Cond.instanceMethod y2 ∈ WG ∧ Cond.selects y2.cls y2 y2 ∈ WG ∧ Cond.initialized y2.cls ∈ WG ∧ Cond.code y2 c2 n2 r2 ∈ WG) (hp : plainFor y2 = true) (hx : y2.cls ≠ "java/lang/invoke/MethodHandle" ∧ y2.cls ≠ "java/lang/invoke/VarHandle" ∧ (parseMethodDescriptor y2.desc).map (fun d => d.parameters.length) = some As.length)
    (hn : (jarg (.inr (.inr (some a)) :: As)).length ≤ n2) (h17 : n2 ≤ 18) (hc : jcl[ck]? = some (y2.cls, T, N)) (h9 : ck < 9) (hk : jK S a = ck) (hcat : (st.map jcat).sum ≤ 8) (hb : kc.1 + b2.1 ≤ kb.1 ∧ kc.2 + b2.2 ≤ kb.2)
    (K : ∀ (v : Option JV) (S' : JS) (D' : JD), Q2 v S' D' → JX G y cc nL rt (d + 1) kb (kc.1 + b2.1, kc.2 + b2.2) S' D' (pc + 3) ls (v.toList ++ st) Q) : JX G y cc nL rt (d + 1) kb kc S D pc ls (As.reverse ++ .inr (.inr (some a)) :: st) Q := by
  intro p l e R s m args below meth c H locs A QM C9 h1 h2 h3 h4 hS hl hA hK9
  have hts := C9.2.2.2.2.1
  obtain ⟨t1, t2, r, hr, cell, q1, q2, q3, q4⟩ := hS.2.2.2.1 a ck hk h9
  have hcls := (C9.2.2.2.2.2.1.1 ck _ hc).2
  refine jback (vs := []) (As := []) (st0 := As.reverse ++ .inr (.inr (some a)) :: st) K C9 h1 h2 h3 h4 hl hA hK9 ?_ (a := (Value.ref a.toNat :: As.map jv).toArray)
  refine va_runV (As := As.map jv) (b := a.toNat) (Ts := WG) ⟨C9.1, C9.2.1, C9.2.2.1, C9.2.2.2.1, hts⟩ (jmet l hM hp hn)
    (cwV As.length hts (C := y2.cls) (jgood (fun w hw2 => ?_)) rfl rfl rfl ⟨rfl, hx⟩ ⟨by show d + 1 ≤ _; omega, by show 8 + (n2 + 11) + 37 * d ≤ _; omega⟩)
    ⟨jblind, ⟨cell, q1, by rw [q3]; rfl, by rw [q2]; exact hcls.1⟩, fun U hU hW => ⟨rfl, by rw [hU]; exact hS, C9.2.2.2.2.2.1.warm hW⟩⟩ rfl (by simp) hA.2.1 (by simp [List.map_reverse, jv_r]) ?_ hd (by omega)
  · rcases List.mem_append.mp hw2 with h | h
    · simp only [List.mem_cons, List.not_mem_nil, or_false] at h
      rcases h with rfl | rfl | rfl | rfl
      · exact hw.1
      · exact hw.2.1
      · exact hw.2.2.1
      · exact hw.2.2.2.1
    · rcases List.mem_cons.mp h with rfl | h
      · exact hw.2.2.2.2
      · exact h
  · rw [jcat_sum]
    show 2 * 0 + _ ≤ 8
    omega
theorem jI {As : List JV} {a : Int} (hd : decode cc pc = .ok (.invokespecial index, 3)) (hM : JM G y2 c2 n2 none d b2 S D (.inr (.inr (some a)) :: As) Q2)
    (hw : Cond.methodLink y.cls index y2 ∈ WG ∧ Cond.instanceMethod y2 ∈ WG ∧ Cond.initialized y2.cls ∈ WG ∧ Cond.code y2 c2 n2 none ∈ WG) (hi : y2.name = "<init>") (hp : plainFor y2 = true) (hx : y2.cls ≠ "java/lang/invoke/MethodHandle" ∧ y2.cls ≠ "java/lang/invoke/VarHandle" ∧ (parseMethodDescriptor y2.desc).map (fun d => d.parameters.length) = some As.length)
    (hn : (jarg (.inr (.inr (some a)) :: As)).length ≤ n2) (h17 : n2 ≤ 18) (hcat : (st.map jcat).sum ≤ 8) (hb : kc.1 + b2.1 ≤ kb.1 ∧ kc.2 + b2.2 ≤ kb.2)
    (K : ∀ (v : Option JV) (S' : JS) (D' : JD), Q2 v S' D' → JX G y cc nL rt (d + 1) kb (kc.1 + b2.1, kc.2 + b2.2) S' D' (pc + 3) ls (v.toList ++ st) Q) : JX G y cc nL rt (d + 1) kb kc S D pc ls (As.reverse ++ .inr (.inr (some a)) :: st) Q := by
  intro p l e R s m args below meth c H locs A QM C9 h1 h2 h3 h4 hS hl hA hK9
  have hts := C9.2.2.2.2.1
  refine jback (vs := []) (As := []) (st0 := As.reverse ++ .inr (.inr (some a)) :: st) K C9 h1 h2 h3 h4 hl hA hK9 ?_ (a := (Value.ref a.toNat :: As.map jv).toArray)
  refine va_runI (As := As.map jv) (b := a.toNat) (Ts := WG) ⟨C9.1, C9.2.1, C9.2.2.1, C9.2.2.2.1, hts⟩ (jmet l hM hp hn)
    (cwI As.length hts (jgood_code hw.2.2.2) rfl rfl rfl (hts _ hw.2.2.1) (hts _ hw.1) (hts _ hw.2.1) hi hx ⟨by show d + 1 ≤ _; omega, by show 8 + (n2 + 11) + 37 * d ≤ _; omega⟩)
    ⟨jblind, fun U hU hW => ⟨rfl, by rw [hU]; exact hS, C9.2.2.2.2.2.1.warm hW⟩⟩ rfl (by simp) hA.2.1 (by simp [List.map_reverse, jv_r]) ?_ hd (by omega)
  rw [jcat_sum]
  show 2 * 0 + _ ≤ 8
  omega
theorem jS {As : List JV} (hd : decode cc pc = .ok (.invokestatic index, 3)) (hM : JM G y2 c2 n2 r2 d b2 S D As Q2)
    (hw : Cond.methodLink y.cls index y2 ∈ WG ∧ Cond.static y2 ∈ WG ∧ Cond.initialized y2.cls ∈ WG ∧ Cond.code y2 c2 n2 r2 ∈ WG) (hp : plainFor y2 = true) (hx : y2.cls ≠ "java/lang/invoke/MethodHandle" ∧ y2.cls ≠ "java/lang/invoke/VarHandle" ∧ (parseMethodDescriptor y2.desc).map (fun d => d.parameters.length) = some As.length)
    (hn : (jarg As).length ≤ n2) (h17 : n2 ≤ 18) (hcat : (st.map jcat).sum ≤ 8) (hb : kc.1 + b2.1 ≤ kb.1 ∧ kc.2 + b2.2 ≤ kb.2)
    (K : ∀ (v : Option JV) (S' : JS) (D' : JD), Q2 v S' D' → JX G y cc nL rt (d + 1) kb (kc.1 + b2.1, kc.2 + b2.2) S' D' (pc + 3) ls (v.toList ++ st) Q) : JX G y cc nL rt (d + 1) kb kc S D pc ls (As.reverse ++ st) Q := by
  intro p l e R s m args below meth c H locs A QM C9 h1 h2 h3 h4 hS hl hA hK9
  have hts := C9.2.2.2.2.1
  refine jback (vs := []) (As := []) (st0 := As.reverse ++ st) K C9 h1 h2 h3 h4 hl hA hK9 ?_ (a := (As.map jv).toArray)
  refine va_runS (As := As.map jv) (Ts := WG) ⟨C9.1, C9.2.1, C9.2.2.1, C9.2.2.2.1, hts⟩ (jmet l hM hp hn)
    (va_cwS As.length hts (jgood (fun w hw2 => ?_)) rfl rfl rfl hx ⟨by show d + 1 ≤ _; omega, by show 8 + (n2 + 11) + 37 * d ≤ _; omega⟩)
    ⟨jblind, fun U hU hW => ⟨rfl, by rw [hU]; exact hS, C9.2.2.2.2.2.1.warm hW⟩⟩ rfl (by simp) hA.2.1 (by simp [List.map_reverse]) ?_ hd (by omega)
  · rcases List.mem_append.mp hw2 with h | h
    · simp only [List.mem_cons, List.not_mem_nil, or_false] at h
      rcases h with rfl | rfl | rfl
      · exact hw.1
      · exact hw.2.1
      · exact hw.2.2.1
    · rcases List.mem_cons.mp h with rfl | h
      · exact hw.2.2.2
      · exact h
  · rw [jcat_sum]
    show 2 * 0 + _ ≤ 8
    omega
/-- private members of a nest mate: a constructor, a static function -/
theorem jIN {As : List JV} {a : Int} (hd : decode cc pc = .ok (.invokespecial index, 3)) (hM : JM G y2 c2 n2 none d b2 S D (.inr (.inr (some a)) :: As) Q2)
    (hw : (y.cls, index, y2, "BargeLocks") ∈ jnest ∧ Cond.instanceMethod y2 ∈ WG ∧ Cond.initialized y2.cls ∈ WG ∧ Cond.code y2 c2 n2 none ∈ WG) (hi : y2.name = "<init>") (hp : plainFor y2 = true) (hx : y2.cls ≠ "java/lang/invoke/MethodHandle" ∧ y2.cls ≠ "java/lang/invoke/VarHandle" ∧ (parseMethodDescriptor y2.desc).map (fun d => d.parameters.length) = some As.length)
    (hn : (jarg (.inr (.inr (some a)) :: As)).length ≤ n2) (h17 : n2 ≤ 18) (hcat : (st.map jcat).sum ≤ 8) (hb : kc.1 + b2.1 ≤ kb.1 ∧ kc.2 + b2.2 ≤ kb.2)
    (K : ∀ (v : Option JV) (S' : JS) (D' : JD), Q2 v S' D' → JX G y cc nL rt (d + 1) kb (kc.1 + b2.1, kc.2 + b2.2) S' D' (pc + 3) ls (v.toList ++ st) Q) : JX G y cc nL rt (d + 1) kb kc S D pc ls (As.reverse ++ .inr (.inr (some a)) :: st) Q := by
  intro p l e R s m args below meth c H locs A QM C9 h1 h2 h3 h4 hS hl hA hK9
  have hts := C9.2.2.2.2.1
  refine jback (vs := []) (As := []) (st0 := As.reverse ++ .inr (.inr (some a)) :: st) K C9 h1 h2 h3 h4 hl hA hK9 ?_ (a := (Value.ref a.toNat :: As.map jv).toArray)
  refine va_runIN (As := As.map jv) (b := a.toNat) (Ts := WG) ⟨C9.1, C9.2.1, C9.2.2.1, C9.2.2.2.1, hts⟩ (jmet l hM hp hn)
    ⟨va_cnB As.length hts (jgood_code hw.2.2.2) rfl rfl rfl (C9.2.2.2.2.2.1.2.2.1 _ hw.1) (hts _ hw.2.2.1) hx ⟨by show d + 1 ≤ _; omega, by show 8 + (n2 + 11) + 37 * d ≤ _; omega⟩, hi, hts _ hw.2.1⟩
    ⟨jblind, fun U hU hW => ⟨rfl, by rw [hU]; exact hS, C9.2.2.2.2.2.1.warm hW⟩⟩ rfl (by simp) hA.2.1 (by simp [List.map_reverse, jv_r]) ?_ hd (by omega)
  rw [jcat_sum]
  show 2 * 0 + _ ≤ 8
  omega
theorem jSN {As : List JV} (hd : decode cc pc = .ok (.invokestatic index, 3)) (hM : JM G y2 c2 n2 r2 d b2 S D As Q2)
    (hw : (y.cls, index, y2, "BargeLocks") ∈ jnest ∧ Cond.static y2 ∈ WG ∧ Cond.initialized y2.cls ∈ WG ∧ Cond.code y2 c2 n2 r2 ∈ WG) (hp : plainFor y2 = true) (hx : y2.cls ≠ "java/lang/invoke/MethodHandle" ∧ y2.cls ≠ "java/lang/invoke/VarHandle" ∧ (parseMethodDescriptor y2.desc).map (fun d => d.parameters.length) = some As.length)
    (hn : (jarg As).length ≤ n2) (h17 : n2 ≤ 18) (hcat : (st.map jcat).sum ≤ 8) (hb : kc.1 + b2.1 ≤ kb.1 ∧ kc.2 + b2.2 ≤ kb.2)
    (K : ∀ (v : Option JV) (S' : JS) (D' : JD), Q2 v S' D' → JX G y cc nL rt (d + 1) kb (kc.1 + b2.1, kc.2 + b2.2) S' D' (pc + 3) ls (v.toList ++ st) Q) : JX G y cc nL rt (d + 1) kb kc S D pc ls (As.reverse ++ st) Q := by
  intro p l e R s m args below meth c H locs A QM C9 h1 h2 h3 h4 hS hl hA hK9
  have hts := C9.2.2.2.2.1
  refine jback (vs := []) (As := []) (st0 := As.reverse ++ st) K C9 h1 h2 h3 h4 hl hA hK9 ?_ (a := (As.map jv).toArray)
  refine va_runSN (As := As.map jv) (Ts := WG) ⟨C9.1, C9.2.1, C9.2.2.1, C9.2.2.2.1, hts⟩ (jmet l hM hp hn)
    ⟨va_cnB As.length hts (jgood_code hw.2.2.2) rfl rfl rfl (C9.2.2.2.2.2.1.2.2.1 _ hw.1) (hts _ hw.2.2.1) hx ⟨by show d + 1 ≤ _; omega, by show 8 + (n2 + 11) + 37 * d ≤ _; omega⟩, hts _ hw.2.1, trivial⟩
    ⟨jblind, fun U hU hW => ⟨rfl, by rw [hU]; exact hS, C9.2.2.2.2.2.1.warm hW⟩⟩ rfl (by simp) hA.2.1 (by simp [List.map_reverse]) ?_ hd (by omega)
  rw [jcat_sum]
  show 2 * 0 + _ ≤ 8
  omega
end JCALL
