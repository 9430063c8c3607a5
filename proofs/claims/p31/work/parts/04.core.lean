/-! A JUDGEMENT OVER NUMBERS. Values, fields and addresses are integers; a frame's locals are a row of them; the heap is a
static half S (size, kinds, lengths, references) and a half D of numbers. JX says: from here the frame comes to its return, with Q. -/
abbrev JV : Type := Int ⊕ Int ⊕ Option Int
/-- size of the heap, kinds, lengths, references -/
abbrev JS : Type := Int × (Int → Nat) × (Int → Int) × (Int → Int → Option Int)
abbrev JD : Type := Int → Int → Int
abbrev jN (S : JS) : Int := S.1
abbrev jK (S : JS) : Int → Nat := S.2.1
abbrev jL (S : JS) : Int → Int := S.2.2.1
abbrev jR (S : JS) : Int → Int → Option Int := S.2.2.2
/-- base heap, class numbers and slots, array classes, String constants, script -/
abbrev JG : Type := Heap × va_G × (Nat → ClassId) × (Nat → Nat) × (Nat → Nat) × Nat × Nat × (Nat → Int32)
abbrev gB (G : JG) : Heap := G.1
abbrev gD (G : JG) : va_G := G.2.1
abbrev gA (G : JG) : Nat → ClassId := G.2.2.1
abbrev gS (G : JG) : Nat → Nat := G.2.2.2.1
abbrev gV (G : JG) : Nat → Nat := G.2.2.2.2.1
abbrev gb (G : JG) : Nat := G.2.2.2.2.2.1
abbrev gL (G : JG) : Nat := G.2.2.2.2.2.2.1
abbrev gX (G : JG) : Nat → Int32 := G.2.2.2.2.2.2.2
def jv (x : JV) : Value := match x with
  | .inl e => .int (Int32.ofInt e)
  | .inr (.inl e) => .long (Int64.ofInt e)
  | .inr (.inr r) => va_rf (r.map Int.toNat)
theorem jv_i (e : Int) : jv (.inl e) = .int (Int32.ofInt e) := rfl
theorem jv_l (e : Int) : jv (.inr (.inl e)) = .long (Int64.ofInt e) := rfl
theorem jv_r (a : Int) : jv (.inr (.inr (some a))) = .ref a.toNat := rfl
theorem jv_n : jv (.inr (.inr none)) = .null := rfl
/-- the classes by kinds, their fields' types -/
def jcl : List vw_C := [(RX0, TX0, 8), (RX1, TX1, 8), (RX2, TX2, 9), (RX3, TX3, 3), (RX4, TX4, 6), (RX5, TX5, 3), (RX6, TX6, 5), (RX7, TX7, 6)]
def jty (c : Nat) : Nat → FieldType := match c with
  | 0 => tyX0
  | 1 => tyX1
  | 2 => tyX2
  | 3 => tyX3
  | 4 => tyX4
  | 5 => tyX5
  | 6 => tyX6
  | 7 => tyX7
  | _ => fun _ => .int
/-- elements of arrays by kinds: 9 int, 10 char, 11 int (no row uses it), 12 Water, 13 Chamber, 14 Barge, 15 Flight -/
def jat (c : Nat) : FieldType := match c with
  | 9 => .int
  | 10 => .char
  | 11 => .int
  | 12 => .object RX6
  | 13 => .object RX1
  | 14 => .object RX0
  | 15 => .object RX2
  | _ => .int
def jfv (ty : FieldType) (e : Int) (r : Option Int) : Value := match ty with
  | .long => .long (Int64.ofInt e)
  | .object _ => va_rf (r.map Int.toNat)
  | .array _ => va_rf (r.map Int.toNat)
  | _ => .int (Int32.ofInt e)
/-- the cell of an object of kind c -/
def jOb (G : JG) (S : JS) (D : JD) (H : Heap) (a : Int) (c : Nat) : Prop :=
  ∃ r : vw_C, jcl[c]? = some r ∧ t_OB a.toNat ((gD G).1 c) r.2.2 ((gD G).2 c) H (fun k => jfv (jty c k) (D a (k : Int)) (jR S a (k : Int)))
def jAr (G : JG) (S : JS) (D : JD) (H : Heap) (a : Int) (c : Nat) : Prop :=
  H[a.toNat]? = some (arrV (gA G c) (jL S a).toNat (fun j => jfv (jat c) (D a (j : Int)) (jR S a (j : Int))))
def JSim (G : JG) (S : JS) (D : JD) (H : Heap) : Prop :=
  (H.size : Int) = jN S ∧ (gB G).size ≤ H.size ∧ (∀ q : Nat, q < (gB G).size → H[q]? = (gB G)[q]?) ∧
  (∀ (a : Int) (c : Nat), jK S a = c → c < 9 → ((gB G).size : Int) ≤ a ∧ a < jN S ∧ jOb G S D H a c) ∧
  (∀ (a : Int) (c : Nat), jK S a = c → 9 ≤ c → c < 16 → ((gB G).size : Int) ≤ a ∧ a < jN S ∧ 0 ≤ jL S a ∧ jL S a < 2147483648 ∧ jAr G S D H a c)
def jup (D : JD) (a k e : Int) : JD := fun x y => if x = a ∧ y = k then e else D x y
def jur (S : JS) (a k : Int) (r : Option Int) : JS := (S.1, S.2.1, S.2.2.1, fun x y => if x = a ∧ y = k then r else S.2.2.2 x y)
/-- the locals -/
def jLs (nL : Nat) (ls : List (Option JV)) (A : Array Slot) : Prop := ls.length = nL ∧ A.size = nL ∧ lv_wf A ∧ ∀ (k : Nat) (v : JV), ls[k]? = some (some v) → A[k]? = some (.val (jv v))
def jcl2 (ls : List (Option JV)) (k : Nat) : List (Option JV) := match ls[k]? with
  | some (some (.inr (.inl _))) => ls.set k none
  | _ => ls
def jclr (ls : List (Option JV)) (k : Nat) : List (Option JV) := match k with
  | 0 => ls
  | k + 1 => jcl2 ls k
def jst (ls : List (Option JV)) (k : Nat) (v : JV) : List (Option JV) := (jclr ls k).set k (some v)
def jst2 (ls : List (Option JV)) (k : Nat) (v : JV) : List (Option JV) := ((jclr ls k).set k (some v)).set (k + 1) none
/-- String constants: their texts -/
def jtx (i : Nat) : List Int := match i with
  | 0 => [115, 108, 117, 105, 99, 101]
  | 1 => [111, 112, 101, 110]
  | 2 => [99, 108, 111, 115, 101]
  | 3 => [101, 110, 116, 101, 114]
  | 4 => [108, 101, 97, 118, 101]
  | 5 => [108, 111, 97, 100]
  | 6 => [112, 117, 109, 112]
  | _ => []
def jsx (i : Nat) : Nat × String := match i with
  | 0 => (88, "sluice")
  | 1 => (90, "open")
  | 2 => (92, "close")
  | 3 => (94, "enter")
  | 4 => (96, "leave")
  | 5 => (98, "load")
  | 6 => (100, "pump")
  | _ => (102, "")
def jnest : List (String × Nat × MethodName × String) := [(RX2, 29, yX6_init, "BargeLocks"), (RX1, 11, yX6_init, "BargeLocks"), (RX1, 20, yX5_init, "BargeLocks"), (RX2, 31, yX0_init, "BargeLocks"), (RX6, 30, yX7_divideDown, "BargeLocks"), (RX0, 40, yX7_divideDown, "BargeLocks"), (RX4, 77, yX7_isWithin, "BargeLocks")]
/-- what is known of the machine's tables in every method -/
def JKn (G : JG) (U : State) : Prop :=
  (∀ (c : Nat) (q : vw_C), jcl[c]? = some q → u_Kn U q.1 q.2.1 q.2.2 ((gD G).1 c) ((gD G).2 c)) ∧
  (∀ c : Nat, 9 ≤ c → c < 16 → ArrOfT U (gA G c) (jat c) ∧ va_RA U (gA G c) (jat c)) ∧
  (∀ q ∈ jnest, va_Nw (.methodLinkNest q.1 q.2.1 q.2.2.1 q.2.2.2) U) ∧
  (∀ C ∈ [RX6, RX1, RX0, RX2], va_AO C U) ∧
  (∀ i : Nat, i < 8 → vk_R RX4 (jsx i).1 (jsx i).2 (gS G i) U) ∧
  vk_S 8 [6, 4, 5, 5, 5, 4, 4, 0] [[115, 108, 117, 105, 99, 101], [111, 112, 101, 110], [99, 108, 111, 115, 101], [101, 110, 116, 101, 114], [108, 101, 97, 118, 101], [108, 111, 97, 100], [112, 117, 109, 112], []] (gS G) (gV G) (fun q => (gB G).size ≤ q) U (gB G) ∧
  va_X (gb G) (gL G) (gX G) U (gB G) ∧
  va_Z "java/lang/String" "COMPACT_STRINGS" "Z" (.int 1) (fun q => (gB G).size ≤ q) U (gB G) ∧
  va_Zq "jdk/internal/util/Preconditions" "SIOOBE_FORMATTER" "Ljava/util/function/BiFunction;" (fun q => (gB G).size ≤ q) U (gB G)
theorem JKn.same {G : JG} {u U : State} (hv : U.vm = u.vm) (h : JKn G u) : JKn G U := by
  obtain ⟨h1, h2, h3, h4, h5, h6, h7, h8, h9⟩ := h
  have ha : u.vm.Alike U.vm := by rw [hv]; exact Vm.Alike.refl _
  refine ⟨fun c q hq => u_Kn_moved ha (h1 c q hq), fun c a b => ⟨arrOfT_moved ha (h2 c a b).1, (h2 c a b).2.moved ha⟩, fun q hq => va_Nw.same rfl hv.symm (h3 q hq), fun C hC => (h4 C hC).moved ha, fun i hi => (h5 i hi).same hv, vk_S.moved ha h6, h7.moved ha, h8.moved ha, h9.moved ha⟩
theorem JKn.warm {G : JG} {s U : State} (hW : s.WarmedH U.vm) (h : JKn G s) : JKn G U := by
  obtain ⟨h1, h2, h3, h4, h5, h6, h7, h8, h9⟩ := h
  have ha : s.vm.Alike U.vm := hW.alike
  refine ⟨fun c q hq => u_Kn_moved ha (h1 c q hq), fun c a b => ⟨arrOfT_moved ha (h2 c a b).1, (h2 c a b).2.moved ha⟩, fun q hq => va_Nw.warmM hW (h3 q hq), fun C hC => (h4 C hC).moved ha, fun i hi => (h5 i hi).warm hW, vk_S.moved ha h6, h7.moved ha, h8.moved ha, h9.moved ha⟩
/-- a frame of the method y, with the code cc -/
def JCtx (G : JG) (y : MethodName) (cc : ByteArray) (nL : Nat) (rt : Option FieldType) (p : Program) (s : State) (m : MethodId) (args : Array Value) (meth : Method) (c : Code) : Prop :=
  p.tables.exec = Jvm.exec ∧ c.code = cc ∧ c.maxLocals = nL ∧ s.vm.findClass y.cls = some m.cls ∧ (∀ w ∈ WG, w.before args s = true) ∧ JKn G s ∧ meth.sig.returnType = rt ∧ meth.locks = false ∧ meth.name = y.name
/-- pc is at a return that gives v -/
def jRet (cc : ByteArray) (rt : Option FieldType) (pc : Nat) (v : Option JV) (st : List Value) : Prop :=
  (decode cc pc = .ok (.ireturn, 1) ∧ ∃ (e : Int) (ty : FieldType), v = some (.inl e) ∧ st = [.int (Int32.ofInt e)] ∧ rt = some ty ∧ narrow ty (.int (Int32.ofInt e)) = .int (Int32.ofInt e)) ∨
  (decode cc pc = .ok (.lreturn, 1) ∧ ∃ e : Int, v = some (.inr (.inl e)) ∧ st = [.long (Int64.ofInt e)] ∧ rt = some .long) ∨
  (decode cc pc = .ok (.areturn, 1) ∧ ∃ (r : Option Int) (ty : FieldType), v = some (.inr (.inr r)) ∧ st = [va_rf (r.map Int.toNat)] ∧ rt = some ty ∧ ((∃ n, ty = .object n) ∨ ∃ t, ty = .array t)) ∨
  (decode cc pc = .ok (.return_, 1) ∧ v = none ∧ st = [] ∧ rt = none)
def JX (G : JG) (y : MethodName) (cc : ByteArray) (nL : Nat) (rt : Option FieldType) (d : Nat) (kb kc : Nat × Nat) (S : JS) (D : JD) (pc : Nat) (ls : List (Option JV)) (st : List JV) (Q : Option JV → JS → JD → Prop) : Prop :=
  ∀ (p : Program) (l : Launch) (e : Env) (R : Room) (s : State) (m : MethodId) (args : Array Value) (below : List Frame) (meth : Method) (c : Code) (H : Heap) (locs : List Loc) (A : Array Slot) (QM : State → Prop),
    JCtx G y cc nL rt p s m args meth c → d ≤ R.frames → 37 * d ≤ R.locals → kb.1 ≤ R.cells → kb.2 ≤ R.slots → JSim G S D H → (∀ q ∈ locs, (gB G).size ≤ q.base) → jLs nL ls A →
    (∀ (v : Option JV) (S' : JS) (D' : JD) (H' : Heap) (locs' : List Loc) (pc' : Nat) (A' : Array Slot) (st' : List Value), Q v S' D' → JSim G S' D' H' → (∀ q ∈ locs', (gB G).size ≤ q.base) → jRet cc rt pc' v st' → W p l e R s m args below meth c H' locs' kb.1 kb.2 QM (F0 m pc' A' st')) →
    W p l e R s m args below meth c H locs kc.1 kc.2 QM (F0 m pc A (st.map jv))
theorem JX.mono {G : JG} {y : MethodName} {cc : ByteArray} {nL : Nat} {rt : Option FieldType} {d : Nat} {kb kc : Nat × Nat} {S : JS} {D : JD} {pc : Nat} {ls : List (Option JV)} {st : List JV} {Q Q' : Option JV → JS → JD → Prop}
    (h : JX G y cc nL rt d kb kc S D pc ls st Q) (hq : ∀ v S' D', Q v S' D' → Q' v S' D') : JX G y cc nL rt d kb kc S D pc ls st Q' := by
  intro p l e R s m args below meth c H locs A QM C h1 h2 h3 h4 hS hl hA hK
  exact h p l e R s m args below meth c H locs A QM C h1 h2 h3 h4 hS hl hA (fun v S' D' H' locs' pc' A' st' q => hK v S' D' H' locs' pc' A' st' (hq v S' D' q))
