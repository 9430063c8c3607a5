/-! THE LAW: what its tables and its premises say of the machine -/
abbrev lkS (i : Nat) : Term := .string RX4 (jsx i).1
abbrev lkL : List Nat := [6, 4, 5, 5, 5, 4, 4, 0]
abbrev lkB : List (List Int32) := [[115, 108, 117, 105, 99, 101], [111, 112, 101, 110], [99, 108, 111, 115, 101], [101, 110, 116, 101, 114], [108, 101, 97, 118, 101], [108, 111, 97, 100], [112, 117, 109, 112], []]
theorem lk_ex : ∀ i, i < 8 → Cond.exactly (lkS i) "java/lang/String" ∈ flatC (Jvm.Cond.and given_1 narrow_1) := by decide +kernel
theorem lk_co : ∀ i, i < 8 → Cond.eq (.field (lkS i) "java/lang/String" "coder" "B") (.int 0) ∈ flatC (Jvm.Cond.and given_1 narrow_1) := by decide +kernel
theorem lk_ar : ∀ i, i < 8 → Cond.arrayOf (.field (lkS i) "java/lang/String" "value" "[B") .byte ∈ flatC (Jvm.Cond.and given_1 narrow_1) := by decide +kernel
theorem lk_le : ∀ i, i < 8 → Cond.eq (.length (.field (lkS i) "java/lang/String" "value" "[B")) (.int (Int32.ofNat (lkL.getD i 0))) ∈ flatC (Jvm.Cond.and given_1 narrow_1) := by decide +kernel
theorem lk_el : ∀ i, i < 8 → ∀ j, j < lkL.getD i 0 → Cond.eq (.elem (.field (lkS i) "java/lang/String" "value" "[B") (.int (Int32.ofNat j))) (.int ((lkB.getD i []).getD j 0)) ∈ flatC (Jvm.Cond.and given_1 narrow_1) := by decide +kernel
theorem lk_ne : ∀ i, i < 8 → ∀ j, j < 8 → i ≠ j → (Cond.not (Cond.eq (lkS i) (lkS j)) ∈ flatC (Jvm.Cond.and given_1 narrow_1) ∨ Cond.not (Cond.eq (lkS j) (lkS i)) ∈ flatC (Jvm.Cond.and given_1 narrow_1)) := by decide +kernel
theorem lk_n : ∀ i, i < 8 → lkL.getD i 0 < 2 ^ 31 := by decide +kernel
theorem lk_sr : ∀ i, i < 8 → Cond.stringRef RX4 (jsx i).1 (jsx i).2 ∈ lw_tbl := by decide +kernel
theorem lk_nest : ∀ q ∈ jnest, Cond.methodLinkNest q.1 q.2.1 q.2.2.1 q.2.2.2 ∈ lw_tbl := by decide +kernel
theorem lk_z1 : Cond.laysStatic "java/lang/String" "COMPACT_STRINGS" "Z" ∈ lw_tbl := by decide +kernel
theorem lk_z2 : Cond.laysStatic "jdk/internal/util/Preconditions" "SIOOBE_FORMATTER" "Ljava/util/function/BiFunction;" ∈ lw_tbl := by decide +kernel
theorem lk_i1 : Cond.initialized "java/lang/String" ∈ lw_tbl := by decide +kernel
theorem lk_i2 : Cond.initialized "jdk/internal/util/Preconditions" ∈ lw_tbl := by decide +kernel
theorem lk_v1 : Cond.eq (.static "java/lang/String" "COMPACT_STRINGS" "Z") (.int 1) ∈ flatC (Jvm.Cond.and given_1 narrow_1) := by decide +kernel
theorem lk_v2 : Cond.isRef (.static "jdk/internal/util/Preconditions" "SIOOBE_FORMATTER" "Ljava/util/function/BiFunction;") ∈ flatC (Jvm.Cond.and given_1 narrow_1) := by decide +kernel
theorem lk_inst {c : Nat} {q : vw_C} (hc : jcl[c]? = some q) : Cond.instantiable q.1 q.2.2 ∈ WG := by
  match c, hc with
  | 0, hc => cases hc; exact ins_RX0
  | 1, hc => cases hc; exact ins_RX1
  | 2, hc => cases hc; exact ins_RX2
  | 3, hc => cases hc; exact ins_RX3
  | 4, hc => cases hc; exact ins_RX4
  | 5, hc => cases hc; exact ins_RX5
  | 6, hc => cases hc; exact ins_RX6
  | 7, hc => cases hc; exact ins_RX7
  | k + 8, hc => simp [jcl] at hc
theorem lk_arr {s : State} {args : Array Value} {ty : FieldType} (h : (Cond.arrayClass ty).before args s = true) : ∃ cA : ClassId, ArrOfT s cA ty ∧ s.vm.findClass ("[" ++ ty.toString) = some cA := by
  obtain ⟨cA, kA, comp, h1, h2, h3⟩ := Cond.arrayClass_spec h
  exact ⟨cA, fun n z => ⟨fun k h => (by cases h), kA, h2, comp, h3⟩, h1⟩
theorem lk_arrO {s : State} {args : Array Value} {C : String} (h : (Cond.arrayOver (.object C)).before args s = true) : ∃ cA : ClassId, ArrOfT s cA (.object C) ∧ va_RA s cA (.object C) := by
  obtain ⟨comp, cA, kA, h1, -, h3, h4, h5⟩ := Cond.arrayOver_spec h
  exact ⟨cA, fun n z => ⟨fun k h => (by cases h), kA, h3, comp, h4⟩, kA, comp, h3, h4, h1, h5⟩
theorem law_known {s : State} {b L : Nat} {xs : Nat → Int32} (hts : ∀ w ∈ lw_tbl, w.before #[Value.ref b] s = true) (hgv : (Jvm.Cond.and given_1 narrow_1).before #[Value.ref b] s = true) (hX : va_X b L xs s s.heap) : ∃ G : JG, gB G = s.heap ∧ gb G = b ∧ gL G = L ∧ gX G = xs ∧ JKn G s := by
  have hs := flat_of_before _ hgv
  have hw : ∀ w ∈ WG, w.before #[Value.ref b] s = true := fun w h => hts w (WG_tbl w h)
  have hA : ∀ a : Nat, a < s.heap.size → ¬ (fun q : Nat => s.heap.size ≤ q) a := fun a h => Nat.not_le.mpr h
  have h0 : ∀ c : Nat, ∃ x : ClassId × (Nat → Nat), ∀ q : vw_C, jcl[c]? = some q → u_Kn s q.1 q.2.1 q.2.2 x.1 x.2 := by
    intro c
    cases hc : jcl[c]? with
    | none => exact ⟨((0 : Nat), fun _ => 0), fun q h => by cases h⟩
    | some q =>
      obtain ⟨cC, iS, h⟩ := u_known (C := q.1) (T := q.2.1) (N := q.2.2) (n := q.2.2) hw (jlays hc) (hw _ (lk_inst hc))
      exact ⟨(cC, iS), fun q2 e => by cases e; exact h⟩
  obtain ⟨fc, hfc⟩ := Classical.axiomOfChoice h0
  have h1 : ∀ c : Nat, ∃ cA : ClassId, 9 ≤ c → c < 16 → ArrOfT s cA (jat c) ∧ va_RA s cA (jat c) := by
    intro c
    by_cases q : 9 ≤ c ∧ c < 16
    · rcases (show c = 9 ∨ c = 10 ∨ c = 11 ∨ c = 12 ∨ c = 13 ∨ c = 14 ∨ c = 15 by omega) with rfl | rfl | rfl | rfl | rfl | rfl | rfl
      · obtain ⟨cA, a1, a2⟩ := lk_arr (hw _ ac_int); exact ⟨cA, fun _ _ => ⟨a1, a2⟩⟩
      · obtain ⟨cA, a1, a2⟩ := lk_arr (hw _ ac_char); exact ⟨cA, fun _ _ => ⟨a1, a2⟩⟩
      · obtain ⟨cA, a1, a2⟩ := lk_arr (hw _ ac_int); exact ⟨cA, fun _ _ => ⟨a1, a2⟩⟩
      · obtain ⟨cA, a⟩ := lk_arrO (hts _ ao_RX6); exact ⟨cA, fun _ _ => a⟩
      · obtain ⟨cA, a⟩ := lk_arrO (hts _ ao_RX1); exact ⟨cA, fun _ _ => a⟩
      · obtain ⟨cA, a⟩ := lk_arrO (hts _ ao_RX0); exact ⟨cA, fun _ _ => a⟩
      · obtain ⟨cA, a⟩ := lk_arrO (hts _ ao_RX2); exact ⟨cA, fun _ _ => a⟩
    · exact ⟨(0 : Nat), fun a b => absurd ⟨a, b⟩ q⟩
  obtain ⟨fa, hfa⟩ := Classical.axiomOfChoice h1
  obtain ⟨adK, adV, hS, hev⟩ := vk_Sof (args := #[Value.ref b]) (s := s) (N := 8) (tm := lkS) (len := lkL) (byt := lkB) (A := fun q : Nat => s.heap.size ≤ q) lk_n (fun i hi => hs _ (lk_ex i hi)) (fun i hi => hs _ (lk_co i hi)) (fun i hi => hs _ (lk_ar i hi)) (fun i hi => hs _ (lk_le i hi)) (fun i hi j hj => hs _ (lk_el i hi j hj))
    (fun i j hi hj e => (lk_ne i hi j hj e).elim (fun h => Or.inl (hs _ h)) (fun h => Or.inr (hs _ h))) hA
  refine ⟨(s.heap, (fun c => (fc c).1, fun c => (fc c).2), fa, adK, adV, b, L, xs), rfl, rfl, rfl, rfl, fun c q hq => hfc c q hq, fun c a1 a2 => hfa c a1 a2, fun q hq => va_Nw.of rfl (hts _ (lk_nest q hq)), fun C hC => ?_, fun i hi => vk_R.of (hts _ (lk_sr i hi)) (hev i hi), hS, hX, va_Zof (hts _ lk_z1) (hts _ lk_i1) (va_eqi (hs _ lk_v1)) hA, va_Zqof (hts _ lk_z2) (hts _ lk_i2) (hs _ lk_v2) hA⟩
  rcases List.mem_cons.mp hC with rfl | hC
  · exact va_AO.of (hts _ ao_RX6)
  rcases List.mem_cons.mp hC with rfl | hC
  · exact va_AO.of (hts _ ao_RX1)
  rcases List.mem_cons.mp hC with rfl | hC
  · exact va_AO.of (hts _ ao_RX0)
  rcases List.mem_cons.mp hC with rfl | hC
  · exact va_AO.of (hts _ ao_RX2)
  cases hC
