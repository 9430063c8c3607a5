/-! STRING CONSTANTS: length and charAt -/
def jln (i : Nat) : Int := ((jtx i).length : Int)
def jch (i : Nat) (e : Int) : Int := (jtx i).getD e.toNat 0
def jLen : List Nat := [6, 4, 5, 5, 5, 4, 4, 0]
def jByt : List (List Int32) := [[115, 108, 117, 105, 99, 101], [111, 112, 101, 110], [99, 108, 111, 115, 101], [101, 110, 116, 101, 114], [108, 101, 97, 118, 101], [108, 111, 97, 100], [112, 117, 109, 112], []]
theorem jtx_all : ∀ i : Nat, i < 8 → jLen.getD i 0 = (jtx i).length ∧ (jtx i).length ≤ 6 ∧ ∀ j : Nat, j < 6 → (jByt.getD i []).getD j 0 = Int32.ofInt ((jtx i).getD j 0) ∧ Int32.ofInt ((jtx i).getD j 0) &&& Int32.ofInt 255 = Int32.ofInt ((jtx i).getD j 0) ∧ 0 ≤ (jtx i).getD j 0 ∧ (jtx i).getD j 0 < 128 := by decide +kernel
theorem jch_r {i : Nat} {e : Int} (hi : i < 8) (h0 : 0 ≤ e) (h1 : e < jln i) : 0 ≤ jch i e ∧ jch i e < 128 := by
  have h := jtx_all i hi
  unfold jln at h1
  exact ⟨(h.2.2 e.toNat (by omega)).2.2.1, (h.2.2 e.toNat (by omega)).2.2.2⟩
section JSTR
variable {G : JG} {y : MethodName} {cc : ByteArray} {nL : Nat} {rt : Option FieldType} {d : Nat} {kb kc : Nat × Nat} {S : JS} {D : JD} {pc : Nat} {ls : List (Option JV)} {st : List JV} {Q : Option JV → JS → JD → Prop}
theorem x_ldcS {i index : Nat} (hd : decode cc pc = .ok (.ldc index, 2)) (hx : index = (jsx i).1) (hy : y.cls = RX4) (hi : i < 8) (K : JX G y cc nL rt d kb kc S D (pc + 2) ls (.inr (.inr (some (gS G i : Int))) :: st) Q) : JX G y cc nL rt d kb kc S D pc ls st Q := by
  intro p l e9 R s m args below meth c9 H locs A QM C9 h1 h2 h3 h4 hS hl hA hK9
  subst hx
  exact va_ldcS C9.1 C9.2.1 C9.2.2.2.1 (by rw [hy]; exact C9.2.2.2.2.2.1.2.2.2.2.1 i hi) hd (K p l e9 R s m args below meth c9 H locs A QM C9 h1 h2 h3 h4 hS hl hA hK9)
theorem x_strV {i : Nat} (hd : decode cc pc = .ok (.getfield 9, 3)) (hy : y.cls = RJ0) (hi : i < 8) (K : JX G y cc nL rt d kb kc S D (pc + 3) ls (.inr (.inr (some (gV G i : Int))) :: st) Q) : JX G y cc nL rt d kb kc S D pc ls (.inr (.inr (some (gS G i : Int))) :: st) Q := by
  intro p l e9 R s m args below meth c9 H locs A QM C9 h1 h2 h3 h4 hS hl hA hK9
  obtain ⟨cf, k, fi, f, cell, q1, q2, q3, q4, q5, q6⟩ := ((C9.2.2.2.2.2.1.2.2.2.2.2.1).1 i hi).2.2.1.kept (H1 := H) (fun a ha _ => hS.2.2.1 a ha)
  exact W.getf C9.1 C9.2.1 C9.2.2.2.1 (C9.2.2.2.2.1 _ (by rw [hy]; exact fl_RJ0_9)) q1 q2 q3 q4 q5 rfl rfl hd (K p l e9 R s m args below meth c9 H locs A QM C9 h1 h2 h3 h4 hS hl hA hK9)
theorem x_strC {i : Nat} (hd : decode cc pc = .ok (.getfield 15, 3)) (hy : y.cls = RJ0) (hi : i < 8) (K : JX G y cc nL rt d kb kc S D (pc + 3) ls (.inl 0 :: st) Q) : JX G y cc nL rt d kb kc S D pc ls (.inr (.inr (some (gS G i : Int))) :: st) Q := by
  intro p l e9 R s m args below meth c9 H locs A QM C9 h1 h2 h3 h4 hS hl hA hK9
  obtain ⟨cf, k, fi, f, cell, q1, q2, q3, q4, q5, q6⟩ := ((C9.2.2.2.2.2.1.2.2.2.2.2.1).1 i hi).2.1.kept (H1 := H) (fun a ha _ => hS.2.2.1 a ha)
  exact W.getf C9.1 C9.2.1 C9.2.2.2.1 (C9.2.2.2.2.1 _ (by rw [hy]; exact fl_RJ0_15)) q1 q2 q3 q4 q5 rfl rfl hd (K p l e9 R s m args below meth c9 H locs A QM C9 h1 h2 h3 h4 hS hl hA hK9)
theorem x_strN {i : Nat} (hd : decode cc pc = .ok (.arraylength, 1)) (hi : i < 8) (K : JX G y cc nL rt d kb kc S D (pc + 1) ls (.inl (jln i) :: st) Q) : JX G y cc nL rt d kb kc S D pc ls (.inr (.inr (some (gV G i : Int))) :: st) Q := by
  intro p l e9 R s m args below meth c9 H locs A QM C9 h1 h2 h3 h4 hS hl hA hK9
  obtain ⟨cell, q1, q2, q3, q4, q5, q6, q7⟩ := ((C9.2.2.2.2.2.1.2.2.2.2.2.1).1 i hi).2.2.2.kept (H1 := H) (fun a ha _ => hS.2.2.1 a ha)
  have h := (jtx_all i hi).1
  exact W.alen (n := Int32.ofInt (jln i)) C9.1 C9.2.1 (a := gV G i) q1 q2 (by rw [q5]; show Int32.ofNat (jLen.getD i 0) = _; rw [h]; exact (Int32.ofInt_eq_ofNat).symm) rfl rfl hd (K p l e9 R s m args below meth c9 H locs A QM C9 h1 h2 h3 h4 hS hl hA hK9)
theorem x_strB {i : Nat} {e : Int} (hd : decode cc pc = .ok (.baload, 1)) (hi : i < 8) (he : 0 ≤ e ∧ e < jln i) (K : JX G y cc nL rt d kb kc S D (pc + 1) ls (.inl (jch i e) :: st) Q) : JX G y cc nL rt d kb kc S D pc ls (.inl e :: .inr (.inr (some (gV G i : Int))) :: st) Q := by
  intro p l e9 R s m args below meth c9 H locs A QM C9 h1 h2 h3 h4 hS hl hA hK9
  obtain ⟨cell, q1, q2, q3, q4, q5, q6, q7⟩ := ((C9.2.2.2.2.2.1.2.2.2.2.2.1).1 i hi).2.2.2.kept (H1 := H) (fun a ha _ => hS.2.2.1 a ha)
  have h := jtx_all i hi
  have q4' : (jtx i).length ≤ cell.slots.size := by rw [← h.1]; exact q4
  have he2 := he.2
  unfold jln at he2
  have hn : (Int32.ofInt e).toNatClampNeg = e.toNat := i32_nn he.1 (by omega)
  refine W.bald (j := Int32.ofInt e) (v := .int (Int32.ofInt (jch i e))) C9.1 C9.2.1 (a := gV G i) q1 q2 q3 ?_ ?_ rfl rfl hd (K p l e9 R s m args below meth c9 H locs A QM C9 h1 h2 h3 h4 hS hl hA hK9)
  · rintro (z | z)
    · rw [i32_lt0 ⟨by omega, by omega⟩] at z; omega
    · rw [hn] at z; omega
  · rw [hn, q6 e.toNat (by show e.toNat < jLen.getD i 0; rw [h.1]; omega)]
    exact congrArg some (congrArg Value.int (h.2.2 e.toNat (by omega)).1)
theorem x_compact (hd : decode cc pc = .ok (.getstatic 38, 3)) (hy : y.cls = RJ0) (K : JX G y cc nL rt d kb kc S D (pc + 3) ls (.inl 1 :: st) Q) : JX G y cc nL rt d kb kc S D pc ls st Q := by
  intro p l e9 R s m args below meth c9 H locs A QM C9 h1 h2 h3 h4 hS hl hA hK9
  obtain ⟨cf, kf, fi, f, a, cell, q1, q2, q3, q4, q5, q6, q7, q8⟩ := (C9.2.2.2.2.2.1.2.2.2.2.2.2.2.1).kept (H1 := H) (fun a ha _ => hS.2.2.1 a ha)
  exact W.gets C9.1 C9.2.1 C9.2.2.2.1 (C9.2.2.2.2.1 _ (by rw [hy]; exact fl_RJ0_38)) q1 q2 q3 q4 q5 (fun e => by rw [e] at q6; cases q6) q7 rfl hd (K p l e9 R s m args below meth c9 H locs A QM C9 h1 h2 h3 h4 hS hl hA hK9)
theorem x_format (hd : decode cc pc = .ok (.getstatic 1053, 3)) (hy : y.cls = RJ0) (K : ∀ r : Option Int, JX G y cc nL rt d kb kc S D (pc + 3) ls (.inr (.inr r) :: st) Q) : JX G y cc nL rt d kb kc S D pc ls st Q := by
  intro p l e9 R s m args below meth c9 H locs A QM C9 h1 h2 h3 h4 hS hl hA hK9
  rcases C9.2.2.2.2.2.1.2.2.2.2.2.2.2.2 with hb | ⟨b, hb⟩
  · obtain ⟨cf, kf, fi, f, a, cell, q1, q2, q3, q4, q5, q6, q7, q8⟩ := hb.kept (H1 := H) (fun a ha _ => hS.2.2.1 a ha)
    exact W.gets C9.1 C9.2.1 C9.2.2.2.1 (C9.2.2.2.2.1 _ (by rw [hy]; exact fl_RJ0_1053)) q1 q2 q3 q4 q5 (fun e => by rw [e] at q6; cases q6) q7 rfl hd (K none p l e9 R s m args below meth c9 H locs A QM C9 h1 h2 h3 h4 hS hl hA hK9)
  · obtain ⟨cf, kf, fi, f, a, cell, q1, q2, q3, q4, q5, q6, q7, q8⟩ := hb.kept (H1 := H) (fun a ha _ => hS.2.2.1 a ha)
    exact W.gets C9.1 C9.2.1 C9.2.2.2.1 (C9.2.2.2.2.1 _ (by rw [hy]; exact fl_RJ0_1053)) q1 q2 q3 q4 q5 (fun e => by rw [e] at q6; cases q6) q7 rfl hd (K (some (b : Int)) p l e9 R s m args below meth c9 H locs A QM C9 h1 h2 h3 h4 hS hl hA hK9)
theorem x_ishr0 {a : Int} (hd : decode cc pc = .ok (.ishr, 1)) (K : JX G y cc nL rt d kb kc S D (pc + 1) ls (.inl a :: st) Q) : JX G y cc nL rt d kb kc S D pc ls (.inl 0 :: .inl a :: st) Q := by
  intro p l e9 R s m args below meth c H locs A QM C h1 h2 h3 h4 hS hl hA hK
  refine lv_ishr C.1 C.2.1 hd ?_
  have z : Int32.ofInt a >>> (Int32.ofInt 0 &&& 31) = Int32.ofInt a := by
    rw [show (Int32.ofInt 0 &&& 31 : Int32) = 0 by decide]
    exact Int32.shiftRight_zero
  rw [z]
  exact K p l e9 R s m args below meth c H locs A QM C h1 h2 h3 h4 hS hl hA hK
theorem x_iandv {a b v : Int} (hd : decode cc pc = .ok (.iand, 1)) (z : Int32.ofInt a &&& Int32.ofInt b = Int32.ofInt v) (K : JX G y cc nL rt d kb kc S D (pc + 1) ls (.inl v :: st) Q) : JX G y cc nL rt d kb kc S D pc ls (.inl b :: .inl a :: st) Q := by
  intro p l e9 R s m args below meth c H locs A QM C h1 h2 h3 h4 hS hl hA hK
  refine lv_iand C.1 C.2.1 hd ?_
  rw [z]
  exact K p l e9 R s m args below meth c H locs A QM C h1 h2 h3 h4 hS hl hA hK
theorem x_pop {a : Int} (hd : decode cc pc = .ok (.pop, 1)) (K : JX G y cc nL rt d kb kc S D (pc + 1) ls st Q) : JX G y cc nL rt d kb kc S D pc ls (.inl a :: st) Q := by
  intro p l e9 R s m args below meth c H locs A QM C h1 h2 h3 h4 hS hl hA hK
  exact lv_pop C.1 C.2.1 hd rfl (K p l e9 R s m args below meth c H locs A QM C h1 h2 h3 h4 hS hl hA hK)
variable {y2 : MethodName} {c2 : ByteArray} {n2 : Nat} {r2 : Option FieldType} {b2 : Nat × Nat} {Q2 : Option JV → JS → JD → Prop} {index : Nat}
theorem jVs {As : List JV} {i : Nat} (hi : i < 8) (hd : decode cc pc = .ok (.invokevirtual index, 3)) (hM : JM G y2 c2 n2 r2 d b2 S D (.inr (.inr (some (gS G i : Int))) :: As) Q2)
    (hw : Cond.methodLink y.cls index y2 ∈ WG ∧ Cond.instanceMethod y2 ∈ WG ∧ Cond.selects y2.cls y2 y2 ∈ WG ∧ Cond.initialized y2.cls ∈ WG ∧ Cond.code y2 c2 n2 r2 ∈ WG) (hp : plainFor y2 = true) (hx : y2.cls ≠ "java/lang/invoke/MethodHandle" ∧ y2.cls ≠ "java/lang/invoke/VarHandle" ∧ (parseMethodDescriptor y2.desc).map (fun d => d.parameters.length) = some As.length)
    (hn : (jarg (.inr (.inr (some (gS G i : Int))) :: As)).length ≤ n2) (h17 : n2 ≤ 18) (hs : y2.cls = "java/lang/String") (hcat : (st.map jcat).sum ≤ 8) (hb : kc.1 + b2.1 ≤ kb.1 ∧ kc.2 + b2.2 ≤ kb.2)
    (K : ∀ (v : Option JV) (S' : JS) (D' : JD), Q2 v S' D' → JX G y cc nL rt (d + 1) kb (kc.1 + b2.1, kc.2 + b2.2) S' D' (pc + 3) ls (v.toList ++ st) Q) : JX G y cc nL rt (d + 1) kb kc S D pc ls (As.reverse ++ .inr (.inr (some (gS G i : Int))) :: st) Q := by
  intro p l e R s m args below meth c H locs A QM C9 h1 h2 h3 h4 hS hl hA hK9
  have hts := C9.2.2.2.2.1
  obtain ⟨cell, q1, q2, q3, -⟩ := ((C9.2.2.2.2.2.1.2.2.2.2.2.1).1 i hi).1.kept (H1 := H) (fun a ha _ => hS.2.2.1 a ha)
  refine jback (vs := []) (As := []) (st0 := As.reverse ++ .inr (.inr (some (gS G i : Int))) :: st) K C9 h1 h2 h3 h4 hl hA hK9 ?_ (a := (Value.ref (gS G i) :: As.map jv).toArray)
  refine va_runV (As := As.map jv) (b := gS G i) (Ts := WG) ⟨C9.1, C9.2.1, C9.2.2.1, C9.2.2.2.1, hts⟩ (jmet l hM hp hn)
    (cwV As.length hts (C := y2.cls) (jgood (fun w hw2 => ?_)) rfl rfl rfl ⟨rfl, hx⟩ ⟨by show d + 1 ≤ _; omega, by show 8 + (n2 + 11) + 37 * d ≤ _; omega⟩)
    ⟨jblind, ⟨cell, q1, q2, by rw [hs]; exact q3⟩, fun U hU hW => ⟨rfl, by rw [hU]; exact hS, C9.2.2.2.2.2.1.warm hW⟩⟩ rfl (by simp) hA.2.1 (by simp [List.map_reverse, jv_r]) ?_ hd (by omega)
  · rcases List.mem_append.mp hw2 with h | h
    · simp only [List.mem_cons, List.not_mem_nil, or_false] at h
      rcases h with rfl | rfl | rfl | rfl
      · exact hw.1
      · exact hw.2.1
      · exact hw.2.2.1
      · exact hw.2.2.2.1
    · rcases List.mem_cons.mp h with rfl | h
      · exact hw.2.2.2.2
      · exact h
  · rw [jcat_sum]
    show 2 * 0 + _ ≤ 8
    omega
theorem s_RJ0_335 {i : Nat} {w : JV} {S1 : JS} {D1 : JD} (hi : i < 8) (hd : decode cc pc = .ok (.invokevirtual 335, 3)) (hy : y.cls = RJ0) (hM : JM G yJ0_coder_7d493 cJ0_coder_7d493 1 (some .byte) d (0, 0) S D [.inr (.inr (some (gS G i : Int)))] (jr w S1 D1)) (hn : (jarg [.inr (.inr (some (gS G i : Int)))]).length ≤ 1) (hcat : (st.map jcat).sum ≤ 8) (hb : kc.1 ≤ kb.1 ∧ kc.2 ≤ kb.2) (K : JX G y cc nL rt (d + 1) kb kc S1 D1 (pc + 3) ls (w :: st) Q) : JX G y cc nL rt (d + 1) kb kc S D pc ls (.inr (.inr (some (gS G i : Int))) :: st) Q :=
  jVs hi (As := []) (d := d) (b2 := (0, 0)) (kc := kc) hd hM ⟨(by rw [hy]; exact ml_RJ0_335), im_J0_coder_7d493, sel_J0_coder_7d493, ini_RJ0, cd_J0_coder_7d493⟩ (by decide +kernel) ⟨by decide, by decide, (by show _ = some 0; decide +kernel)⟩ hn (by decide) rfl hcat hb (fun v S2 D2 h => by obtain ⟨rfl, rfl, rfl⟩ := h; exact K)
theorem s_RJ0_492 {i : Nat} {w : JV} {S1 : JS} {D1 : JD} (hi : i < 8) (hd : decode cc pc = .ok (.invokevirtual 492, 3)) (hy : y.cls = RJ0) (hM : JM G yJ0_isLatin1_aae02 cJ0_isLatin1_aae02 1 (some .boolean) d (0, 0) S D [.inr (.inr (some (gS G i : Int)))] (jr w S1 D1)) (hn : (jarg [.inr (.inr (some (gS G i : Int)))]).length ≤ 1) (hcat : (st.map jcat).sum ≤ 8) (hb : kc.1 ≤ kb.1 ∧ kc.2 ≤ kb.2) (K : JX G y cc nL rt (d + 1) kb kc S1 D1 (pc + 3) ls (w :: st) Q) : JX G y cc nL rt (d + 1) kb kc S D pc ls (.inr (.inr (some (gS G i : Int))) :: st) Q :=
  jVs hi (As := []) (d := d) (b2 := (0, 0)) (kc := kc) hd hM ⟨(by rw [hy]; exact ml_RJ0_492), im_J0_isLatin1_aae02, sel_J0_isLatin1_aae02, ini_RJ0, cd_J0_isLatin1_aae02⟩ (by decide +kernel) ⟨by decide, by decide, (by show _ = some 0; decide +kernel)⟩ hn (by decide) rfl hcat hb (fun v S2 D2 h => by obtain ⟨rfl, rfl, rfl⟩ := h; exact K)
theorem s_RJ0_495 {x0 x1 : JV} {w : JV} {S1 : JS} {D1 : JD} (hd : decode cc pc = .ok (.invokestatic 495, 3)) (hy : y.cls = RJ0) (hM : JM G yJ1_charAt_3b067 cJ1_charAt_3b067 2 (some .char) d (0, 0) S D [x0, x1] (jr w S1 D1)) (hn : (jarg [x0, x1]).length ≤ 2) (hcat : (st.map jcat).sum ≤ 8) (hb : kc.1 ≤ kb.1 ∧ kc.2 ≤ kb.2) (K : JX G y cc nL rt (d + 1) kb kc S1 D1 (pc + 3) ls (w :: st) Q) : JX G y cc nL rt (d + 1) kb kc S D pc ls (x1 :: x0 :: st) Q :=
  jS (As := [x0, x1]) (d := d) (b2 := (0, 0)) (kc := kc) hd hM ⟨(by rw [hy]; exact ml_RJ0_495), st_J1_charAt_3b067, ini_RJ1, cd_J1_charAt_3b067⟩ (by decide +kernel) ⟨by decide, by decide, (by show _ = some 2; decide +kernel)⟩ hn (by decide) hcat hb (fun v S2 D2 h => by obtain ⟨rfl, rfl, rfl⟩ := h; exact K)
theorem s_RJ1_9 {x0 x1 : JV} {S1 : JS} {D1 : JD} (hd : decode cc pc = .ok (.invokestatic 9, 3)) (hy : y.cls = RJ1) (hM : JM G yJ0_checkIndex_df160 cJ0_checkIndex_df160 2 none d (0, 0) S D [x0, x1] (jn S1 D1)) (hn : (jarg [x0, x1]).length ≤ 2) (hcat : (st.map jcat).sum ≤ 8) (hb : kc.1 ≤ kb.1 ∧ kc.2 ≤ kb.2) (K : JX G y cc nL rt (d + 1) kb kc S1 D1 (pc + 3) ls st Q) : JX G y cc nL rt (d + 1) kb kc S D pc ls (x1 :: x0 :: st) Q :=
  jS (As := [x0, x1]) (d := d) (b2 := (0, 0)) (kc := kc) hd hM ⟨(by rw [hy]; exact ml_RJ1_9), st_J0_checkIndex_df160, ini_RJ0, cd_J0_checkIndex_df160⟩ (by decide +kernel) ⟨by decide, by decide, (by show _ = some 2; decide +kernel)⟩ hn (by decide) hcat hb (fun v S2 D2 h => by obtain ⟨rfl, rfl, rfl⟩ := h; exact K)
theorem s_RJ0_1059 {x0 x1 x2 : JV} {w : JV} {S1 : JS} {D1 : JD} (hd : decode cc pc = .ok (.invokestatic 1059, 3)) (hy : y.cls = RJ0) (hM : JM G yJ3_checkIndex_8e157 cJ3_checkIndex_8e157 3 (some .int) d (0, 0) S D [x0, x1, x2] (jr w S1 D1)) (hn : (jarg [x0, x1, x2]).length ≤ 3) (hcat : (st.map jcat).sum ≤ 8) (hb : kc.1 ≤ kb.1 ∧ kc.2 ≤ kb.2) (K : JX G y cc nL rt (d + 1) kb kc S1 D1 (pc + 3) ls (w :: st) Q) : JX G y cc nL rt (d + 1) kb kc S D pc ls (x2 :: x1 :: x0 :: st) Q :=
  jS (As := [x0, x1, x2]) (d := d) (b2 := (0, 0)) (kc := kc) hd hM ⟨(by rw [hy]; exact ml_RJ0_1059), st_J3_checkIndex_8e157, ini_RJ3, cd_J3_checkIndex_8e157⟩ (by decide +kernel) ⟨by decide, by decide, (by show _ = some 3; decide +kernel)⟩ hn (by decide) hcat hb (fun v S2 D2 h => by obtain ⟨rfl, rfl, rfl⟩ := h; exact K)
theorem s_RX4_81 {i : Nat} {w : JV} {S1 : JS} {D1 : JD} (hi : i < 8) (hd : decode cc pc = .ok (.invokevirtual 81, 3)) (hy : y.cls = RX4) (hM : JM G yJ0_length_8abf5 cJ0_length_8abf5 1 (some .int) d (0, 0) S D [.inr (.inr (some (gS G i : Int)))] (jr w S1 D1)) (hn : (jarg [.inr (.inr (some (gS G i : Int)))]).length ≤ 1) (hcat : (st.map jcat).sum ≤ 8) (hb : kc.1 ≤ kb.1 ∧ kc.2 ≤ kb.2) (K : JX G y cc nL rt (d + 1) kb kc S1 D1 (pc + 3) ls (w :: st) Q) : JX G y cc nL rt (d + 1) kb kc S D pc ls (.inr (.inr (some (gS G i : Int))) :: st) Q :=
  jVs hi (As := []) (d := d) (b2 := (0, 0)) (kc := kc) hd hM ⟨(by rw [hy]; exact ml_RX4_81), im_J0_length_8abf5, sel_J0_length_8abf5, ini_RJ0, cd_J0_length_8abf5⟩ (by decide +kernel) ⟨by decide, by decide, (by show _ = some 0; decide +kernel)⟩ hn (by decide) rfl hcat hb (fun v S2 D2 h => by obtain ⟨rfl, rfl, rfl⟩ := h; exact K)
theorem s_RX4_85 {i : Nat} {x0 : JV} {w : JV} {S1 : JS} {D1 : JD} (hi : i < 8) (hd : decode cc pc = .ok (.invokevirtual 85, 3)) (hy : y.cls = RX4) (hM : JM G yJ0_charAt_5068e cJ0_charAt_5068e 2 (some .char) d (0, 0) S D [.inr (.inr (some (gS G i : Int))), x0] (jr w S1 D1)) (hn : (jarg [.inr (.inr (some (gS G i : Int))), x0]).length ≤ 2) (hcat : (st.map jcat).sum ≤ 8) (hb : kc.1 ≤ kb.1 ∧ kc.2 ≤ kb.2) (K : JX G y cc nL rt (d + 1) kb kc S1 D1 (pc + 3) ls (w :: st) Q) : JX G y cc nL rt (d + 1) kb kc S D pc ls (x0 :: .inr (.inr (some (gS G i : Int))) :: st) Q :=
  jVs hi (As := [x0]) (d := d) (b2 := (0, 0)) (kc := kc) hd hM ⟨(by rw [hy]; exact ml_RX4_85), im_J0_charAt_5068e, sel_J0_charAt_5068e, ini_RJ0, cd_J0_charAt_5068e⟩ (by decide +kernel) ⟨by decide, by decide, (by show _ = some 1; decide +kernel)⟩ hn (by decide) rfl hcat hb (fun v S2 D2 h => by obtain ⟨rfl, rfl, rfl⟩ := h; exact K)
end JSTR
theorem kJ0_coder {G : JG} {S : JS} {D : JD} {d : Nat} {i : Nat} (hi : i < 8) : JM G yJ0_coder_7d493 cJ0_coder_7d493 1 (some .byte) d (0, 0) S D [.inr (.inr (some (gS G i : Int)))] (jr (.inl 0) S D) := by
  show JX _ _ _ _ _ _ _ _ _ _ _ [_] _ _
  refine x_compact dJ0_coder_7d493_0 rfl ?_
  refine x_if_eq (tgt := 13) dJ0_coder_7d493_3 (by decide) ⟨by omega, by omega⟩ (fun h => absurd h (by omega)) (fun hb3 => ?_)
  refine x_aload_n dJ0_coder_7d493_6 rfl ?_
  refine x_strC dJ0_coder_7d493_7 rfl hi ?_
  refine x_goto (tgt := 14) dJ0_coder_7d493_10 (by decide) ?_
  exact x_ireturn dJ0_coder_7d493_14 rfl (by decide) ⟨Nat.le_refl _, Nat.le_refl _⟩ ⟨rfl, rfl, rfl⟩
theorem kJ0_isLatin1 {G : JG} {S : JS} {D : JD} {d : Nat} {i : Nat} (hi : i < 8) : JM G yJ0_isLatin1_aae02 cJ0_isLatin1_aae02 1 (some .boolean) d (0, 0) S D [.inr (.inr (some (gS G i : Int)))] (jr (.inl 1) S D) := by
  show JX _ _ _ _ _ _ _ _ _ _ _ [_] _ _
  refine x_compact dJ0_isLatin1_aae02_0 rfl ?_
  refine x_if_eq (tgt := 17) dJ0_isLatin1_aae02_3 (by decide) ⟨by omega, by omega⟩ (fun h => absurd h (by omega)) (fun hb3 => ?_)
  refine x_aload_n dJ0_isLatin1_aae02_6 rfl ?_
  refine x_strC dJ0_isLatin1_aae02_7 rfl hi ?_
  refine x_if_ne (tgt := 17) dJ0_isLatin1_aae02_10 (by decide) ⟨by omega, by omega⟩ (fun h => absurd h (by omega)) (fun hb10 => ?_)
  refine x_iconst dJ0_isLatin1_aae02_13 ?_
  refine x_goto (tgt := 18) dJ0_isLatin1_aae02_14 (by decide) ?_
  exact x_ireturn dJ0_isLatin1_aae02_18 rfl (jbool (by first | exact Or.inl rfl | exact Or.inr rfl)).1 ⟨Nat.le_refl _, Nat.le_refl _⟩ ⟨rfl, rfl, rfl⟩
theorem kJ0_length {G : JG} {S : JS} {D : JD} {d : Nat} {i : Nat} (hi : i < 8) : JM G yJ0_length_8abf5 cJ0_length_8abf5 1 (some .int) (d + 1) (0, 0) S D [.inr (.inr (some (gS G i : Int)))] (jr (.inl (jln i)) S D) := by
  show JX _ _ _ _ _ _ _ _ _ _ _ [_] _ _
  refine x_aload_n dJ0_length_8abf5_0 rfl ?_
  refine x_strV dJ0_length_8abf5_1 rfl hi ?_
  refine x_strN dJ0_length_8abf5_4 hi ?_
  refine x_aload_n dJ0_length_8abf5_5 rfl ?_
  refine s_RJ0_335 hi dJ0_length_8abf5_6 rfl (kJ0_coder hi) (Nat.le_of_ble_eq_true rfl) (Nat.le_of_ble_eq_true rfl) ⟨Nat.le_refl _, Nat.le_refl _⟩ ?_
  refine x_ishr0 dJ0_length_8abf5_9 ?_
  exact x_ireturn dJ0_length_8abf5_10 rfl rfl ⟨Nat.le_refl _, Nat.le_refl _⟩ ⟨rfl, rfl, rfl⟩
theorem kJ3_checkIndex {G : JG} {S : JS} {D : JD} {d : Nat} {e n : Int} {r : Option Int} (h0 : 0 ≤ e) (h1 : e < n) (rn : i32 n) : JM G yJ3_checkIndex_8e157 cJ3_checkIndex_8e157 3 (some .int) d (0, 0) S D [.inl e, .inl n, .inr (.inr r)] (jr (.inl e) S D) := by
  show JX _ _ _ _ _ _ _ _ _ _ _ [_, _, _] _ _
  refine x_iload_n dJ3_checkIndex_8e157_0 rfl ?_
  refine x_if_lt (tgt := 9) dJ3_checkIndex_8e157_1 (by decide) ⟨by omega, by omega⟩ (fun h => absurd h (by omega)) (fun hb1 => ?_)
  refine x_iload_n dJ3_checkIndex_8e157_4 rfl ?_
  refine x_iload_n dJ3_checkIndex_8e157_5 rfl ?_
  refine x_ic_lt (tgt := 16) dJ3_checkIndex_8e157_6 (by decide) ⟨by omega, by omega⟩ ⟨by omega, by omega⟩ (fun hb6 => ?_) (fun h => (h (by omega)).elim)
  refine x_iload_n dJ3_checkIndex_8e157_16 rfl ?_
  exact x_ireturn dJ3_checkIndex_8e157_17 rfl rfl ⟨Nat.le_refl _, Nat.le_refl _⟩ ⟨rfl, rfl, rfl⟩
theorem kJ0_checkIndex {G : JG} {S : JS} {D : JD} {d : Nat} {e n : Int} (h0 : 0 ≤ e) (h1 : e < n) (rn : i32 n) : JM G yJ0_checkIndex_df160 cJ0_checkIndex_df160 2 none (d + 1) (0, 0) S D [.inl e, .inl n] (jn S D) := by
  show JX _ _ _ _ _ _ _ _ _ _ _ [_, _] _ _
  refine x_iload_n dJ0_checkIndex_df160_0 rfl ?_
  refine x_iload_n dJ0_checkIndex_df160_1 rfl ?_
  refine x_format dJ0_checkIndex_df160_2 rfl (fun r => ?_)
  refine s_RJ0_1059 dJ0_checkIndex_df160_5 rfl (kJ3_checkIndex h0 h1 rn) (Nat.le_of_ble_eq_true rfl) (Nat.le_of_ble_eq_true rfl) ⟨Nat.le_refl _, Nat.le_refl _⟩ ?_
  refine x_pop dJ0_checkIndex_df160_8 ?_
  exact x_return dJ0_checkIndex_df160_9 rfl ⟨Nat.le_refl _, Nat.le_refl _⟩ ⟨rfl, rfl, rfl⟩
theorem kJ1_charAt {G : JG} {S : JS} {D : JD} {d : Nat} {i : Nat} {e : Int} (hi : i < 8) (h0 : 0 ≤ e) (h1 : e < jln i) : JM G yJ1_charAt_3b067 cJ1_charAt_3b067 2 (some .char) (d + 2) (0, 0) S D [.inr (.inr (some (gV G i : Int))), .inl e] (jr (.inl (jch i e)) S D) := by
  have jr9 := jch_r hi h0 h1
  have jt := jtx_all i hi
  have h1x := h1
  unfold jln at h1x
  show JX _ _ _ _ _ _ _ _ _ _ _ [_, _] _ _
  refine x_iload_n dJ1_charAt_3b067_0 rfl ?_
  refine x_aload_n dJ1_charAt_3b067_1 rfl ?_
  refine x_strN dJ1_charAt_3b067_2 hi ?_
  refine s_RJ1_9 dJ1_charAt_3b067_3 rfl (kJ0_checkIndex h0 h1 ⟨by unfold jln; omega, by unfold jln; omega⟩) (Nat.le_of_ble_eq_true rfl) (Nat.le_of_ble_eq_true rfl) ⟨Nat.le_refl _, Nat.le_refl _⟩ ?_
  refine x_aload_n dJ1_charAt_3b067_6 rfl ?_
  refine x_iload_n dJ1_charAt_3b067_7 rfl ?_
  refine x_strB dJ1_charAt_3b067_8 hi ⟨h0, h1⟩ ?_
  refine x_sipush dJ1_charAt_3b067_9 (by decide) ?_
  refine x_iandv dJ1_charAt_3b067_12 (jt.2.2 e.toNat (by omega)).2.1 ?_
  refine x_i2c dJ1_charAt_3b067_13 ?_
  rw [show (jtx i).getD e.toNat 0 % 65536 = jch i e by unfold jch at jr9 ⊢; omega]
  exact x_ireturn dJ1_charAt_3b067_14 rfl (jchar (by omega) (by omega)).1 ⟨Nat.le_refl _, Nat.le_refl _⟩ ⟨rfl, rfl, rfl⟩
theorem kJ0_charAt {G : JG} {S : JS} {D : JD} {d : Nat} {i : Nat} {e : Int} (hi : i < 8) (h0 : 0 ≤ e) (h1 : e < jln i) : JM G yJ0_charAt_5068e cJ0_charAt_5068e 2 (some .char) (d + 3) (0, 0) S D [.inr (.inr (some (gS G i : Int))), .inl e] (jr (.inl (jch i e)) S D) := by
  have jr9 := jch_r hi h0 h1
  show JX _ _ _ _ _ _ _ _ _ _ _ [_, _] _ _
  refine x_aload_n dJ0_charAt_5068e_0 rfl ?_
  refine s_RJ0_492 hi dJ0_charAt_5068e_1 rfl (kJ0_isLatin1 hi) (Nat.le_of_ble_eq_true rfl) (Nat.le_of_ble_eq_true rfl) ⟨Nat.le_refl _, Nat.le_refl _⟩ ?_
  refine x_if_eq (tgt := 16) dJ0_charAt_5068e_4 (by decide) ⟨by omega, by omega⟩ (fun h => absurd h (by omega)) (fun hb4 => ?_)
  refine x_aload_n dJ0_charAt_5068e_7 rfl ?_
  refine x_strV dJ0_charAt_5068e_8 rfl hi ?_
  refine x_iload_n dJ0_charAt_5068e_11 rfl ?_
  refine s_RJ0_495 dJ0_charAt_5068e_12 rfl (kJ1_charAt hi h0 h1) (Nat.le_of_ble_eq_true rfl) (Nat.le_of_ble_eq_true rfl) ⟨Nat.le_refl _, Nat.le_refl _⟩ ?_
  exact x_ireturn dJ0_charAt_5068e_15 rfl (jchar (by omega) (by omega)).1 ⟨Nat.le_refl _, Nat.le_refl _⟩ ⟨rfl, rfl, rfl⟩
