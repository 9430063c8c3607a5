/-! THE LAW: its cases -/
abbrev JLc (G : JG) (d : Nat) (kc : Nat × Nat) (S : JS) (D : JD) (X g0 h0 e g h u c gg b m : Int) (l12 l13 l14 l15 : Option JV) (pc : Nat) (st : List JV) : Prop := JX G yL_law cL_law 16 (some .boolean) (d + 12) (615115, 7256902) kc S D pc [some (.inr (.inr (some (gb G : Int)))), some (.inr (.inr (some X))), some (.inl g0), some (.inl h0), some (.inl e), some (.inl g), some (.inl h), some (.inl u), some (.inl c), some (.inl gg), some (.inl b), some (.inl m), l12, l13, l14, l15] st (fun v _ _ => v = some (.inl 1))
abbrev JCon (G : JG) (d : Nat) (kc : Nat × Nat) (S : JS) (X t g0 h0 e g h u c gg b : Int) : Prop := ∀ (D2 : JD) (n2 : Int) (hs2 : Int → Int → Int) (r2 : Int → Int) (q2 : Int) (l12 l13 l14 l15 : Option JV), pSt S D2 X (t + 700) n2 hs2 r2 q2 → pIn (e + 1) r2 → JLc G d kc S D2 X g0 h0 e g h u c gg b 1 l12 l13 l14 l15 999 []
theorem addC_step {t e a l f a2 f2 w2 : Int} {r : Int → Int} (hI : rIn t r) (hE : pIn e r) (t0 : 0 ≤ t) (h2 : r 1 ≤ 2) (ha : 300 ≤ a ∧ a ≤ 1000) (hl : 60 ≤ l ∧ l ≤ 160) (hf : 0 ≤ f ∧ f ≤ 300) (ha2 : 500 ≤ a2 ∧ a2 ≤ 5500) (hf2 : 0 ≤ f2 ∧ f2 ≤ 400) (hw : 0 ≤ w2 ∧ w2 ≤ 200000) :
    zAddChamber a l f a2 f2 w2 r = (r 1, some (rAddC a l f a2 f2 w2 r), 0) ∧ pIn (e + 1) (sAll (rAddC a l f a2 f2 w2 r)) := by
  have b1 := hI.1
  have c1 : gCham a l f := ⟨⟨by omega, by omega, by omega, by omega⟩, by omega, by omega⟩
  have c2 : gReach a2 f2 w2 := ⟨by omega, by omega, by omega, by omega, by omega, by omega⟩
  have E1 := hE.2.1
  have c3 : ¬ (r 0 = 0 ∨ r 1 = 4) := by omega
  refine ⟨by unfold zAddChamber; rw [if_pos ⟨c1, c2⟩, if_neg c3], ?_⟩
  exact (hE.addC hI h2 hw.2).all (hI.addC t0 c3 c1 c2)
theorem addB_step {t e p l w i hh : Int} {r : Int → Int} (hI : rIn t r) (hE : pIn e r) (t0 : 0 ≤ t) (h2 : r 2 ≠ 12) (hp : 0 ≤ p ∧ p < r 0) (hl : 5 ≤ l ∧ l ≤ 60) (hw : 10 ≤ w ∧ w ≤ 500) (hi : 1 ≤ i ∧ i ≤ 20) (h9 : 10 ≤ hh ∧ hh ≤ 1000) :
    zAddBarge p l w i hh r = (r 2, some (rAddB p l w i hh r), 0) ∧ pIn e (sAll (rAddB p l w i hh r)) := by
  have b1 := hI.1
  refine ⟨by unfold zAddBarge; rw [if_pos hp, if_pos ⟨hl, hw, hi, h9⟩, if_neg h2], ?_⟩
  exact (hE.addB hI).all (hI.addB hp.1 hp.2 (by omega) hl hw hi h9 t0)
theorem sill_step {t e c g v : Int} {r : Int → Int} (hI : rIn t r) (hE : pIn e r) (hc : 0 ≤ c ∧ c < r 1) (hg : g = 0 ∨ g = 1) (hv : 0 ≤ v ∧ v < 200) (hm : r (27 + 11 * c + g) = 0) :
    zSetSill c g v r = (r (25 + 11 * c + g), some (rup r (25 + 11 * c + g) v), 0) ∧ (0 ≤ r (25 + 11 * c + g) ∧ r (25 + 11 * c + g) ≤ 5000) ∧ pIn e (sAll (rup r (25 + 11 * c + g) v)) ∧ sAll (rup r (25 + 11 * c + g) v) 1 = r 1 ∧ sHg (sAll (rup r (25 + 11 * c + g) v)) c g = v := by
  have b1 := hI.1
  have c4 : 0 ≤ c ∧ c < 4 := ⟨hc.1, by omega⟩
  have hI3 := hI.own (k := 25 + 11 * c + g) (v := v) hc.1 hc.2 (by omega)
  have co := (hI.2.2.1 c hc.1 hc.2).2
  unfold rCo at co
  have b25 : 0 ≤ r (25 + 11 * c + g) ∧ r (25 + 11 * c + g) ≤ 5000 := by
    rcases hg with rfl | rfl
    · rw [show 25 + 11 * c + 0 = 25 + 11 * c by omega]; omega
    · rw [show 25 + 11 * c + 1 = 26 + 11 * c by omega]; omega
  refine ⟨by unfold zSetSill; rw [if_pos ⟨hc, hg⟩, if_pos (by omega)], b25, (hE.off hI (pOff.one (by omega) (fun c2 _ _ => by omega) (fun b _ _ => by omega))).all hI3, by rw [hI3.keep (by omega), rup_ne (by omega)], ?_⟩
  unfold sHg
  rw [hI3.keepC (c := c) (z := 4 + g) c4 (by omega) (by omega), hI3.keepC (c := c) (z := 6 + g) c4 (by omega) (by omega), rup_eq, rup_ne (by omega), hm]
  omega
theorem pIn.some_water {t e i : Int} {r : Int → Int} (hI : rIn t r) (hE : pIn e r) (hi : 0 ≤ i ∧ i < r 0) (he : e ≤ 100) : r (8 + 3 * i) ≤ 30000000 := by
  have b1 := hI.1
  obtain ⟨E0, E1, E2, E3, E4, E5⟩ := hE
  have h := jsum_mem (f := fun i => r (8 + 3 * i)) (i := i) (n := (r 0).toNat) (fun k x y => (hI.ar x (by omega)).2.2.2.2) hi.1 (by omega)
  have n2 := jsum_nonneg (f := fun c => r (23 + 11 * c)) (n := (r 1).toNat) (fun k x y => (hI.ac x (by omega)).2.2.2.2)
  have n3 := jsum_nonneg (f := fun b => r (70 + 8 * b)) (n := (r 2).toNat) (fun k x y => by have g := hI.2.2.2.1 k x (by omega); unfold rBo at g; show 0 ≤ r (70 + 8 * k); omega)
  unfold sTot at E0
  have h' : r (8 + 3 * i) ≤ jsum (fun i => r (8 + 3 * i)) (r 0).toNat := h
  omega
theorem law_0a {G : JG} {S : JS} {D : JD} {d : Nat} {kc : Nat × Nat} {X t n q g0 h0 e g h u c gg b : Int} {hs : Int → Int → Int} {r : Int → Int} {l12 l13 l14 l15 : Option JV} (hP : pSt S D X t n hs r q) (hE : pIn e r) (t0 : 0 ≤ t) (ht9 : t + 1000 ≤ 60000) (hkk : kc.1 ≤ 615115 ∧ kc.2 ≤ 7256902) (e0 : 0 ≤ e) (e1 : e ≤ 44) (hc : 0 ≤ c ∧ c < r 1) (hg : gg = 0 ∨ gg = 1) (hb : 0 ≤ b ∧ b < r 2) (rg : i32 g) (rh : i32 h) (K : JCon G d kc S X t g0 h0 e g h u c gg b) (hu : u = 0) (h2 : 2 < r 1) : JLc G d kc S D X g0 h0 e g h u c gg b 1 l12 l13 l14 l15 240 [] := by
  have ht : t ≤ 60000 := by omega
  have ht2 : t + 100 ≤ 60000 := by omega
  have hB := hP.1
  have bk := hB.1
  have hI := hP.2.1.2.2.2.1
  have b1 := hI.1
  obtain ⟨E0, E1, E2, E3, E4, E5⟩ := id hE
  have r01 : r 0 = r 1 + 1 := by omega
  show JX _ _ _ _ _ _ _ _ _ _ _ [_, _, _, _, _, _, _, _, _, _, _, _, _, _, _, _] _ _
  refine x_iload dL_law_240 rfl ?_
  refine x_if_ne (tgt := 343) dL_law_242 (by decide) ⟨by omega, by omega⟩ (fun h => absurd h (by omega)) (fun hb242 => ?_)
  refine x_aload_n dL_law_245 rfl ?_
  refine x_iconst dL_law_246 ?_
  refine c_RL_18d dL_law_247 rfl (tn_1 hP ht) bk (Nat.le_of_ble_eq_true rfl) (Nat.le_of_ble_eq_true rfl) hkk ?_
  refine x_istore dL_law_250 (by decide) ?_
  show JX _ _ _ _ _ _ _ _ _ _ _ [_, _, _, _, _, _, _, _, _, _, _, _, _, _, _, _] _ _
  refine x_iload dL_law_252 rfl ?_
  refine x_iconst dL_law_254 ?_
  refine x_ic_gt (tgt := 333) dL_law_255 (by decide) ⟨by omega, by omega⟩ ⟨by omega, by omega⟩ (fun hb255 => ?_) (fun h => (h (by omega)).elim)
  refine x_iconst dL_law_333 ?_
  refine x_goto (tgt := 338) dL_law_334 (by decide) ?_
  refine x_istore dL_law_338 (by decide) ?_
  show JX _ _ _ _ _ _ _ _ _ _ _ [_, _, _, _, _, _, _, _, _, _, _, _, _, _, _, _] _ _
  refine x_goto (tgt := 999) dL_law_340 (by decide) ?_
  exact K _ _ _ _ _ _ _ _ _ (hP.mono (by omega)) (hE.mono (by omega))
theorem law_0b {G : JG} {S : JS} {D : JD} {d : Nat} {kc : Nat × Nat} {X t n q g0 h0 e g h u c gg b : Int} {hs : Int → Int → Int} {r : Int → Int} {l12 l13 l14 l15 : Option JV} (hP : pSt S D X t n hs r q) (hE : pIn e r) (t0 : 0 ≤ t) (ht9 : t + 1000 ≤ 60000) (hkk : kc.1 ≤ 615115 ∧ kc.2 ≤ 7256902) (e0 : 0 ≤ e) (e1 : e ≤ 44) (hc : 0 ≤ c ∧ c < r 1) (hg : gg = 0 ∨ gg = 1) (hb : 0 ≤ b ∧ b < r 2) (rg : i32 g) (rh : i32 h) (K : JCon G d kc S X t g0 h0 e g h u c gg b) (hu : u = 0) (h2 : ¬ 2 < r 1) : JLc G d kc S D X g0 h0 e g h u c gg b 1 l12 l13 l14 l15 240 [] := by
  have ht : t ≤ 60000 := by omega
  have ht2 : t + 100 ≤ 60000 := by omega
  have hB := hP.1
  have bk := hB.1
  have hI := hP.2.1.2.2.2.1
  have b1 := hI.1
  obtain ⟨E0, E1, E2, E3, E4, E5⟩ := id hE
  have r01 : r 0 = r 1 + 1 := by omega
  show JX _ _ _ _ _ _ _ _ _ _ _ [_, _, _, _, _, _, _, _, _, _, _, _, _, _, _, _] _ _
  refine x_iload dL_law_240 rfl ?_
  refine x_if_ne (tgt := 343) dL_law_242 (by decide) ⟨by omega, by omega⟩ (fun h => absurd h (by omega)) (fun hb242 => ?_)
  refine x_aload_n dL_law_245 rfl ?_
  refine x_iconst dL_law_246 ?_
  refine c_RL_18d dL_law_247 rfl (tn_1 hP ht) bk (Nat.le_of_ble_eq_true rfl) (Nat.le_of_ble_eq_true rfl) hkk ?_
  refine x_istore dL_law_250 (by decide) ?_
  show JX _ _ _ _ _ _ _ _ _ _ _ [_, _, _, _, _, _, _, _, _, _, _, _, _, _, _, _] _ _
  refine x_iload dL_law_252 rfl ?_
  refine x_iconst dL_law_254 ?_
  refine x_ic_gt (tgt := 333) dL_law_255 (by decide) ⟨by omega, by omega⟩ ⟨by omega, by omega⟩ (fun h => absurd h (by omega)) (fun hb255 => ?_)
  refine x_aload_n dL_law_258 rfl ?_
  refine x_sipush dL_law_259 (by decide) ?_
  refine x_iload dL_law_262 rfl ?_
  refine x_sipush dL_law_264 (by decide) ?_
  refine c_RL_135d dL_law_267 rfl (kL_low (by omega) ⟨by omega, by omega⟩) (Nat.le_of_ble_eq_true rfl) (Nat.le_of_ble_eq_true rfl) hkk ?_
  refine x_iadd dL_law_270 ?_
  refine x_bipush dL_law_271 (by decide) ?_
  refine x_iload dL_law_273 rfl ?_
  refine x_iconst dL_law_275 ?_
  refine x_ishrE dL_law_276 (fun v276 r276 => ?_)
  refine x_bipush dL_law_277 (by decide) ?_
  refine c_RL_135d dL_law_279 rfl (kL_low (by omega) ⟨by omega, by omega⟩) (Nat.le_of_ble_eq_true rfl) (Nat.le_of_ble_eq_true rfl) hkk ?_
  refine x_iadd dL_law_282 ?_
  refine x_iload dL_law_283 rfl ?_
  refine x_sipush dL_law_285 (by decide) ?_
  refine c_RL_135d dL_law_288 rfl (kL_low (by omega) ⟨by omega, by omega⟩) (Nat.le_of_ble_eq_true rfl) (Nat.le_of_ble_eq_true rfl) hkk ?_
  refine x_sipush dL_law_291 (by decide) ?_
  refine x_iload dL_law_294 rfl ?_
  refine x_bipush dL_law_296 (by decide) ?_
  refine x_ishrE dL_law_298 (fun v298 r298 => ?_)
  refine x_sipush dL_law_299 (by decide) ?_
  refine c_RL_135d dL_law_302 rfl (kL_low (by omega) ⟨by omega, by omega⟩) (Nat.le_of_ble_eq_true rfl) (Nat.le_of_ble_eq_true rfl) hkk ?_
  refine x_iadd dL_law_305 ?_
  refine x_iload dL_law_306 rfl ?_
  refine x_iconst dL_law_308 ?_
  refine x_ishrE dL_law_309 (fun v309 r309 => ?_)
  refine x_sipush dL_law_310 (by decide) ?_
  refine c_RL_135d dL_law_313 rfl (kL_low (by omega) ⟨by omega, by omega⟩) (Nat.le_of_ble_eq_true rfl) (Nat.le_of_ble_eq_true rfl) hkk ?_
  refine x_iload dL_law_316 rfl ?_
  refine x_iconst dL_law_318 ?_
  refine x_ishrE dL_law_319 (fun v319 r319 => ?_)
  refine x_ldc (e := 200000) dL_law_320 ct_RL_139 (by decide) ?_
  refine c_RL_135d dL_law_322 rfl (kL_low (by omega) ⟨by omega, by omega⟩) (Nat.le_of_ble_eq_true rfl) (Nat.le_of_ble_eq_true rfl) hkk ?_
  have b267 := lw_b (v := h) (n := 600) (by omega)
  have b279 := lw_b (v := v276) (n := 100) (by omega)
  have b285 := lw_b (v := g) (n := 300) (by omega)
  have b302 := lw_b (v := v298) (n := 5000) (by omega)
  have b313 := lw_b (v := v309) (n := 400) (by omega)
  have b322 := lw_b (v := v319) (n := 200000) (by omega)
  obtain ⟨hz, hE3⟩ := addC_step (a := 300 + lw h 600) (l := 60 + lw v276 100) (f := lw g 300) (a2 := 500 + lw v298 5000) (f2 := lw v309 400) (w2 := lw v319 200000) hI hE t0 (by omega) ⟨by omega, by omega⟩ ⟨by omega, by omega⟩ ⟨by omega, by omega⟩ ⟨by omega, by omega⟩ ⟨by omega, by omega⟩ ⟨by omega, by omega⟩
  refine c_RL_100p dL_law_325 rfl (kX7_addChamber hP.1 (Or.inl rfl) hP.2.1 ht2 ⟨by omega, by omega⟩ ⟨by omega, by omega⟩ ⟨by omega, by omega⟩ ⟨by omega, by omega⟩ ⟨by omega, by omega⟩ ⟨by omega, by omega⟩) bk (Nat.le_of_ble_eq_true rfl) (Nat.le_of_ble_eq_true rfl) hkk (fun w2 D2 h2 => ?_)
  obtain ⟨rfl, hP2⟩ := hP.some hz h2
  refine x_iload dL_law_328 rfl ?_
  refine x_ic_ne (tgt := 337) dL_law_330 (by decide) ⟨by omega, by omega⟩ ⟨by omega, by omega⟩ (fun h => absurd h (by omega)) (fun hb330 => ?_)
  refine x_iconst dL_law_333 ?_
  refine x_goto (tgt := 338) dL_law_334 (by decide) ?_
  refine x_istore dL_law_338 (by decide) ?_
  show JX _ _ _ _ _ _ _ _ _ _ _ [_, _, _, _, _, _, _, _, _, _, _, _, _, _, _, _] _ _
  refine x_goto (tgt := 999) dL_law_340 (by decide) ?_
  exact K _ _ _ _ _ _ _ _ _ (hP2.mono (by omega)) (hE3.mono (by omega))
theorem law_1y {G : JG} {S : JS} {D : JD} {d : Nat} {kc : Nat × Nat} {X t n q g0 h0 e g h u c gg b : Int} {hs : Int → Int → Int} {r : Int → Int} {l12 l13 l14 l15 : Option JV} (hP : pSt S D X t n hs r q) (hE : pIn e r) (t0 : 0 ≤ t) (ht9 : t + 1000 ≤ 60000) (hkk : kc.1 ≤ 615115 ∧ kc.2 ≤ 7256902) (e0 : 0 ≤ e) (e1 : e ≤ 44) (hc : 0 ≤ c ∧ c < r 1) (hg : gg = 0 ∨ gg = 1) (hb : 0 ≤ b ∧ b < r 2) (rg : i32 g) (rh : i32 h) (K : JCon G d kc S X t g0 h0 e g h u c gg b) (hu : u = 1) (h2 : r 2 ≠ 12) : JLc G d kc S D X g0 h0 e g h u c gg b 1 l12 l13 l14 l15 240 [] := by
  have ht : t ≤ 60000 := by omega
  have ht2 : t + 100 ≤ 60000 := by omega
  have hB := hP.1
  have bk := hB.1
  have hI := hP.2.1.2.2.2.1
  have b1 := hI.1
  obtain ⟨E0, E1, E2, E3, E4, E5⟩ := id hE
  have r01 : r 0 = r 1 + 1 := by omega
  show JX _ _ _ _ _ _ _ _ _ _ _ [_, _, _, _, _, _, _, _, _, _, _, _, _, _, _, _] _ _
  refine x_iload dL_law_240 rfl ?_
  refine x_if_ne (tgt := 343) dL_law_242 (by decide) ⟨by omega, by omega⟩ (fun hb242 => ?_) (fun h => (h (by omega)).elim)
  refine x_iload dL_law_343 rfl ?_
  refine x_iconst dL_law_345 ?_
  refine x_ic_ne (tgt := 445) dL_law_346 (by decide) ⟨by omega, by omega⟩ ⟨by omega, by omega⟩ (fun h => absurd h (by omega)) (fun hb346 => ?_)
  refine x_aload_n dL_law_349 rfl ?_
  refine x_iconst dL_law_350 ?_
  refine c_RL_18d dL_law_351 rfl (tn_2 hP ht) bk (Nat.le_of_ble_eq_true rfl) (Nat.le_of_ble_eq_true rfl) hkk ?_
  refine x_istore dL_law_354 (by decide) ?_
  show JX _ _ _ _ _ _ _ _ _ _ _ [_, _, _, _, _, _, _, _, _, _, _, _, _, _, _, _] _ _
  refine x_aload_n dL_law_356 rfl ?_
  refine x_iload dL_law_357 rfl ?_
  refine x_aload_n dL_law_359 rfl ?_
  refine x_iconst dL_law_360 ?_
  refine c_RL_18d dL_law_361 rfl (tn_0 hP ht) bk (Nat.le_of_ble_eq_true rfl) (Nat.le_of_ble_eq_true rfl) hkk ?_
  refine c_RL_135d dL_law_364 rfl (kL_low (by omega) ⟨by omega, by omega⟩) (Nat.le_of_ble_eq_true rfl) (Nat.le_of_ble_eq_true rfl) hkk ?_
  refine x_iconst dL_law_367 ?_
  refine x_iload dL_law_368 rfl ?_
  refine x_bipush dL_law_370 (by decide) ?_
  refine c_RL_135d dL_law_372 rfl (kL_low (by omega) ⟨by omega, by omega⟩) (Nat.le_of_ble_eq_true rfl) (Nat.le_of_ble_eq_true rfl) hkk ?_
  refine x_iadd dL_law_375 ?_
  refine x_bipush dL_law_376 (by decide) ?_
  refine x_iload dL_law_378 rfl ?_
  refine x_bipush dL_law_380 (by decide) ?_
  refine x_ishrE dL_law_382 (fun v382 r382 => ?_)
  refine x_sipush dL_law_383 (by decide) ?_
  refine c_RL_135d dL_law_386 rfl (kL_low (by omega) ⟨by omega, by omega⟩) (Nat.le_of_ble_eq_true rfl) (Nat.le_of_ble_eq_true rfl) hkk ?_
  refine x_iadd dL_law_389 ?_
  refine x_iconst dL_law_390 ?_
  refine x_iload dL_law_391 rfl ?_
  refine x_bipush dL_law_393 (by decide) ?_
  refine x_ishrE dL_law_395 (fun v395 r395 => ?_)
  refine x_bipush dL_law_396 (by decide) ?_
  refine c_RL_135d dL_law_398 rfl (kL_low (by omega) ⟨by omega, by omega⟩) (Nat.le_of_ble_eq_true rfl) (Nat.le_of_ble_eq_true rfl) hkk ?_
  refine x_iadd dL_law_401 ?_
  refine x_bipush dL_law_402 (by decide) ?_
  refine x_iload dL_law_404 rfl ?_
  refine x_iconst dL_law_406 ?_
  refine x_ishrE dL_law_407 (fun v407 r407 => ?_)
  refine x_sipush dL_law_408 (by decide) ?_
  refine c_RL_135d dL_law_411 rfl (kL_low (by omega) ⟨by omega, by omega⟩) (Nat.le_of_ble_eq_true rfl) (Nat.le_of_ble_eq_true rfl) hkk ?_
  refine x_iadd dL_law_414 ?_
  have b364 := lw_b (v := g) (n := r 0) (by omega)
  have b372 := lw_b (v := h) (n := 56) (by omega)
  have b386 := lw_b (v := v382) (n := 200) (by omega)
  have b398 := lw_b (v := v395) (n := 20) (by omega)
  have b411 := lw_b (v := v407) (n := 900) (by omega)
  obtain ⟨hz, hE3⟩ := addB_step (p := lw g (r 0)) (l := 5 + lw h 56) (w := 10 + lw v382 200) (i := 1 + lw v395 20) (hh := 10 + lw v407 900) hI hE t0 h2 ⟨by omega, by omega⟩ ⟨by omega, by omega⟩ ⟨by omega, by omega⟩ ⟨by omega, by omega⟩ ⟨by omega, by omega⟩
  refine c_RL_117p dL_law_415 rfl (kX7_addBarge hP.1 (Or.inl rfl) hP.2.1 ht2 ⟨by omega, by omega⟩ ⟨by omega, by omega⟩ ⟨by omega, by omega⟩ ⟨by omega, by omega⟩ ⟨by omega, by omega⟩) bk (Nat.le_of_ble_eq_true rfl) (Nat.le_of_ble_eq_true rfl) hkk (fun w2 D2 h2 => ?_)
  obtain ⟨rfl, hP2⟩ := hP.some hz h2
  refine x_iload dL_law_418 rfl ?_
  refine x_bipush dL_law_420 (by decide) ?_
  refine x_ic_ne (tgt := 430) dL_law_422 (by decide) ⟨by omega, by omega⟩ ⟨by omega, by omega⟩ (fun hb422 => ?_) (fun h => (h (by omega)).elim)
  refine x_iload dL_law_430 rfl ?_
  refine x_ic_ne (tgt := 439) dL_law_432 (by decide) ⟨by omega, by omega⟩ ⟨by omega, by omega⟩ (fun h => absurd h (by omega)) (fun hb432 => ?_)
  refine x_iconst dL_law_435 ?_
  refine x_goto (tgt := 440) dL_law_436 (by decide) ?_
  refine x_istore dL_law_440 (by decide) ?_
  show JX _ _ _ _ _ _ _ _ _ _ _ [_, _, _, _, _, _, _, _, _, _, _, _, _, _, _, _] _ _
  refine x_goto (tgt := 999) dL_law_442 (by decide) ?_
  exact K _ _ _ _ _ _ _ _ _ (hP2.mono (by omega)) (hE3.mono (by omega))
theorem law_1n {G : JG} {S : JS} {D : JD} {d : Nat} {kc : Nat × Nat} {X t n q g0 h0 e g h u c gg b : Int} {hs : Int → Int → Int} {r : Int → Int} {l12 l13 l14 l15 : Option JV} (hP : pSt S D X t n hs r q) (hE : pIn e r) (t0 : 0 ≤ t) (ht9 : t + 1000 ≤ 60000) (hkk : kc.1 ≤ 615115 ∧ kc.2 ≤ 7256902) (e0 : 0 ≤ e) (e1 : e ≤ 44) (hc : 0 ≤ c ∧ c < r 1) (hg : gg = 0 ∨ gg = 1) (hb : 0 ≤ b ∧ b < r 2) (rg : i32 g) (rh : i32 h) (K : JCon G d kc S X t g0 h0 e g h u c gg b) (hu : u = 1) (h2 : r 2 = 12) : JLc G d kc S D X g0 h0 e g h u c gg b 1 l12 l13 l14 l15 240 [] := by
  have ht : t ≤ 60000 := by omega
  have ht2 : t + 100 ≤ 60000 := by omega
  have hB := hP.1
  have bk := hB.1
  have hI := hP.2.1.2.2.2.1
  have b1 := hI.1
  obtain ⟨E0, E1, E2, E3, E4, E5⟩ := id hE
  have r01 : r 0 = r 1 + 1 := by omega
  show JX _ _ _ _ _ _ _ _ _ _ _ [_, _, _, _, _, _, _, _, _, _, _, _, _, _, _, _] _ _
  refine x_iload dL_law_240 rfl ?_
  refine x_if_ne (tgt := 343) dL_law_242 (by decide) ⟨by omega, by omega⟩ (fun hb242 => ?_) (fun h => (h (by omega)).elim)
  refine x_iload dL_law_343 rfl ?_
  refine x_iconst dL_law_345 ?_
  refine x_ic_ne (tgt := 445) dL_law_346 (by decide) ⟨by omega, by omega⟩ ⟨by omega, by omega⟩ (fun h => absurd h (by omega)) (fun hb346 => ?_)
  refine x_aload_n dL_law_349 rfl ?_
  refine x_iconst dL_law_350 ?_
  refine c_RL_18d dL_law_351 rfl (tn_2 hP ht) bk (Nat.le_of_ble_eq_true rfl) (Nat.le_of_ble_eq_true rfl) hkk ?_
  refine x_istore dL_law_354 (by decide) ?_
  show JX _ _ _ _ _ _ _ _ _ _ _ [_, _, _, _, _, _, _, _, _, _, _, _, _, _, _, _] _ _
  refine x_aload_n dL_law_356 rfl ?_
  refine x_iload dL_law_357 rfl ?_
  refine x_aload_n dL_law_359 rfl ?_
  refine x_iconst dL_law_360 ?_
  refine c_RL_18d dL_law_361 rfl (tn_0 hP ht) bk (Nat.le_of_ble_eq_true rfl) (Nat.le_of_ble_eq_true rfl) hkk ?_
  refine c_RL_135d dL_law_364 rfl (kL_low (by omega) ⟨by omega, by omega⟩) (Nat.le_of_ble_eq_true rfl) (Nat.le_of_ble_eq_true rfl) hkk ?_
  refine x_iconst dL_law_367 ?_
  refine x_iload dL_law_368 rfl ?_
  refine x_bipush dL_law_370 (by decide) ?_
  refine c_RL_135d dL_law_372 rfl (kL_low (by omega) ⟨by omega, by omega⟩) (Nat.le_of_ble_eq_true rfl) (Nat.le_of_ble_eq_true rfl) hkk ?_
  refine x_iadd dL_law_375 ?_
  refine x_bipush dL_law_376 (by decide) ?_
  refine x_iload dL_law_378 rfl ?_
  refine x_bipush dL_law_380 (by decide) ?_
  refine x_ishrE dL_law_382 (fun v382 r382 => ?_)
  refine x_sipush dL_law_383 (by decide) ?_
  refine c_RL_135d dL_law_386 rfl (kL_low (by omega) ⟨by omega, by omega⟩) (Nat.le_of_ble_eq_true rfl) (Nat.le_of_ble_eq_true rfl) hkk ?_
  refine x_iadd dL_law_389 ?_
  refine x_iconst dL_law_390 ?_
  refine x_iload dL_law_391 rfl ?_
  refine x_bipush dL_law_393 (by decide) ?_
  refine x_ishrE dL_law_395 (fun v395 r395 => ?_)
  refine x_bipush dL_law_396 (by decide) ?_
  refine c_RL_135d dL_law_398 rfl (kL_low (by omega) ⟨by omega, by omega⟩) (Nat.le_of_ble_eq_true rfl) (Nat.le_of_ble_eq_true rfl) hkk ?_
  refine x_iadd dL_law_401 ?_
  refine x_bipush dL_law_402 (by decide) ?_
  refine x_iload dL_law_404 rfl ?_
  refine x_iconst dL_law_406 ?_
  refine x_ishrE dL_law_407 (fun v407 r407 => ?_)
  refine x_sipush dL_law_408 (by decide) ?_
  refine c_RL_135d dL_law_411 rfl (kL_low (by omega) ⟨by omega, by omega⟩) (Nat.le_of_ble_eq_true rfl) (Nat.le_of_ble_eq_true rfl) hkk ?_
  refine x_iadd dL_law_414 ?_
  have b364 := lw_b (v := g) (n := r 0) (by omega)
  have b372 := lw_b (v := h) (n := 56) (by omega)
  have b386 := lw_b (v := v382) (n := 200) (by omega)
  have b398 := lw_b (v := v395) (n := 20) (by omega)
  have b411 := lw_b (v := v407) (n := 900) (by omega)
  have hz : zAddBarge (lw g (r 0)) (5 + lw h 56) (10 + lw v382 200) (1 + lw v395 20) (10 + lw v407 900) r = (-100000004, none, 0) := by unfold zAddBarge; rw [if_pos ⟨by omega, by omega⟩, if_pos ⟨⟨by omega, by omega⟩, ⟨by omega, by omega⟩, ⟨by omega, by omega⟩, by omega, by omega⟩, if_pos h2]
  refine c_RL_117p dL_law_415 rfl (kX7_addBarge hP.1 (Or.inl rfl) hP.2.1 ht2 ⟨by omega, by omega⟩ ⟨by omega, by omega⟩ ⟨by omega, by omega⟩ ⟨by omega, by omega⟩ ⟨by omega, by omega⟩) bk (Nat.le_of_ble_eq_true rfl) (Nat.le_of_ble_eq_true rfl) hkk (fun w2 D2 h9 => ?_)
  obtain ⟨rfl, hP2⟩ := hP.err hz h9
  refine x_iload dL_law_418 rfl ?_
  refine x_bipush dL_law_420 (by decide) ?_
  refine x_ic_ne (tgt := 430) dL_law_422 (by decide) ⟨by omega, by omega⟩ ⟨by omega, by omega⟩ (fun h => absurd h (by omega)) (fun hb422 => ?_)
  refine x_ldc (e := -100000004) dL_law_425 ct_RL_99 (by decide) ?_
  refine x_goto (tgt := 432) dL_law_427 (by decide) ?_
  refine x_ic_ne (tgt := 439) dL_law_432 (by decide) ⟨by omega, by omega⟩ ⟨by omega, by omega⟩ (fun h => absurd h (by omega)) (fun hb432 => ?_)
  refine x_iconst dL_law_435 ?_
  refine x_goto (tgt := 440) dL_law_436 (by decide) ?_
  refine x_istore dL_law_440 (by decide) ?_
  show JX _ _ _ _ _ _ _ _ _ _ _ [_, _, _, _, _, _, _, _, _, _, _, _, _, _, _, _] _ _
  refine x_goto (tgt := 999) dL_law_442 (by decide) ?_
  exact K _ _ _ _ _ _ _ _ _ (hP2.mono (by omega)) (hE.mono (by omega))
theorem law_2 {G : JG} {S : JS} {D : JD} {d : Nat} {kc : Nat × Nat} {X t n q g0 h0 e g h u c gg b : Int} {hs : Int → Int → Int} {r : Int → Int} {l12 l13 l14 l15 : Option JV} (hP : pSt S D X t n hs r q) (hE : pIn e r) (t0 : 0 ≤ t) (ht9 : t + 1000 ≤ 60000) (hkk : kc.1 ≤ 615115 ∧ kc.2 ≤ 7256902) (e0 : 0 ≤ e) (e1 : e ≤ 44) (hc : 0 ≤ c ∧ c < r 1) (hg : gg = 0 ∨ gg = 1) (hb : 0 ≤ b ∧ b < r 2) (rg : i32 g) (rh : i32 h) (K : JCon G d kc S X t g0 h0 e g h u c gg b) (hu : u = 2) : JLc G d kc S D X g0 h0 e g h u c gg b 1 l12 l13 l14 l15 240 [] := by
  have ht : t ≤ 60000 := by omega
  have ht2 : t + 100 ≤ 60000 := by omega
  have hB := hP.1
  have bk := hB.1
  have hI := hP.2.1.2.2.2.1
  have b1 := hI.1
  obtain ⟨E0, E1, E2, E3, E4, E5⟩ := id hE
  have r01 : r 0 = r 1 + 1 := by omega
  have b1 := lw_b (v := h) (n := 51) (by omega)
  have hz : zSetClearance (lw h 51) r = (r 3, some (rup r 3 (lw h 51)), 0) := by unfold zSetClearance; rw [if_pos ⟨by omega, by omega⟩]
  have hI3 := hI.clrI (v := lw h 51) ⟨by omega, by omega⟩
  have hE3 := (hE.off hI (pOff.one (r := r) (k := 3) (v := lw h 51) (Or.inl rfl) (fun c2 _ _ => by omega) (fun b _ _ => by omega))).all hI3
  have m3 : sAll (rup r 3 (lw h 51)) 3 = lw h 51 := by rw [hI3.keep (by omega), rup_eq]
  show JX _ _ _ _ _ _ _ _ _ _ _ [_, _, _, _, _, _, _, _, _, _, _, _, _, _, _, _] _ _
  refine x_iload dL_law_240 rfl ?_
  refine x_if_ne (tgt := 343) dL_law_242 (by decide) ⟨by omega, by omega⟩ (fun hb242 => ?_) (fun h => (h (by omega)).elim)
  refine x_iload dL_law_343 rfl ?_
  refine x_iconst dL_law_345 ?_
  refine x_ic_ne (tgt := 445) dL_law_346 (by decide) ⟨by omega, by omega⟩ ⟨by omega, by omega⟩ (fun hb346 => ?_) (fun h => (h (by omega)).elim)
  refine x_iload dL_law_445 rfl ?_
  refine x_iconst dL_law_447 ?_
  refine x_ic_ne (tgt := 501) dL_law_448 (by decide) ⟨by omega, by omega⟩ ⟨by omega, by omega⟩ (fun h => absurd h (by omega)) (fun hb448 => ?_)
  refine x_aload_n dL_law_451 rfl ?_
  refine x_bipush dL_law_452 (by decide) ?_
  refine c_RL_18d dL_law_454 rfl (tn_6 hP ht) bk (Nat.le_of_ble_eq_true rfl) (Nat.le_of_ble_eq_true rfl) hkk ?_
  refine x_istore dL_law_457 (by decide) ?_
  show JX _ _ _ _ _ _ _ _ _ _ _ [_, _, _, _, _, _, _, _, _, _, _, _, _, _, _, _] _ _
  refine x_aload_n dL_law_459 rfl ?_
  refine x_iload dL_law_460 rfl ?_
  refine x_bipush dL_law_462 (by decide) ?_
  refine c_RL_135d dL_law_464 rfl (kL_low (by omega) ⟨by omega, by omega⟩) (Nat.le_of_ble_eq_true rfl) (Nat.le_of_ble_eq_true rfl) hkk ?_
  refine c_RL_107p dL_law_467 rfl (kX7_setClearance hP.1 (Or.inl rfl) hP.2.1 ht2 ⟨by omega, by omega⟩) bk (Nat.le_of_ble_eq_true rfl) (Nat.le_of_ble_eq_true rfl) hkk (fun w2 D2 h2 => ?_)
  obtain ⟨rfl, hP2⟩ := hP.some hz h2
  refine x_iload dL_law_470 rfl ?_
  refine x_ic_ne (tgt := 495) dL_law_472 (by decide) ⟨by omega, by omega⟩ ⟨by omega, by omega⟩ (fun h => absurd h (by omega)) (fun hb472 => ?_)
  refine x_aload_n dL_law_475 rfl ?_
  refine x_bipush dL_law_476 (by decide) ?_
  refine c_RL_18d dL_law_478 rfl (tn_6 hP2 ht2) bk (Nat.le_of_ble_eq_true rfl) (Nat.le_of_ble_eq_true rfl) hkk ?_
  rw [m3]
  refine x_iload dL_law_481 rfl ?_
  refine x_bipush dL_law_483 (by decide) ?_
  refine c_RL_135d dL_law_485 rfl (kL_low (by omega) ⟨by omega, by omega⟩) (Nat.le_of_ble_eq_true rfl) (Nat.le_of_ble_eq_true rfl) hkk ?_
  refine x_ic_ne (tgt := 495) dL_law_488 (by decide) ⟨by omega, by omega⟩ ⟨by omega, by omega⟩ (fun h => absurd h (by omega)) (fun hb488 => ?_)
  refine x_iconst dL_law_491 ?_
  refine x_goto (tgt := 496) dL_law_492 (by decide) ?_
  refine x_istore dL_law_496 (by decide) ?_
  show JX _ _ _ _ _ _ _ _ _ _ _ [_, _, _, _, _, _, _, _, _, _, _, _, _, _, _, _] _ _
  refine x_goto (tgt := 999) dL_law_498 (by decide) ?_
  exact K _ _ _ _ _ _ _ _ _ (hP2.mono (by omega)) (hE3.mono (by omega))
theorem law_3n {G : JG} {S : JS} {D : JD} {d : Nat} {kc : Nat × Nat} {X t n q g0 h0 e g h u c gg b : Int} {hs : Int → Int → Int} {r : Int → Int} {l12 l13 l14 l15 : Option JV} (hP : pSt S D X t n hs r q) (hE : pIn e r) (t0 : 0 ≤ t) (ht9 : t + 1000 ≤ 60000) (hkk : kc.1 ≤ 615115 ∧ kc.2 ≤ 7256902) (e0 : 0 ≤ e) (e1 : e ≤ 44) (hc : 0 ≤ c ∧ c < r 1) (hg : gg = 0 ∨ gg = 1) (hb : 0 ≤ b ∧ b < r 2) (rg : i32 g) (rh : i32 h) (K : JCon G d kc S X t g0 h0 e g h u c gg b) (hu : u = 3) (hm : r (27 + 11 * c + gg) = 0) : JLc G d kc S D X g0 h0 e g h u c gg b 1 l12 l13 l14 l15 240 [] := by
  have ht : t ≤ 60000 := by omega
  have ht2 : t + 100 ≤ 60000 := by omega
  have hB := hP.1
  have bk := hB.1
  have hI := hP.2.1.2.2.2.1
  have b1 := hI.1
  obtain ⟨E0, E1, E2, E3, E4, E5⟩ := id hE
  have r01 : r 0 = r 1 + 1 := by omega
  have co := (hI.2.2.1 c hc.1 hc.2).2
  unfold rCo at co
  have b27 : 0 ≤ r (27 + 11 * c + gg) ∧ r (27 + 11 * c + gg) ≤ 60000 := by
    rcases hg with rfl | rfl
    · rw [show 27 + 11 * c + 0 = 27 + 11 * c by omega]; omega
    · rw [show 27 + 11 * c + 1 = 28 + 11 * c by omega]; omega
  have b1 := lw_b (v := h) (n := 200) (by omega)
  have hz : zDredge c gg r = (-100000005, none, 0) := by unfold zDredge; rw [if_pos ⟨hc, hg⟩, if_pos hm]
  have hIs := hI
  have hEs := hE
  have hms := hm
  have hcs := hc
  obtain ⟨hz2, b25, hE3, k13, m9⟩ := sill_step (v := lw h 200) hIs hEs hcs hg ⟨by omega, by omega⟩ hms
  have hc3 : 0 ≤ c ∧ c < sAll (rup (r) (25 + 11 * c + gg) (lw h 200)) 1 := ⟨hc.1, by rw [k13]; exact hcs.2⟩
  show JX _ _ _ _ _ _ _ _ _ _ _ [_, _, _, _, _, _, _, _, _, _, _, _, _, _, _, _] _ _
  refine x_iload dL_law_240 rfl ?_
  refine x_if_ne (tgt := 343) dL_law_242 (by decide) ⟨by omega, by omega⟩ (fun hb242 => ?_) (fun h => (h (by omega)).elim)
  refine x_iload dL_law_343 rfl ?_
  refine x_iconst dL_law_345 ?_
  refine x_ic_ne (tgt := 445) dL_law_346 (by decide) ⟨by omega, by omega⟩ ⟨by omega, by omega⟩ (fun hb346 => ?_) (fun h => (h (by omega)).elim)
  refine x_iload dL_law_445 rfl ?_
  refine x_iconst dL_law_447 ?_
  refine x_ic_ne (tgt := 501) dL_law_448 (by decide) ⟨by omega, by omega⟩ ⟨by omega, by omega⟩ (fun hb448 => ?_) (fun h => (h (by omega)).elim)
  refine x_iload dL_law_501 rfl ?_
  refine x_iconst dL_law_503 ?_
  refine x_ic_ne (tgt := 580) dL_law_504 (by decide) ⟨by omega, by omega⟩ ⟨by omega, by omega⟩ (fun h => absurd h (by omega)) (fun hb504 => ?_)
  refine x_aload_n dL_law_507 rfl ?_
  refine x_iload dL_law_508 rfl ?_
  refine x_iload dL_law_510 rfl ?_
  refine c_RL_110p dL_law_512 rfl (kX7_dredge hP.1 (Or.inl rfl) hP.2.1 ht2 ⟨by omega, by omega⟩ ⟨by omega, by omega⟩) bk (Nat.le_of_ble_eq_true rfl) (Nat.le_of_ble_eq_true rfl) hkk (fun w2 D2 h2 => ?_)
  obtain ⟨rfl, hP2⟩ := hP.err hz h2
  refine x_istore dL_law_515 (by decide) ?_
  show JX _ _ _ _ _ _ _ _ _ _ _ [_, _, _, _, _, _, _, _, _, _, _, _, _, _, _, _] _ _
  refine x_iload dL_law_517 rfl ?_
  refine x_ldc (e := -100000005) dL_law_519 ct_RL_41 (by decide) ?_
  refine x_ic_eq (tgt := 529) dL_law_521 (by decide) ⟨by omega, by omega⟩ ⟨by omega, by omega⟩ (fun hb521 => ?_) (fun h => (h (by omega)).elim)
  refine x_aload_n dL_law_529 rfl ?_
  refine x_iload dL_law_530 rfl ?_
  refine x_iload dL_law_532 rfl ?_
  refine x_iload dL_law_534 rfl ?_
  refine x_sipush dL_law_536 (by decide) ?_
  refine c_RL_135d dL_law_539 rfl (kL_low (by omega) ⟨by omega, by omega⟩) (Nat.le_of_ble_eq_true rfl) (Nat.le_of_ble_eq_true rfl) hkk ?_
  refine c_RL_104p dL_law_542 rfl (kX7_setSill hP2.1 (Or.inl rfl) hP2.2.1 (by omega) ⟨by omega, by omega⟩ ⟨by omega, by omega⟩ ⟨by omega, by omega⟩) bk (Nat.le_of_ble_eq_true rfl) (Nat.le_of_ble_eq_true rfl) hkk (fun w3 D3 h3 => ?_)
  obtain ⟨rfl, hP3⟩ := hP2.some hz2 h3
  refine x_if_lt (tgt := 574) dL_law_545 (by decide) ⟨by omega, by omega⟩ (fun h => absurd h (by omega)) (fun hb545 => ?_)
  refine x_aload_n dL_law_548 rfl ?_
  refine x_iload dL_law_549 rfl ?_
  refine x_bipush dL_law_551 (by decide) ?_
  refine x_iload dL_law_553 rfl ?_
  refine x_iadd dL_law_555 ?_
  refine c_RL_15d dL_law_556 rfl (tc_s hP3 (by omega) hc3 hg) bk (Nat.le_of_ble_eq_true rfl) (Nat.le_of_ble_eq_true rfl) hkk ?_
  rw [m9]
  refine x_iload dL_law_559 rfl ?_
  refine x_sipush dL_law_561 (by decide) ?_
  refine c_RL_135d dL_law_564 rfl (kL_low (by omega) ⟨by omega, by omega⟩) (Nat.le_of_ble_eq_true rfl) (Nat.le_of_ble_eq_true rfl) hkk ?_
  refine x_ic_ne (tgt := 574) dL_law_567 (by decide) ⟨by omega, by omega⟩ ⟨by omega, by omega⟩ (fun h => absurd h (by omega)) (fun hb567 => ?_)
  refine x_iconst dL_law_570 ?_
  refine x_goto (tgt := 575) dL_law_571 (by decide) ?_
  refine x_istore dL_law_575 (by decide) ?_
  show JX _ _ _ _ _ _ _ _ _ _ _ [_, _, _, _, _, _, _, _, _, _, _, _, _, _, _, _] _ _
  refine x_goto (tgt := 999) dL_law_577 (by decide) ?_
  exact K _ _ _ _ _ _ _ _ _ (hP3.mono (by omega)) (hE3.mono (by omega))
theorem law_3y {G : JG} {S : JS} {D : JD} {d : Nat} {kc : Nat × Nat} {X t n q g0 h0 e g h u c gg b : Int} {hs : Int → Int → Int} {r : Int → Int} {l12 l13 l14 l15 : Option JV} (hP : pSt S D X t n hs r q) (hE : pIn e r) (t0 : 0 ≤ t) (ht9 : t + 1000 ≤ 60000) (hkk : kc.1 ≤ 615115 ∧ kc.2 ≤ 7256902) (e0 : 0 ≤ e) (e1 : e ≤ 44) (hc : 0 ≤ c ∧ c < r 1) (hg : gg = 0 ∨ gg = 1) (hb : 0 ≤ b ∧ b < r 2) (rg : i32 g) (rh : i32 h) (K : JCon G d kc S X t g0 h0 e g h u c gg b) (hu : u = 3) (hm : ¬ r (27 + 11 * c + gg) = 0) : JLc G d kc S D X g0 h0 e g h u c gg b 1 l12 l13 l14 l15 240 [] := by
  have ht : t ≤ 60000 := by omega
  have ht2 : t + 100 ≤ 60000 := by omega
  have hB := hP.1
  have bk := hB.1
  have hI := hP.2.1.2.2.2.1
  have b1 := hI.1
  obtain ⟨E0, E1, E2, E3, E4, E5⟩ := id hE
  have r01 : r 0 = r 1 + 1 := by omega
  have co := (hI.2.2.1 c hc.1 hc.2).2
  unfold rCo at co
  have b27 : 0 ≤ r (27 + 11 * c + gg) ∧ r (27 + 11 * c + gg) ≤ 60000 := by
    rcases hg with rfl | rfl
    · rw [show 27 + 11 * c + 0 = 27 + 11 * c by omega]; omega
    · rw [show 27 + 11 * c + 1 = 28 + 11 * c by omega]; omega
  have b1 := lw_b (v := h) (n := 200) (by omega)
  have hz : zDredge c gg r = (r (27 + 11 * c + gg), some (rup r (27 + 11 * c + gg) 0), 0) := by unfold zDredge; rw [if_pos ⟨hc, hg⟩, if_neg hm]
  have co30 : 0 ≤ r (30 + 11 * c) ∧ 0 ≤ r (31 + 11 * c) := ⟨by omega, by omega⟩
  have hI3 := hI.own (k := 27 + 11 * c + gg) (v := 0) hc.1 hc.2 (by omega)
  have hIs := hI3.all
  have hEs := (hE.off hI (pOff.one (r := r) (k := 27 + 11 * c + gg) (v := 0) (by omega) (fun c2 _ _ => by omega) (fun b _ _ => by omega))).all hI3
  have hms : sAll (rup r (27 + 11 * c + gg) 0) (27 + 11 * c + gg) = 0 := by rw [hI3.keepC (c := c) (z := 6 + gg) ⟨hc.1, by omega⟩ (by omega) (by omega), rup_eq]
  have hcs : 0 ≤ c ∧ c < sAll (rup r (27 + 11 * c + gg) 0) 1 := ⟨hc.1, by rw [hI3.keep (by omega), rup_ne (by omega)]; exact hc.2⟩
  obtain ⟨hz2, b25, hE3, k13, m9⟩ := sill_step (v := lw h 200) hIs hEs hcs hg ⟨by omega, by omega⟩ hms
  have hc3 : 0 ≤ c ∧ c < sAll (rup (sAll (rup r (27 + 11 * c + gg) 0)) (25 + 11 * c + gg) (lw h 200)) 1 := ⟨hc.1, by rw [k13]; exact hcs.2⟩
  show JX _ _ _ _ _ _ _ _ _ _ _ [_, _, _, _, _, _, _, _, _, _, _, _, _, _, _, _] _ _
  refine x_iload dL_law_240 rfl ?_
  refine x_if_ne (tgt := 343) dL_law_242 (by decide) ⟨by omega, by omega⟩ (fun hb242 => ?_) (fun h => (h (by omega)).elim)
  refine x_iload dL_law_343 rfl ?_
  refine x_iconst dL_law_345 ?_
  refine x_ic_ne (tgt := 445) dL_law_346 (by decide) ⟨by omega, by omega⟩ ⟨by omega, by omega⟩ (fun hb346 => ?_) (fun h => (h (by omega)).elim)
  refine x_iload dL_law_445 rfl ?_
  refine x_iconst dL_law_447 ?_
  refine x_ic_ne (tgt := 501) dL_law_448 (by decide) ⟨by omega, by omega⟩ ⟨by omega, by omega⟩ (fun hb448 => ?_) (fun h => (h (by omega)).elim)
  refine x_iload dL_law_501 rfl ?_
  refine x_iconst dL_law_503 ?_
  refine x_ic_ne (tgt := 580) dL_law_504 (by decide) ⟨by omega, by omega⟩ ⟨by omega, by omega⟩ (fun h => absurd h (by omega)) (fun hb504 => ?_)
  refine x_aload_n dL_law_507 rfl ?_
  refine x_iload dL_law_508 rfl ?_
  refine x_iload dL_law_510 rfl ?_
  refine c_RL_110p dL_law_512 rfl (kX7_dredge hP.1 (Or.inl rfl) hP.2.1 ht2 ⟨by omega, by omega⟩ ⟨by omega, by omega⟩) bk (Nat.le_of_ble_eq_true rfl) (Nat.le_of_ble_eq_true rfl) hkk (fun w2 D2 h2 => ?_)
  obtain ⟨rfl, hP2⟩ := hP.some hz h2
  refine x_istore dL_law_515 (by decide) ?_
  show JX _ _ _ _ _ _ _ _ _ _ _ [_, _, _, _, _, _, _, _, _, _, _, _, _, _, _, _] _ _
  refine x_iload dL_law_517 rfl ?_
  refine x_ldc (e := -100000005) dL_law_519 ct_RL_41 (by decide) ?_
  refine x_ic_eq (tgt := 529) dL_law_521 (by decide) ⟨by omega, by omega⟩ ⟨by omega, by omega⟩ (fun h => absurd h (by omega)) (fun hb521 => ?_)
  refine x_iload dL_law_524 rfl ?_
  refine x_if_le (tgt := 574) dL_law_526 (by decide) ⟨by omega, by omega⟩ (fun h => absurd h (by omega)) (fun hb526 => ?_)
  refine x_aload_n dL_law_529 rfl ?_
  refine x_iload dL_law_530 rfl ?_
  refine x_iload dL_law_532 rfl ?_
  refine x_iload dL_law_534 rfl ?_
  refine x_sipush dL_law_536 (by decide) ?_
  refine c_RL_135d dL_law_539 rfl (kL_low (by omega) ⟨by omega, by omega⟩) (Nat.le_of_ble_eq_true rfl) (Nat.le_of_ble_eq_true rfl) hkk ?_
  refine c_RL_104p dL_law_542 rfl (kX7_setSill hP2.1 (Or.inl rfl) hP2.2.1 (by omega) ⟨by omega, by omega⟩ ⟨by omega, by omega⟩ ⟨by omega, by omega⟩) bk (Nat.le_of_ble_eq_true rfl) (Nat.le_of_ble_eq_true rfl) hkk (fun w3 D3 h3 => ?_)
  obtain ⟨rfl, hP3⟩ := hP2.some hz2 h3
  refine x_if_lt (tgt := 574) dL_law_545 (by decide) ⟨by omega, by omega⟩ (fun h => absurd h (by omega)) (fun hb545 => ?_)
  refine x_aload_n dL_law_548 rfl ?_
  refine x_iload dL_law_549 rfl ?_
  refine x_bipush dL_law_551 (by decide) ?_
  refine x_iload dL_law_553 rfl ?_
  refine x_iadd dL_law_555 ?_
  refine c_RL_15d dL_law_556 rfl (tc_s hP3 (by omega) hc3 hg) bk (Nat.le_of_ble_eq_true rfl) (Nat.le_of_ble_eq_true rfl) hkk ?_
  rw [m9]
  refine x_iload dL_law_559 rfl ?_
  refine x_sipush dL_law_561 (by decide) ?_
  refine c_RL_135d dL_law_564 rfl (kL_low (by omega) ⟨by omega, by omega⟩) (Nat.le_of_ble_eq_true rfl) (Nat.le_of_ble_eq_true rfl) hkk ?_
  refine x_ic_ne (tgt := 574) dL_law_567 (by decide) ⟨by omega, by omega⟩ ⟨by omega, by omega⟩ (fun h => absurd h (by omega)) (fun hb567 => ?_)
  refine x_iconst dL_law_570 ?_
  refine x_goto (tgt := 575) dL_law_571 (by decide) ?_
  refine x_istore dL_law_575 (by decide) ?_
  show JX _ _ _ _ _ _ _ _ _ _ _ [_, _, _, _, _, _, _, _, _, _, _, _, _, _, _, _] _ _
  refine x_goto (tgt := 999) dL_law_577 (by decide) ?_
  exact K _ _ _ _ _ _ _ _ _ (hP3.mono (by omega)) (hE3.mono (by omega))
theorem law_4n {G : JG} {S : JS} {D : JD} {d : Nat} {kc : Nat × Nat} {X t n q g0 h0 e g h u c gg b : Int} {hs : Int → Int → Int} {r : Int → Int} {l12 l13 l14 l15 : Option JV} (hP : pSt S D X t n hs r q) (hE : pIn e r) (t0 : 0 ≤ t) (ht9 : t + 1000 ≤ 60000) (hkk : kc.1 ≤ 615115 ∧ kc.2 ≤ 7256902) (e0 : 0 ≤ e) (e1 : e ≤ 44) (hc : 0 ≤ c ∧ c < r 1) (hg : gg = 0 ∨ gg = 1) (hb : 0 ≤ b ∧ b < r 2) (rg : i32 g) (rh : i32 h) (K : JCon G d kc S X t g0 h0 e g h u c gg b) (hu : u = 4) (hw : r (8 + 3 * lw g (r 0)) + (lw h 40001 - 20000) < 0) : JLc G d kc S D X g0 h0 e g h u c gg b 1 l12 l13 l14 l15 240 [] := by
  have ht : t ≤ 60000 := by omega
  have ht2 : t + 100 ≤ 60000 := by omega
  have hB := hP.1
  have bk := hB.1
  have hI := hP.2.1.2.2.2.1
  have b1 := hI.1
  obtain ⟨E0, E1, E2, E3, E4, E5⟩ := id hE
  have r01 : r 0 = r 1 + 1 := by omega
  show JX _ _ _ _ _ _ _ _ _ _ _ [_, _, _, _, _, _, _, _, _, _, _, _, _, _, _, _] _ _
  refine x_iload dL_law_240 rfl ?_
  refine x_if_ne (tgt := 343) dL_law_242 (by decide) ⟨by omega, by omega⟩ (fun hb242 => ?_) (fun h => (h (by omega)).elim)
  refine x_iload dL_law_343 rfl ?_
  refine x_iconst dL_law_345 ?_
  refine x_ic_ne (tgt := 445) dL_law_346 (by decide) ⟨by omega, by omega⟩ ⟨by omega, by omega⟩ (fun hb346 => ?_) (fun h => (h (by omega)).elim)
  refine x_iload dL_law_445 rfl ?_
  refine x_iconst dL_law_447 ?_
  refine x_ic_ne (tgt := 501) dL_law_448 (by decide) ⟨by omega, by omega⟩ ⟨by omega, by omega⟩ (fun hb448 => ?_) (fun h => (h (by omega)).elim)
  refine x_iload dL_law_501 rfl ?_
  refine x_iconst dL_law_503 ?_
  refine x_ic_ne (tgt := 580) dL_law_504 (by decide) ⟨by omega, by omega⟩ ⟨by omega, by omega⟩ (fun hb504 => ?_) (fun h => (h (by omega)).elim)
  refine x_iload dL_law_580 rfl ?_
  refine x_iconst dL_law_582 ?_
  refine x_ic_ne (tgt := 686) dL_law_583 (by decide) ⟨by omega, by omega⟩ ⟨by omega, by omega⟩ (fun h => absurd h (by omega)) (fun hb583 => ?_)
  refine x_iload dL_law_586 rfl ?_
  refine x_aload_n dL_law_588 rfl ?_
  refine x_iconst dL_law_589 ?_
  refine c_RL_18d dL_law_590 rfl (tn_0 hP ht) bk (Nat.le_of_ble_eq_true rfl) (Nat.le_of_ble_eq_true rfl) hkk ?_
  refine c_RL_135d dL_law_593 rfl (kL_low (by omega) ⟨by omega, by omega⟩) (Nat.le_of_ble_eq_true rfl) (Nat.le_of_ble_eq_true rfl) hkk ?_
  refine x_istore dL_law_596 (by decide) ?_
  show JX _ _ _ _ _ _ _ _ _ _ _ [_, _, _, _, _, _, _, _, _, _, _, _, _, _, _, _] _ _
  refine x_iload dL_law_598 rfl ?_
  refine x_ldc (e := 40001) dL_law_600 ct_RL_140 (by decide) ?_
  refine c_RL_135d dL_law_602 rfl (kL_low (by omega) ⟨by omega, by omega⟩) (Nat.le_of_ble_eq_true rfl) (Nat.le_of_ble_eq_true rfl) hkk ?_
  refine x_sipush dL_law_605 (by decide) ?_
  refine x_isub dL_law_608 ?_
  refine x_istore dL_law_609 (by decide) ?_
  show JX _ _ _ _ _ _ _ _ _ _ _ [_, _, _, _, _, _, _, _, _, _, _, _, _, _, _, _] _ _
  have b1 := lw_b (v := g) (n := r 0) (by omega)
  have b2 := lw_b (v := h) (n := 40001) (by omega)
  have hi : 0 ≤ lw g (r 0) ∧ lw g (r 0) < r 0 := ⟨by omega, by omega⟩
  have ar := hI.ar hi.1 hi.2
  have mr := (hI.maxw ht).2.1 _ hi.1 hi.2
  have sw := hE.some_water hI hi (by omega)
  generalize lw g (r 0) = i at *
  generalize hA : lw h 40001 = am at *
  have hz : zSupply i (am - 20000) r = (-100000003, none, 8) := by unfold zSupply; rw [if_pos hi, if_pos ⟨by omega, by omega⟩, if_neg (by omega)]
  refine x_aload_n dL_law_611 rfl ?_
  refine x_iload dL_law_612 rfl ?_
  refine x_iconst dL_law_614 ?_
  refine c_RL_9d dL_law_615 rfl (tr_1 hP ht hi) bk (Nat.le_of_ble_eq_true rfl) (Nat.le_of_ble_eq_true rfl) hkk ?_
  refine x_istore dL_law_618 (by decide) ?_
  show JX _ _ _ _ _ _ _ _ _ _ _ [_, _, _, _, _, _, _, _, _, _, _, _, _, _, _, _] _ _
  refine x_aload_n dL_law_620 rfl ?_
  refine x_iload dL_law_621 rfl ?_
  refine x_iload dL_law_623 rfl ?_
  refine c_RL_113p dL_law_625 rfl (kX7_supply hP.1 (Or.inl rfl) hP.2.1 ht2 ⟨by omega, by omega⟩ ⟨by omega, by omega⟩) bk (Nat.le_of_ble_eq_true rfl) (Nat.le_of_ble_eq_true rfl) hkk (fun w2 D2 h2 => ?_)
  obtain ⟨rfl, hP2⟩ := hP.ref hz (by decide) h2
  refine x_istore dL_law_628 (by decide) ?_
  show JX _ _ _ _ _ _ _ _ _ _ _ [_, _, _, _, _, _, _, _, _, _, _, _, _, _, _, _] _ _
  refine x_iload dL_law_630 rfl ?_
  refine x_iload dL_law_632 rfl ?_
  refine x_iadd dL_law_634 ?_
  refine x_if_ge (tgt := 664) dL_law_635 (by decide) ⟨by omega, by omega⟩ (fun h => absurd h (by omega)) (fun hb635 => ?_)
  refine x_iload dL_law_638 rfl ?_
  refine x_ldc (e := -100000003) dL_law_640 ct_RL_59 (by decide) ?_
  refine x_ic_ne (tgt := 660) dL_law_642 (by decide) ⟨by omega, by omega⟩ ⟨by omega, by omega⟩ (fun h => absurd h (by omega)) (fun hb642 => ?_)
  refine x_aload_n dL_law_645 rfl ?_
  refine x_bipush dL_law_646 (by decide) ?_
  refine c_RL_18d dL_law_648 rfl (tn_7 hP2 ht2) bk (Nat.le_of_ble_eq_true rfl) (Nat.le_of_ble_eq_true rfl) hkk ?_
  refine x_bipush dL_law_651 (by decide) ?_
  refine x_ic_ne (tgt := 660) dL_law_653 (by decide) ⟨by omega, by omega⟩ ⟨by omega, by omega⟩ (fun h => absurd h (by omega)) (fun hb653 => ?_)
  refine x_iconst dL_law_656 ?_
  refine x_goto (tgt := 681) dL_law_657 (by decide) ?_
  refine x_istore dL_law_681 (by decide) ?_
  show JX _ _ _ _ _ _ _ _ _ _ _ [_, _, _, _, _, _, _, _, _, _, _, _, _, _, _, _] _ _
  refine x_goto (tgt := 999) dL_law_683 (by decide) ?_
  exact K _ _ _ _ _ _ _ _ _ (hP2.mono (by omega)) (hE.mono (by omega))
theorem law_4y {G : JG} {S : JS} {D : JD} {d : Nat} {kc : Nat × Nat} {X t n q g0 h0 e g h u c gg b : Int} {hs : Int → Int → Int} {r : Int → Int} {l12 l13 l14 l15 : Option JV} (hP : pSt S D X t n hs r q) (hE : pIn e r) (t0 : 0 ≤ t) (ht9 : t + 1000 ≤ 60000) (hkk : kc.1 ≤ 615115 ∧ kc.2 ≤ 7256902) (e0 : 0 ≤ e) (e1 : e ≤ 44) (hc : 0 ≤ c ∧ c < r 1) (hg : gg = 0 ∨ gg = 1) (hb : 0 ≤ b ∧ b < r 2) (rg : i32 g) (rh : i32 h) (K : JCon G d kc S X t g0 h0 e g h u c gg b) (hu : u = 4) (hw : ¬ r (8 + 3 * lw g (r 0)) + (lw h 40001 - 20000) < 0) : JLc G d kc S D X g0 h0 e g h u c gg b 1 l12 l13 l14 l15 240 [] := by
  have ht : t ≤ 60000 := by omega
  have ht2 : t + 100 ≤ 60000 := by omega
  have hB := hP.1
  have bk := hB.1
  have hI := hP.2.1.2.2.2.1
  have b1 := hI.1
  obtain ⟨E0, E1, E2, E3, E4, E5⟩ := id hE
  have r01 : r 0 = r 1 + 1 := by omega
  show JX _ _ _ _ _ _ _ _ _ _ _ [_, _, _, _, _, _, _, _, _, _, _, _, _, _, _, _] _ _
  refine x_iload dL_law_240 rfl ?_
  refine x_if_ne (tgt := 343) dL_law_242 (by decide) ⟨by omega, by omega⟩ (fun hb242 => ?_) (fun h => (h (by omega)).elim)
  refine x_iload dL_law_343 rfl ?_
  refine x_iconst dL_law_345 ?_
  refine x_ic_ne (tgt := 445) dL_law_346 (by decide) ⟨by omega, by omega⟩ ⟨by omega, by omega⟩ (fun hb346 => ?_) (fun h => (h (by omega)).elim)
  refine x_iload dL_law_445 rfl ?_
  refine x_iconst dL_law_447 ?_
  refine x_ic_ne (tgt := 501) dL_law_448 (by decide) ⟨by omega, by omega⟩ ⟨by omega, by omega⟩ (fun hb448 => ?_) (fun h => (h (by omega)).elim)
  refine x_iload dL_law_501 rfl ?_
  refine x_iconst dL_law_503 ?_
  refine x_ic_ne (tgt := 580) dL_law_504 (by decide) ⟨by omega, by omega⟩ ⟨by omega, by omega⟩ (fun hb504 => ?_) (fun h => (h (by omega)).elim)
  refine x_iload dL_law_580 rfl ?_
  refine x_iconst dL_law_582 ?_
  refine x_ic_ne (tgt := 686) dL_law_583 (by decide) ⟨by omega, by omega⟩ ⟨by omega, by omega⟩ (fun h => absurd h (by omega)) (fun hb583 => ?_)
  refine x_iload dL_law_586 rfl ?_
  refine x_aload_n dL_law_588 rfl ?_
  refine x_iconst dL_law_589 ?_
  refine c_RL_18d dL_law_590 rfl (tn_0 hP ht) bk (Nat.le_of_ble_eq_true rfl) (Nat.le_of_ble_eq_true rfl) hkk ?_
  refine c_RL_135d dL_law_593 rfl (kL_low (by omega) ⟨by omega, by omega⟩) (Nat.le_of_ble_eq_true rfl) (Nat.le_of_ble_eq_true rfl) hkk ?_
  refine x_istore dL_law_596 (by decide) ?_
  show JX _ _ _ _ _ _ _ _ _ _ _ [_, _, _, _, _, _, _, _, _, _, _, _, _, _, _, _] _ _
  refine x_iload dL_law_598 rfl ?_
  refine x_ldc (e := 40001) dL_law_600 ct_RL_140 (by decide) ?_
  refine c_RL_135d dL_law_602 rfl (kL_low (by omega) ⟨by omega, by omega⟩) (Nat.le_of_ble_eq_true rfl) (Nat.le_of_ble_eq_true rfl) hkk ?_
  refine x_sipush dL_law_605 (by decide) ?_
  refine x_isub dL_law_608 ?_
  refine x_istore dL_law_609 (by decide) ?_
  show JX _ _ _ _ _ _ _ _ _ _ _ [_, _, _, _, _, _, _, _, _, _, _, _, _, _, _, _] _ _
  have b1 := lw_b (v := g) (n := r 0) (by omega)
  have b2 := lw_b (v := h) (n := 40001) (by omega)
  have hi : 0 ≤ lw g (r 0) ∧ lw g (r 0) < r 0 := ⟨by omega, by omega⟩
  have ar := hI.ar hi.1 hi.2
  have mr := (hI.maxw ht).2.1 _ hi.1 hi.2
  have sw := hE.some_water hI hi (by omega)
  generalize lw g (r 0) = i at *
  generalize hA : lw h 40001 = am at *
  have hz : zSupply i (am - 20000) r = (sLv (sAll (rSupply i (am - 20000) r)) i, some (rSupply i (am - 20000) r), 0) := by unfold zSupply; rw [if_pos hi, if_pos ⟨by omega, by omega⟩, if_pos ⟨by omega, by omega⟩]
  have hI3 := hI.supply (v := am - 20000) hi.1 hi.2 ⟨by omega, by omega⟩ ⟨by omega, by omega⟩
  have hE3 := (hE.supply (v := am - 20000) hI hi (by omega)).all hI3
  have hi2 : 0 ≤ i ∧ i < sAll (rSupply i (am - 20000) r) 0 := ⟨hi.1, by rw [hI3.keep (by omega)]; unfold rSupply; rw [rup_ne (by omega), rup_ne (by omega)]; exact hi.2⟩
  refine x_aload_n dL_law_611 rfl ?_
  refine x_iload dL_law_612 rfl ?_
  refine x_iconst dL_law_614 ?_
  refine c_RL_9d dL_law_615 rfl (tr_1 hP ht hi) bk (Nat.le_of_ble_eq_true rfl) (Nat.le_of_ble_eq_true rfl) hkk ?_
  refine x_istore dL_law_618 (by decide) ?_
  show JX _ _ _ _ _ _ _ _ _ _ _ [_, _, _, _, _, _, _, _, _, _, _, _, _, _, _, _] _ _
  refine x_aload_n dL_law_620 rfl ?_
  refine x_iload dL_law_621 rfl ?_
  refine x_iload dL_law_623 rfl ?_
  refine c_RL_113p dL_law_625 rfl (kX7_supply hP.1 (Or.inl rfl) hP.2.1 ht2 ⟨by omega, by omega⟩ ⟨by omega, by omega⟩) bk (Nat.le_of_ble_eq_true rfl) (Nat.le_of_ble_eq_true rfl) hkk (fun w2 D2 h2 => ?_)
  obtain ⟨rfl, hP2⟩ := hP.some hz h2
  have pb2 := hP2.2.1.2.2.2.1.pB ht2 (p := i) (Or.inl hi2)
  refine x_istore dL_law_628 (by decide) ?_
  show JX _ _ _ _ _ _ _ _ _ _ _ [_, _, _, _, _, _, _, _, _, _, _, _, _, _, _, _] _ _
  refine x_iload dL_law_630 rfl ?_
  refine x_iload dL_law_632 rfl ?_
  refine x_iadd dL_law_634 ?_
  refine x_if_ge (tgt := 664) dL_law_635 (by decide) ⟨by omega, by omega⟩ (fun hb635 => ?_) (fun h => (h (by omega)).elim)
  refine x_iload dL_law_664 rfl ?_
  refine x_aload_n dL_law_666 rfl ?_
  refine x_iload dL_law_667 rfl ?_
  refine x_iconst dL_law_669 ?_
  refine c_RL_9d dL_law_670 rfl (tr_0 hP2 ht2 hi2) bk (Nat.le_of_ble_eq_true rfl) (Nat.le_of_ble_eq_true rfl) hkk ?_
  refine x_ic_ne (tgt := 680) dL_law_673 (by decide) ⟨by omega, by omega⟩ ⟨by omega, by omega⟩ (fun h => absurd h (by omega)) (fun hb673 => ?_)
  refine x_iconst dL_law_676 ?_
  refine x_goto (tgt := 681) dL_law_677 (by decide) ?_
  refine x_istore dL_law_681 (by decide) ?_
  show JX _ _ _ _ _ _ _ _ _ _ _ [_, _, _, _, _, _, _, _, _, _, _, _, _, _, _, _] _ _
  refine x_goto (tgt := 999) dL_law_683 (by decide) ?_
  exact K _ _ _ _ _ _ _ _ _ (hP2.mono (by omega)) (hE3.mono (by omega))
theorem law_5 {G : JG} {S : JS} {D : JD} {d : Nat} {kc : Nat × Nat} {X t n q g0 h0 e g h u c gg b : Int} {hs : Int → Int → Int} {r : Int → Int} {l12 l13 l14 l15 : Option JV} (hP : pSt S D X t n hs r q) (hE : pIn e r) (t0 : 0 ≤ t) (ht9 : t + 1000 ≤ 60000) (hkk : kc.1 ≤ 615115 ∧ kc.2 ≤ 7256902) (e0 : 0 ≤ e) (e1 : e ≤ 44) (hc : 0 ≤ c ∧ c < r 1) (hg : gg = 0 ∨ gg = 1) (hb : 0 ≤ b ∧ b < r 2) (rg : i32 g) (rh : i32 h) (K : JCon G d kc S X t g0 h0 e g h u c gg b) (hu : u = 5 ∨ u = 6) : JLc G d kc S D X g0 h0 e g h u c gg b 1 l12 l13 l14 l15 240 [] := by
  have ht : t ≤ 60000 := by omega
  have ht2 : t + 100 ≤ 60000 := by omega
  have hB := hP.1
  have bk := hB.1
  have hI := hP.2.1.2.2.2.1
  have b1 := hI.1
  obtain ⟨E0, E1, E2, E3, E4, E5⟩ := id hE
  have r01 : r 0 = r 1 + 1 := by omega
  show JX _ _ _ _ _ _ _ _ _ _ _ [_, _, _, _, _, _, _, _, _, _, _, _, _, _, _, _] _ _
  refine x_iload dL_law_240 rfl ?_
  refine x_if_ne (tgt := 343) dL_law_242 (by decide) ⟨by omega, by omega⟩ (fun hb242 => ?_) (fun h => (h (by omega)).elim)
  refine x_iload dL_law_343 rfl ?_
  refine x_iconst dL_law_345 ?_
  refine x_ic_ne (tgt := 445) dL_law_346 (by decide) ⟨by omega, by omega⟩ ⟨by omega, by omega⟩ (fun hb346 => ?_) (fun h => (h (by omega)).elim)
  refine x_iload dL_law_445 rfl ?_
  refine x_iconst dL_law_447 ?_
  refine x_ic_ne (tgt := 501) dL_law_448 (by decide) ⟨by omega, by omega⟩ ⟨by omega, by omega⟩ (fun hb448 => ?_) (fun h => (h (by omega)).elim)
  refine x_iload dL_law_501 rfl ?_
  refine x_iconst dL_law_503 ?_
  refine x_ic_ne (tgt := 580) dL_law_504 (by decide) ⟨by omega, by omega⟩ ⟨by omega, by omega⟩ (fun hb504 => ?_) (fun h => (h (by omega)).elim)
  refine x_iload dL_law_580 rfl ?_
  refine x_iconst dL_law_582 ?_
  refine x_ic_ne (tgt := 686) dL_law_583 (by decide) ⟨by omega, by omega⟩ ⟨by omega, by omega⟩ (fun hb583 => ?_) (fun h => (h (by omega)).elim)
  refine x_iload dL_law_686 rfl ?_
  refine x_bipush dL_law_688 (by decide) ?_
  refine x_ic_ge (tgt := 706) dL_law_690 (by decide) ⟨by omega, by omega⟩ ⟨by omega, by omega⟩ (fun h => absurd h (by omega)) (fun hb690 => ?_)
  refine x_aload_n dL_law_693 rfl ?_
  refine x_iload dL_law_694 rfl ?_
  refine x_iload dL_law_696 rfl ?_
  refine c_RL_141p dL_law_698 rfl (kL_sluices hP hE t0 (by omega) hc hg) (Nat.le_of_ble_eq_true rfl) (Nat.le_of_ble_eq_true rfl) hkk (fun w2 D2 y2 => ?_)
  obtain ⟨rfl, n2, hs2, r2, q2, hP2, hE2, k12, k22⟩ := y2
  refine x_istore dL_law_701 (by decide) ?_
  show JX _ _ _ _ _ _ _ _ _ _ _ [_, _, _, _, _, _, _, _, _, _, _, _, _, _, _, _] _ _
  refine x_goto (tgt := 999) dL_law_703 (by decide) ?_
  exact K _ _ _ _ _ _ _ _ _ (hP2.mono (by omega)) (hE2.mono (by omega))
theorem law_7 {G : JG} {S : JS} {D : JD} {d : Nat} {kc : Nat × Nat} {X t n q g0 h0 e g h u c gg b : Int} {hs : Int → Int → Int} {r : Int → Int} {l12 l13 l14 l15 : Option JV} (hP : pSt S D X t n hs r q) (hE : pIn e r) (t0 : 0 ≤ t) (ht9 : t + 1000 ≤ 60000) (hkk : kc.1 ≤ 615115 ∧ kc.2 ≤ 7256902) (e0 : 0 ≤ e) (e1 : e ≤ 44) (hc : 0 ≤ c ∧ c < r 1) (hg : gg = 0 ∨ gg = 1) (hb : 0 ≤ b ∧ b < r 2) (rg : i32 g) (rh : i32 h) (K : JCon G d kc S X t g0 h0 e g h u c gg b) (hu : u = 7 ∨ u = 8) : JLc G d kc S D X g0 h0 e g h u c gg b 1 l12 l13 l14 l15 240 [] := by
  have ht : t ≤ 60000 := by omega
  have ht2 : t + 100 ≤ 60000 := by omega
  have hB := hP.1
  have bk := hB.1
  have hI := hP.2.1.2.2.2.1
  have b1 := hI.1
  obtain ⟨E0, E1, E2, E3, E4, E5⟩ := id hE
  have r01 : r 0 = r 1 + 1 := by omega
  show JX _ _ _ _ _ _ _ _ _ _ _ [_, _, _, _, _, _, _, _, _, _, _, _, _, _, _, _] _ _
  refine x_iload dL_law_240 rfl ?_
  refine x_if_ne (tgt := 343) dL_law_242 (by decide) ⟨by omega, by omega⟩ (fun hb242 => ?_) (fun h => (h (by omega)).elim)
  refine x_iload dL_law_343 rfl ?_
  refine x_iconst dL_law_345 ?_
  refine x_ic_ne (tgt := 445) dL_law_346 (by decide) ⟨by omega, by omega⟩ ⟨by omega, by omega⟩ (fun hb346 => ?_) (fun h => (h (by omega)).elim)
  refine x_iload dL_law_445 rfl ?_
  refine x_iconst dL_law_447 ?_
  refine x_ic_ne (tgt := 501) dL_law_448 (by decide) ⟨by omega, by omega⟩ ⟨by omega, by omega⟩ (fun hb448 => ?_) (fun h => (h (by omega)).elim)
  refine x_iload dL_law_501 rfl ?_
  refine x_iconst dL_law_503 ?_
  refine x_ic_ne (tgt := 580) dL_law_504 (by decide) ⟨by omega, by omega⟩ ⟨by omega, by omega⟩ (fun hb504 => ?_) (fun h => (h (by omega)).elim)
  refine x_iload dL_law_580 rfl ?_
  refine x_iconst dL_law_582 ?_
  refine x_ic_ne (tgt := 686) dL_law_583 (by decide) ⟨by omega, by omega⟩ ⟨by omega, by omega⟩ (fun hb583 => ?_) (fun h => (h (by omega)).elim)
  refine x_iload dL_law_686 rfl ?_
  refine x_bipush dL_law_688 (by decide) ?_
  refine x_ic_ge (tgt := 706) dL_law_690 (by decide) ⟨by omega, by omega⟩ ⟨by omega, by omega⟩ (fun hb690 => ?_) (fun h => (h (by omega)).elim)
  refine x_iload dL_law_706 rfl ?_
  refine x_bipush dL_law_708 (by decide) ?_
  refine x_ic_ge (tgt := 745) dL_law_710 (by decide) ⟨by omega, by omega⟩ ⟨by omega, by omega⟩ (fun h => absurd h (by omega)) (fun hb710 => ?_)
  refine x_aload_n dL_law_713 rfl ?_
  refine x_iload dL_law_714 rfl ?_
  refine x_iload dL_law_716 rfl ?_
  refine c_RL_141p dL_law_718 rfl (kL_sluices hP hE t0 (by omega) hc hg) (Nat.le_of_ble_eq_true rfl) (Nat.le_of_ble_eq_true rfl) hkk (fun w2 D2 y2 => ?_)
  obtain ⟨rfl, n2, hs2, r2, q2, hP2, hE2, k12, k22⟩ := y2
  refine x_if_eq (tgt := 739) dL_law_721 (by decide) ⟨by omega, by omega⟩ (fun h => absurd h (by omega)) (fun hb721 => ?_)
  refine x_aload_n dL_law_724 rfl ?_
  refine x_iload dL_law_725 rfl ?_
  refine x_iload dL_law_727 rfl ?_
  refine c_RL_145p dL_law_729 rfl (kL_opens hP2 hE2 (by omega) (by omega) ⟨hc.1, by omega⟩ hg) (Nat.le_of_ble_eq_true rfl) (Nat.le_of_ble_eq_true rfl) hkk (fun w3 D3 y3 => ?_)
  obtain ⟨rfl, n3, hs3, r3, q3, hP3, hE3, k13, k23⟩ := y3
  refine x_if_eq (tgt := 739) dL_law_732 (by decide) ⟨by omega, by omega⟩ (fun h => absurd h (by omega)) (fun hb732 => ?_)
  refine x_iconst dL_law_735 ?_
  refine x_goto (tgt := 740) dL_law_736 (by decide) ?_
  refine x_istore dL_law_740 (by decide) ?_
  show JX _ _ _ _ _ _ _ _ _ _ _ [_, _, _, _, _, _, _, _, _, _, _, _, _, _, _, _] _ _
  refine x_goto (tgt := 999) dL_law_742 (by decide) ?_
  exact K _ _ _ _ _ _ _ _ _ (hP3.mono (by omega)) (hE3.mono (by omega))
theorem law_9n {G : JG} {S : JS} {D : JD} {d : Nat} {kc : Nat × Nat} {X t n q g0 h0 e g h u c gg b : Int} {hs : Int → Int → Int} {r : Int → Int} {l12 l13 l14 l15 : Option JV} (hP : pSt S D X t n hs r q) (hE : pIn e r) (t0 : 0 ≤ t) (ht9 : t + 1000 ≤ 60000) (hkk : kc.1 ≤ 615115 ∧ kc.2 ≤ 7256902) (e0 : 0 ≤ e) (e1 : e ≤ 44) (hc : 0 ≤ c ∧ c < r 1) (hg : gg = 0 ∨ gg = 1) (hb : 0 ≤ b ∧ b < r 2) (rg : i32 g) (rh : i32 h) (K : JCon G d kc S X t g0 h0 e g h u c gg b) (hu : u = 9) (ho : r (29 + 11 * c) < 0) : JLc G d kc S D X g0 h0 e g h u c gg b 1 l12 l13 l14 l15 240 [] := by
  have ht : t ≤ 60000 := by omega
  have ht2 : t + 100 ≤ 60000 := by omega
  have hB := hP.1
  have bk := hB.1
  have hI := hP.2.1.2.2.2.1
  have b1 := hI.1
  obtain ⟨E0, E1, E2, E3, E4, E5⟩ := id hE
  have r01 : r 0 = r 1 + 1 := by omega
  have gt := hI.gates c hc.1 hc.2
  have hz : zClose c r = (-100000003, none, 2) := by unfold zClose; rw [if_pos hc, if_pos ho]
  show JX _ _ _ _ _ _ _ _ _ _ _ [_, _, _, _, _, _, _, _, _, _, _, _, _, _, _, _] _ _
  refine x_iload dL_law_240 rfl ?_
  refine x_if_ne (tgt := 343) dL_law_242 (by decide) ⟨by omega, by omega⟩ (fun hb242 => ?_) (fun h => (h (by omega)).elim)
  refine x_iload dL_law_343 rfl ?_
  refine x_iconst dL_law_345 ?_
  refine x_ic_ne (tgt := 445) dL_law_346 (by decide) ⟨by omega, by omega⟩ ⟨by omega, by omega⟩ (fun hb346 => ?_) (fun h => (h (by omega)).elim)
  refine x_iload dL_law_445 rfl ?_
  refine x_iconst dL_law_447 ?_
  refine x_ic_ne (tgt := 501) dL_law_448 (by decide) ⟨by omega, by omega⟩ ⟨by omega, by omega⟩ (fun hb448 => ?_) (fun h => (h (by omega)).elim)
  refine x_iload dL_law_501 rfl ?_
  refine x_iconst dL_law_503 ?_
  refine x_ic_ne (tgt := 580) dL_law_504 (by decide) ⟨by omega, by omega⟩ ⟨by omega, by omega⟩ (fun hb504 => ?_) (fun h => (h (by omega)).elim)
  refine x_iload dL_law_580 rfl ?_
  refine x_iconst dL_law_582 ?_
  refine x_ic_ne (tgt := 686) dL_law_583 (by decide) ⟨by omega, by omega⟩ ⟨by omega, by omega⟩ (fun hb583 => ?_) (fun h => (h (by omega)).elim)
  refine x_iload dL_law_686 rfl ?_
  refine x_bipush dL_law_688 (by decide) ?_
  refine x_ic_ge (tgt := 706) dL_law_690 (by decide) ⟨by omega, by omega⟩ ⟨by omega, by omega⟩ (fun hb690 => ?_) (fun h => (h (by omega)).elim)
  refine x_iload dL_law_706 rfl ?_
  refine x_bipush dL_law_708 (by decide) ?_
  refine x_ic_ge (tgt := 745) dL_law_710 (by decide) ⟨by omega, by omega⟩ ⟨by omega, by omega⟩ (fun hb710 => ?_) (fun h => (h (by omega)).elim)
  refine x_iload dL_law_745 rfl ?_
  refine x_bipush dL_law_747 (by decide) ?_
  refine x_ic_ne (tgt := 806) dL_law_749 (by decide) ⟨by omega, by omega⟩ ⟨by omega, by omega⟩ (fun h => absurd h (by omega)) (fun hb749 => ?_)
  refine x_aload_n dL_law_752 rfl ?_
  refine x_iload dL_law_753 rfl ?_
  refine x_bipush dL_law_755 (by decide) ?_
  refine c_RL_15d dL_law_757 rfl (tc_8 hP ht hc) bk (Nat.le_of_ble_eq_true rfl) (Nat.le_of_ble_eq_true rfl) hkk ?_
  refine x_istore dL_law_760 (by decide) ?_
  show JX _ _ _ _ _ _ _ _ _ _ _ [_, _, _, _, _, _, _, _, _, _, _, _, _, _, _, _] _ _
  refine x_aload_n dL_law_762 rfl ?_
  refine x_iload dL_law_763 rfl ?_
  refine c_RL_121p dL_law_765 rfl (kX7_close hP.1 (Or.inl rfl) hP.2.1 ht2 ⟨by omega, by omega⟩) bk (Nat.le_of_ble_eq_true rfl) (Nat.le_of_ble_eq_true rfl) hkk (fun w2 D2 h2 => ?_)
  obtain ⟨rfl, hP2⟩ := hP.ref hz (by decide) h2
  refine x_iload dL_law_768 rfl ?_
  refine x_if_ge (tgt := 778) dL_law_770 (by decide) ⟨by omega, by omega⟩ (fun h => absurd h (by omega)) (fun hb770 => ?_)
  refine x_ldc (e := -100000003) dL_law_773 ct_RL_59 (by decide) ?_
  refine x_goto (tgt := 780) dL_law_775 (by decide) ?_
  refine x_ic_ne (tgt := 800) dL_law_780 (by decide) ⟨by omega, by omega⟩ ⟨by omega, by omega⟩ (fun h => absurd h (by omega)) (fun hb780 => ?_)
  refine x_aload_n dL_law_783 rfl ?_
  refine x_iload dL_law_784 rfl ?_
  refine x_bipush dL_law_786 (by decide) ?_
  refine c_RL_15d dL_law_788 rfl (tc_8 hP2 ht2 hc) bk (Nat.le_of_ble_eq_true rfl) (Nat.le_of_ble_eq_true rfl) hkk ?_
  refine x_ldc (e := -100000005) dL_law_791 ct_RL_41 (by decide) ?_
  refine x_ic_ne (tgt := 800) dL_law_793 (by decide) ⟨by omega, by omega⟩ ⟨by omega, by omega⟩ (fun h => absurd h (by omega)) (fun hb793 => ?_)
  refine x_iconst dL_law_796 ?_
  refine x_goto (tgt := 801) dL_law_797 (by decide) ?_
  refine x_istore dL_law_801 (by decide) ?_
  show JX _ _ _ _ _ _ _ _ _ _ _ [_, _, _, _, _, _, _, _, _, _, _, _, _, _, _, _] _ _
  refine x_goto (tgt := 999) dL_law_803 (by decide) ?_
  exact K _ _ _ _ _ _ _ _ _ (hP2.mono (by omega)) (hE.mono (by omega))
theorem law_9y {G : JG} {S : JS} {D : JD} {d : Nat} {kc : Nat × Nat} {X t n q g0 h0 e g h u c gg b : Int} {hs : Int → Int → Int} {r : Int → Int} {l12 l13 l14 l15 : Option JV} (hP : pSt S D X t n hs r q) (hE : pIn e r) (t0 : 0 ≤ t) (ht9 : t + 1000 ≤ 60000) (hkk : kc.1 ≤ 615115 ∧ kc.2 ≤ 7256902) (e0 : 0 ≤ e) (e1 : e ≤ 44) (hc : 0 ≤ c ∧ c < r 1) (hg : gg = 0 ∨ gg = 1) (hb : 0 ≤ b ∧ b < r 2) (rg : i32 g) (rh : i32 h) (K : JCon G d kc S X t g0 h0 e g h u c gg b) (hu : u = 9) (ho : ¬ r (29 + 11 * c) < 0) : JLc G d kc S D X g0 h0 e g h u c gg b 1 l12 l13 l14 l15 240 [] := by
  have ht : t ≤ 60000 := by omega
  have ht2 : t + 100 ≤ 60000 := by omega
  have hB := hP.1
  have bk := hB.1
  have hI := hP.2.1.2.2.2.1
  have b1 := hI.1
  obtain ⟨E0, E1, E2, E3, E4, E5⟩ := id hE
  have r01 : r 0 = r 1 + 1 := by omega
  have gt := hI.gates c hc.1 hc.2
  have hz : zClose c r = (r (29 + 11 * c), some (rup r (29 + 11 * c) (-100000005)), 0) := by unfold zClose; rw [if_pos hc, if_neg ho]
  have hI3 := hI.own (k := 29 + 11 * c) (v := -100000005) hc.1 hc.2 (by omega)
  have hE3 := (hE.off hI (pOff.one (r := r) (k := 29 + 11 * c) (v := -100000005) (by omega) (fun c2 _ _ => by omega) (fun b _ _ => by omega))).all hI3
  have m8 : sAll (rup r (29 + 11 * c) (-100000005)) (29 + 11 * c) = -100000005 := by rw [hI3.keepC (c := c) (z := 8) ⟨hc.1, by omega⟩ (by omega) (by omega), rup_eq]
  have hc2 : 0 ≤ c ∧ c < sAll (rup r (29 + 11 * c) (-100000005)) 1 := ⟨hc.1, by rw [hI3.keep (by omega), rup_ne (by omega)]; exact hc.2⟩
  show JX _ _ _ _ _ _ _ _ _ _ _ [_, _, _, _, _, _, _, _, _, _, _, _, _, _, _, _] _ _
  refine x_iload dL_law_240 rfl ?_
  refine x_if_ne (tgt := 343) dL_law_242 (by decide) ⟨by omega, by omega⟩ (fun hb242 => ?_) (fun h => (h (by omega)).elim)
  refine x_iload dL_law_343 rfl ?_
  refine x_iconst dL_law_345 ?_
  refine x_ic_ne (tgt := 445) dL_law_346 (by decide) ⟨by omega, by omega⟩ ⟨by omega, by omega⟩ (fun hb346 => ?_) (fun h => (h (by omega)).elim)
  refine x_iload dL_law_445 rfl ?_
  refine x_iconst dL_law_447 ?_
  refine x_ic_ne (tgt := 501) dL_law_448 (by decide) ⟨by omega, by omega⟩ ⟨by omega, by omega⟩ (fun hb448 => ?_) (fun h => (h (by omega)).elim)
  refine x_iload dL_law_501 rfl ?_
  refine x_iconst dL_law_503 ?_
  refine x_ic_ne (tgt := 580) dL_law_504 (by decide) ⟨by omega, by omega⟩ ⟨by omega, by omega⟩ (fun hb504 => ?_) (fun h => (h (by omega)).elim)
  refine x_iload dL_law_580 rfl ?_
  refine x_iconst dL_law_582 ?_
  refine x_ic_ne (tgt := 686) dL_law_583 (by decide) ⟨by omega, by omega⟩ ⟨by omega, by omega⟩ (fun hb583 => ?_) (fun h => (h (by omega)).elim)
  refine x_iload dL_law_686 rfl ?_
  refine x_bipush dL_law_688 (by decide) ?_
  refine x_ic_ge (tgt := 706) dL_law_690 (by decide) ⟨by omega, by omega⟩ ⟨by omega, by omega⟩ (fun hb690 => ?_) (fun h => (h (by omega)).elim)
  refine x_iload dL_law_706 rfl ?_
  refine x_bipush dL_law_708 (by decide) ?_
  refine x_ic_ge (tgt := 745) dL_law_710 (by decide) ⟨by omega, by omega⟩ ⟨by omega, by omega⟩ (fun hb710 => ?_) (fun h => (h (by omega)).elim)
  refine x_iload dL_law_745 rfl ?_
  refine x_bipush dL_law_747 (by decide) ?_
  refine x_ic_ne (tgt := 806) dL_law_749 (by decide) ⟨by omega, by omega⟩ ⟨by omega, by omega⟩ (fun h => absurd h (by omega)) (fun hb749 => ?_)
  refine x_aload_n dL_law_752 rfl ?_
  refine x_iload dL_law_753 rfl ?_
  refine x_bipush dL_law_755 (by decide) ?_
  refine c_RL_15d dL_law_757 rfl (tc_8 hP ht hc) bk (Nat.le_of_ble_eq_true rfl) (Nat.le_of_ble_eq_true rfl) hkk ?_
  refine x_istore dL_law_760 (by decide) ?_
  show JX _ _ _ _ _ _ _ _ _ _ _ [_, _, _, _, _, _, _, _, _, _, _, _, _, _, _, _] _ _
  refine x_aload_n dL_law_762 rfl ?_
  refine x_iload dL_law_763 rfl ?_
  refine c_RL_121p dL_law_765 rfl (kX7_close hP.1 (Or.inl rfl) hP.2.1 ht2 ⟨by omega, by omega⟩) bk (Nat.le_of_ble_eq_true rfl) (Nat.le_of_ble_eq_true rfl) hkk (fun w2 D2 h2 => ?_)
  obtain ⟨rfl, hP2⟩ := hP.some hz h2
  refine x_iload dL_law_768 rfl ?_
  refine x_if_ge (tgt := 778) dL_law_770 (by decide) ⟨by omega, by omega⟩ (fun hb770 => ?_) (fun h => (h (by omega)).elim)
  refine x_iload dL_law_778 rfl ?_
  refine x_ic_ne (tgt := 800) dL_law_780 (by decide) ⟨by omega, by omega⟩ ⟨by omega, by omega⟩ (fun h => absurd h (by omega)) (fun hb780 => ?_)
  refine x_aload_n dL_law_783 rfl ?_
  refine x_iload dL_law_784 rfl ?_
  refine x_bipush dL_law_786 (by decide) ?_
  refine c_RL_15d dL_law_788 rfl (tc_8 hP2 ht2 hc2) bk (Nat.le_of_ble_eq_true rfl) (Nat.le_of_ble_eq_true rfl) hkk ?_
  rw [m8]
  refine x_ldc (e := -100000005) dL_law_791 ct_RL_41 (by decide) ?_
  refine x_ic_ne (tgt := 800) dL_law_793 (by decide) ⟨by omega, by omega⟩ ⟨by omega, by omega⟩ (fun h => absurd h (by omega)) (fun hb793 => ?_)
  refine x_iconst dL_law_796 ?_
  refine x_goto (tgt := 801) dL_law_797 (by decide) ?_
  refine x_istore dL_law_801 (by decide) ?_
  show JX _ _ _ _ _ _ _ _ _ _ _ [_, _, _, _, _, _, _, _, _, _, _, _, _, _, _, _] _ _
  refine x_goto (tgt := 999) dL_law_803 (by decide) ?_
  exact K _ _ _ _ _ _ _ _ _ (hP2.mono (by omega)) (hE3.mono (by omega))
theorem law_10 {G : JG} {S : JS} {D : JD} {d : Nat} {kc : Nat × Nat} {X t n q g0 h0 e g h u c gg b : Int} {hs : Int → Int → Int} {r : Int → Int} {l12 l13 l14 l15 : Option JV} (hP : pSt S D X t n hs r q) (hE : pIn e r) (t0 : 0 ≤ t) (ht9 : t + 1000 ≤ 60000) (hkk : kc.1 ≤ 615115 ∧ kc.2 ≤ 7256902) (e0 : 0 ≤ e) (e1 : e ≤ 44) (hc : 0 ≤ c ∧ c < r 1) (hg : gg = 0 ∨ gg = 1) (hb : 0 ≤ b ∧ b < r 2) (rg : i32 g) (rh : i32 h) (K : JCon G d kc S X t g0 h0 e g h u c gg b) (hu : u = 10 ∨ u = 11) : JLc G d kc S D X g0 h0 e g h u c gg b 1 l12 l13 l14 l15 240 [] := by
  have ht : t ≤ 60000 := by omega
  have ht2 : t + 100 ≤ 60000 := by omega
  have hB := hP.1
  have bk := hB.1
  have hI := hP.2.1.2.2.2.1
  have b1 := hI.1
  obtain ⟨E0, E1, E2, E3, E4, E5⟩ := id hE
  have r01 : r 0 = r 1 + 1 := by omega
  show JX _ _ _ _ _ _ _ _ _ _ _ [_, _, _, _, _, _, _, _, _, _, _, _, _, _, _, _] _ _
  refine x_iload dL_law_240 rfl ?_
  refine x_if_ne (tgt := 343) dL_law_242 (by decide) ⟨by omega, by omega⟩ (fun hb242 => ?_) (fun h => (h (by omega)).elim)
  refine x_iload dL_law_343 rfl ?_
  refine x_iconst dL_law_345 ?_
  refine x_ic_ne (tgt := 445) dL_law_346 (by decide) ⟨by omega, by omega⟩ ⟨by omega, by omega⟩ (fun hb346 => ?_) (fun h => (h (by omega)).elim)
  refine x_iload dL_law_445 rfl ?_
  refine x_iconst dL_law_447 ?_
  refine x_ic_ne (tgt := 501) dL_law_448 (by decide) ⟨by omega, by omega⟩ ⟨by omega, by omega⟩ (fun hb448 => ?_) (fun h => (h (by omega)).elim)
  refine x_iload dL_law_501 rfl ?_
  refine x_iconst dL_law_503 ?_
  refine x_ic_ne (tgt := 580) dL_law_504 (by decide) ⟨by omega, by omega⟩ ⟨by omega, by omega⟩ (fun hb504 => ?_) (fun h => (h (by omega)).elim)
  refine x_iload dL_law_580 rfl ?_
  refine x_iconst dL_law_582 ?_
  refine x_ic_ne (tgt := 686) dL_law_583 (by decide) ⟨by omega, by omega⟩ ⟨by omega, by omega⟩ (fun hb583 => ?_) (fun h => (h (by omega)).elim)
  refine x_iload dL_law_686 rfl ?_
  refine x_bipush dL_law_688 (by decide) ?_
  refine x_ic_ge (tgt := 706) dL_law_690 (by decide) ⟨by omega, by omega⟩ ⟨by omega, by omega⟩ (fun hb690 => ?_) (fun h => (h (by omega)).elim)
  refine x_iload dL_law_706 rfl ?_
  refine x_bipush dL_law_708 (by decide) ?_
  refine x_ic_ge (tgt := 745) dL_law_710 (by decide) ⟨by omega, by omega⟩ ⟨by omega, by omega⟩ (fun hb710 => ?_) (fun h => (h (by omega)).elim)
  refine x_iload dL_law_745 rfl ?_
  refine x_bipush dL_law_747 (by decide) ?_
  refine x_ic_ne (tgt := 806) dL_law_749 (by decide) ⟨by omega, by omega⟩ ⟨by omega, by omega⟩ (fun hb749 => ?_) (fun h => (h (by omega)).elim)
  refine x_iload dL_law_806 rfl ?_
  refine x_bipush dL_law_808 (by decide) ?_
  refine x_ic_ge (tgt := 826) dL_law_810 (by decide) ⟨by omega, by omega⟩ ⟨by omega, by omega⟩ (fun h => absurd h (by omega)) (fun hb810 => ?_)
  refine x_aload_n dL_law_813 rfl ?_
  refine x_iload dL_law_814 rfl ?_
  refine x_iload dL_law_816 rfl ?_
  refine c_RL_148p dL_law_818 rfl (kL_enters hP hE t0 (by omega) hb hc) (Nat.le_of_ble_eq_true rfl) (Nat.le_of_ble_eq_true rfl) hkk (fun w2 D2 y2 => ?_)
  obtain ⟨rfl, n2, hs2, r2, q2, hP2, hE2, k12, k22⟩ := y2
  refine x_istore dL_law_821 (by decide) ?_
  show JX _ _ _ _ _ _ _ _ _ _ _ [_, _, _, _, _, _, _, _, _, _, _, _, _, _, _, _] _ _
  refine x_goto (tgt := 999) dL_law_823 (by decide) ?_
  exact K _ _ _ _ _ _ _ _ _ (hP2.mono (by omega)) (hE2.mono (by omega))
theorem law_12 {G : JG} {S : JS} {D : JD} {d : Nat} {kc : Nat × Nat} {X t n q g0 h0 e g h u c gg b : Int} {hs : Int → Int → Int} {r : Int → Int} {l12 l13 l14 l15 : Option JV} (hP : pSt S D X t n hs r q) (hE : pIn e r) (t0 : 0 ≤ t) (ht9 : t + 1000 ≤ 60000) (hkk : kc.1 ≤ 615115 ∧ kc.2 ≤ 7256902) (e0 : 0 ≤ e) (e1 : e ≤ 44) (hc : 0 ≤ c ∧ c < r 1) (hg : gg = 0 ∨ gg = 1) (hb : 0 ≤ b ∧ b < r 2) (rg : i32 g) (rh : i32 h) (K : JCon G d kc S X t g0 h0 e g h u c gg b) (hu : u = 12 ∨ u = 13) : JLc G d kc S D X g0 h0 e g h u c gg b 1 l12 l13 l14 l15 240 [] := by
  have ht : t ≤ 60000 := by omega
  have ht2 : t + 100 ≤ 60000 := by omega
  have hB := hP.1
  have bk := hB.1
  have hI := hP.2.1.2.2.2.1
  have b1 := hI.1
  obtain ⟨E0, E1, E2, E3, E4, E5⟩ := id hE
  have r01 : r 0 = r 1 + 1 := by omega
  show JX _ _ _ _ _ _ _ _ _ _ _ [_, _, _, _, _, _, _, _, _, _, _, _, _, _, _, _] _ _
  refine x_iload dL_law_240 rfl ?_
  refine x_if_ne (tgt := 343) dL_law_242 (by decide) ⟨by omega, by omega⟩ (fun hb242 => ?_) (fun h => (h (by omega)).elim)
  refine x_iload dL_law_343 rfl ?_
  refine x_iconst dL_law_345 ?_
  refine x_ic_ne (tgt := 445) dL_law_346 (by decide) ⟨by omega, by omega⟩ ⟨by omega, by omega⟩ (fun hb346 => ?_) (fun h => (h (by omega)).elim)
  refine x_iload dL_law_445 rfl ?_
  refine x_iconst dL_law_447 ?_
  refine x_ic_ne (tgt := 501) dL_law_448 (by decide) ⟨by omega, by omega⟩ ⟨by omega, by omega⟩ (fun hb448 => ?_) (fun h => (h (by omega)).elim)
  refine x_iload dL_law_501 rfl ?_
  refine x_iconst dL_law_503 ?_
  refine x_ic_ne (tgt := 580) dL_law_504 (by decide) ⟨by omega, by omega⟩ ⟨by omega, by omega⟩ (fun hb504 => ?_) (fun h => (h (by omega)).elim)
  refine x_iload dL_law_580 rfl ?_
  refine x_iconst dL_law_582 ?_
  refine x_ic_ne (tgt := 686) dL_law_583 (by decide) ⟨by omega, by omega⟩ ⟨by omega, by omega⟩ (fun hb583 => ?_) (fun h => (h (by omega)).elim)
  refine x_iload dL_law_686 rfl ?_
  refine x_bipush dL_law_688 (by decide) ?_
  refine x_ic_ge (tgt := 706) dL_law_690 (by decide) ⟨by omega, by omega⟩ ⟨by omega, by omega⟩ (fun hb690 => ?_) (fun h => (h (by omega)).elim)
  refine x_iload dL_law_706 rfl ?_
  refine x_bipush dL_law_708 (by decide) ?_
  refine x_ic_ge (tgt := 745) dL_law_710 (by decide) ⟨by omega, by omega⟩ ⟨by omega, by omega⟩ (fun hb710 => ?_) (fun h => (h (by omega)).elim)
  refine x_iload dL_law_745 rfl ?_
  refine x_bipush dL_law_747 (by decide) ?_
  refine x_ic_ne (tgt := 806) dL_law_749 (by decide) ⟨by omega, by omega⟩ ⟨by omega, by omega⟩ (fun hb749 => ?_) (fun h => (h (by omega)).elim)
  refine x_iload dL_law_806 rfl ?_
  refine x_bipush dL_law_808 (by decide) ?_
  refine x_ic_ge (tgt := 826) dL_law_810 (by decide) ⟨by omega, by omega⟩ ⟨by omega, by omega⟩ (fun hb810 => ?_) (fun h => (h (by omega)).elim)
  refine x_iload dL_law_826 rfl ?_
  refine x_bipush dL_law_828 (by decide) ?_
  refine x_ic_ge (tgt := 846) dL_law_830 (by decide) ⟨by omega, by omega⟩ ⟨by omega, by omega⟩ (fun h => absurd h (by omega)) (fun hb830 => ?_)
  refine x_aload_n dL_law_833 rfl ?_
  refine x_iload dL_law_834 rfl ?_
  refine x_iload dL_law_836 rfl ?_
  refine c_RL_151p dL_law_838 rfl (kL_leaves hP hE t0 (by omega) hc hg) (Nat.le_of_ble_eq_true rfl) (Nat.le_of_ble_eq_true rfl) hkk (fun w2 D2 y2 => ?_)
  obtain ⟨rfl, n2, hs2, r2, q2, hP2, hE2, k12, k22⟩ := y2
  refine x_istore dL_law_841 (by decide) ?_
  show JX _ _ _ _ _ _ _ _ _ _ _ [_, _, _, _, _, _, _, _, _, _, _, _, _, _, _, _] _ _
  refine x_goto (tgt := 999) dL_law_843 (by decide) ?_
  exact K _ _ _ _ _ _ _ _ _ (hP2.mono (by omega)) (hE2.mono (by omega))
theorem law_14z {G : JG} {S : JS} {D : JD} {d : Nat} {kc : Nat × Nat} {X t n q g0 h0 e g h u c gg b : Int} {hs : Int → Int → Int} {r : Int → Int} {l12 l13 l14 l15 : Option JV} (hP : pSt S D X t n hs r q) (hE : pIn e r) (t0 : 0 ≤ t) (ht9 : t + 1000 ≤ 60000) (hkk : kc.1 ≤ 615115 ∧ kc.2 ≤ 7256902) (e0 : 0 ≤ e) (e1 : e ≤ 44) (hc : 0 ≤ c ∧ c < r 1) (hg : gg = 0 ∨ gg = 1) (hb : 0 ≤ b ∧ b < r 2) (rg : i32 g) (rh : i32 h) (K : JCon G d kc S X t g0 h0 e g h u c gg b) (hu : u = 14) (hv : lw g 301 - 100 = 0) : JLc G d kc S D X g0 h0 e g h u c gg b 1 l12 l13 l14 l15 240 [] := by
  have ht : t ≤ 60000 := by omega
  have ht2 : t + 100 ≤ 60000 := by omega
  have hB := hP.1
  have bk := hB.1
  have hI := hP.2.1.2.2.2.1
  have b1 := hI.1
  obtain ⟨E0, E1, E2, E3, E4, E5⟩ := id hE
  have r01 : r 0 = r 1 + 1 := by omega
  have b1 := lw_b (v := g) (n := 301) (by omega)
  show JX _ _ _ _ _ _ _ _ _ _ _ [_, _, _, _, _, _, _, _, _, _, _, _, _, _, _, _] _ _
  refine x_iload dL_law_240 rfl ?_
  refine x_if_ne (tgt := 343) dL_law_242 (by decide) ⟨by omega, by omega⟩ (fun hb242 => ?_) (fun h => (h (by omega)).elim)
  refine x_iload dL_law_343 rfl ?_
  refine x_iconst dL_law_345 ?_
  refine x_ic_ne (tgt := 445) dL_law_346 (by decide) ⟨by omega, by omega⟩ ⟨by omega, by omega⟩ (fun hb346 => ?_) (fun h => (h (by omega)).elim)
  refine x_iload dL_law_445 rfl ?_
  refine x_iconst dL_law_447 ?_
  refine x_ic_ne (tgt := 501) dL_law_448 (by decide) ⟨by omega, by omega⟩ ⟨by omega, by omega⟩ (fun hb448 => ?_) (fun h => (h (by omega)).elim)
  refine x_iload dL_law_501 rfl ?_
  refine x_iconst dL_law_503 ?_
  refine x_ic_ne (tgt := 580) dL_law_504 (by decide) ⟨by omega, by omega⟩ ⟨by omega, by omega⟩ (fun hb504 => ?_) (fun h => (h (by omega)).elim)
  refine x_iload dL_law_580 rfl ?_
  refine x_iconst dL_law_582 ?_
  refine x_ic_ne (tgt := 686) dL_law_583 (by decide) ⟨by omega, by omega⟩ ⟨by omega, by omega⟩ (fun hb583 => ?_) (fun h => (h (by omega)).elim)
  refine x_iload dL_law_686 rfl ?_
  refine x_bipush dL_law_688 (by decide) ?_
  refine x_ic_ge (tgt := 706) dL_law_690 (by decide) ⟨by omega, by omega⟩ ⟨by omega, by omega⟩ (fun hb690 => ?_) (fun h => (h (by omega)).elim)
  refine x_iload dL_law_706 rfl ?_
  refine x_bipush dL_law_708 (by decide) ?_
  refine x_ic_ge (tgt := 745) dL_law_710 (by decide) ⟨by omega, by omega⟩ ⟨by omega, by omega⟩ (fun hb710 => ?_) (fun h => (h (by omega)).elim)
  refine x_iload dL_law_745 rfl ?_
  refine x_bipush dL_law_747 (by decide) ?_
  refine x_ic_ne (tgt := 806) dL_law_749 (by decide) ⟨by omega, by omega⟩ ⟨by omega, by omega⟩ (fun hb749 => ?_) (fun h => (h (by omega)).elim)
  refine x_iload dL_law_806 rfl ?_
  refine x_bipush dL_law_808 (by decide) ?_
  refine x_ic_ge (tgt := 826) dL_law_810 (by decide) ⟨by omega, by omega⟩ ⟨by omega, by omega⟩ (fun hb810 => ?_) (fun h => (h (by omega)).elim)
  refine x_iload dL_law_826 rfl ?_
  refine x_bipush dL_law_828 (by decide) ?_
  refine x_ic_ge (tgt := 846) dL_law_830 (by decide) ⟨by omega, by omega⟩ ⟨by omega, by omega⟩ (fun hb830 => ?_) (fun h => (h (by omega)).elim)
  refine x_iload dL_law_846 rfl ?_
  refine x_bipush dL_law_848 (by decide) ?_
  refine x_ic_ne (tgt := 893) dL_law_850 (by decide) ⟨by omega, by omega⟩ ⟨by omega, by omega⟩ (fun h => absurd h (by omega)) (fun hb850 => ?_)
  refine x_iload dL_law_853 rfl ?_
  refine x_sipush dL_law_855 (by decide) ?_
  refine c_RL_135d dL_law_858 rfl (kL_low (by omega) ⟨by omega, by omega⟩) (Nat.le_of_ble_eq_true rfl) (Nat.le_of_ble_eq_true rfl) hkk ?_
  refine x_bipush dL_law_861 (by decide) ?_
  refine x_isub dL_law_863 ?_
  refine x_istore dL_law_864 (by decide) ?_
  show JX _ _ _ _ _ _ _ _ _ _ _ [_, _, _, _, _, _, _, _, _, _, _, _, _, _, _, _] _ _
  refine x_iload dL_law_866 rfl ?_
  refine x_if_eq (tgt := 883) dL_law_868 (by decide) ⟨by omega, by omega⟩ (fun hb868 => ?_) (fun h => (h (by omega)).elim)
  refine x_iconst dL_law_883 ?_
  refine x_goto (tgt := 888) dL_law_884 (by decide) ?_
  refine x_istore dL_law_888 (by decide) ?_
  show JX _ _ _ _ _ _ _ _ _ _ _ [_, _, _, _, _, _, _, _, _, _, _, _, _, _, _, _] _ _
  refine x_goto (tgt := 999) dL_law_890 (by decide) ?_
  exact K _ _ _ _ _ _ _ _ _ (hP.mono (by omega)) (hE.mono (by omega))
theorem law_14y {G : JG} {S : JS} {D : JD} {d : Nat} {kc : Nat × Nat} {X t n q g0 h0 e g h u c gg b : Int} {hs : Int → Int → Int} {r : Int → Int} {l12 l13 l14 l15 : Option JV} (hP : pSt S D X t n hs r q) (hE : pIn e r) (t0 : 0 ≤ t) (ht9 : t + 1000 ≤ 60000) (hkk : kc.1 ≤ 615115 ∧ kc.2 ≤ 7256902) (e0 : 0 ≤ e) (e1 : e ≤ 44) (hc : 0 ≤ c ∧ c < r 1) (hg : gg = 0 ∨ gg = 1) (hb : 0 ≤ b ∧ b < r 2) (rg : i32 g) (rh : i32 h) (K : JCon G d kc S X t g0 h0 e g h u c gg b) (hu : u = 14) (hv : ¬ lw g 301 - 100 = 0) : JLc G d kc S D X g0 h0 e g h u c gg b 1 l12 l13 l14 l15 240 [] := by
  have ht : t ≤ 60000 := by omega
  have ht2 : t + 100 ≤ 60000 := by omega
  have hB := hP.1
  have bk := hB.1
  have hI := hP.2.1.2.2.2.1
  have b1 := hI.1
  obtain ⟨E0, E1, E2, E3, E4, E5⟩ := id hE
  have r01 : r 0 = r 1 + 1 := by omega
  have b1 := lw_b (v := g) (n := 301) (by omega)
  show JX _ _ _ _ _ _ _ _ _ _ _ [_, _, _, _, _, _, _, _, _, _, _, _, _, _, _, _] _ _
  refine x_iload dL_law_240 rfl ?_
  refine x_if_ne (tgt := 343) dL_law_242 (by decide) ⟨by omega, by omega⟩ (fun hb242 => ?_) (fun h => (h (by omega)).elim)
  refine x_iload dL_law_343 rfl ?_
  refine x_iconst dL_law_345 ?_
  refine x_ic_ne (tgt := 445) dL_law_346 (by decide) ⟨by omega, by omega⟩ ⟨by omega, by omega⟩ (fun hb346 => ?_) (fun h => (h (by omega)).elim)
  refine x_iload dL_law_445 rfl ?_
  refine x_iconst dL_law_447 ?_
  refine x_ic_ne (tgt := 501) dL_law_448 (by decide) ⟨by omega, by omega⟩ ⟨by omega, by omega⟩ (fun hb448 => ?_) (fun h => (h (by omega)).elim)
  refine x_iload dL_law_501 rfl ?_
  refine x_iconst dL_law_503 ?_
  refine x_ic_ne (tgt := 580) dL_law_504 (by decide) ⟨by omega, by omega⟩ ⟨by omega, by omega⟩ (fun hb504 => ?_) (fun h => (h (by omega)).elim)
  refine x_iload dL_law_580 rfl ?_
  refine x_iconst dL_law_582 ?_
  refine x_ic_ne (tgt := 686) dL_law_583 (by decide) ⟨by omega, by omega⟩ ⟨by omega, by omega⟩ (fun hb583 => ?_) (fun h => (h (by omega)).elim)
  refine x_iload dL_law_686 rfl ?_
  refine x_bipush dL_law_688 (by decide) ?_
  refine x_ic_ge (tgt := 706) dL_law_690 (by decide) ⟨by omega, by omega⟩ ⟨by omega, by omega⟩ (fun hb690 => ?_) (fun h => (h (by omega)).elim)
  refine x_iload dL_law_706 rfl ?_
  refine x_bipush dL_law_708 (by decide) ?_
  refine x_ic_ge (tgt := 745) dL_law_710 (by decide) ⟨by omega, by omega⟩ ⟨by omega, by omega⟩ (fun hb710 => ?_) (fun h => (h (by omega)).elim)
  refine x_iload dL_law_745 rfl ?_
  refine x_bipush dL_law_747 (by decide) ?_
  refine x_ic_ne (tgt := 806) dL_law_749 (by decide) ⟨by omega, by omega⟩ ⟨by omega, by omega⟩ (fun hb749 => ?_) (fun h => (h (by omega)).elim)
  refine x_iload dL_law_806 rfl ?_
  refine x_bipush dL_law_808 (by decide) ?_
  refine x_ic_ge (tgt := 826) dL_law_810 (by decide) ⟨by omega, by omega⟩ ⟨by omega, by omega⟩ (fun hb810 => ?_) (fun h => (h (by omega)).elim)
  refine x_iload dL_law_826 rfl ?_
  refine x_bipush dL_law_828 (by decide) ?_
  refine x_ic_ge (tgt := 846) dL_law_830 (by decide) ⟨by omega, by omega⟩ ⟨by omega, by omega⟩ (fun hb830 => ?_) (fun h => (h (by omega)).elim)
  refine x_iload dL_law_846 rfl ?_
  refine x_bipush dL_law_848 (by decide) ?_
  refine x_ic_ne (tgt := 893) dL_law_850 (by decide) ⟨by omega, by omega⟩ ⟨by omega, by omega⟩ (fun h => absurd h (by omega)) (fun hb850 => ?_)
  refine x_iload dL_law_853 rfl ?_
  refine x_sipush dL_law_855 (by decide) ?_
  refine c_RL_135d dL_law_858 rfl (kL_low (by omega) ⟨by omega, by omega⟩) (Nat.le_of_ble_eq_true rfl) (Nat.le_of_ble_eq_true rfl) hkk ?_
  refine x_bipush dL_law_861 (by decide) ?_
  refine x_isub dL_law_863 ?_
  refine x_istore dL_law_864 (by decide) ?_
  show JX _ _ _ _ _ _ _ _ _ _ _ [_, _, _, _, _, _, _, _, _, _, _, _, _, _, _, _] _ _
  refine x_iload dL_law_866 rfl ?_
  refine x_if_eq (tgt := 883) dL_law_868 (by decide) ⟨by omega, by omega⟩ (fun h => absurd h (by omega)) (fun hb868 => ?_)
  refine x_aload_n dL_law_871 rfl ?_
  refine x_iload dL_law_872 rfl ?_
  refine x_iload dL_law_874 rfl ?_
  refine x_iconst dL_law_876 ?_
  refine c_RL_154p dL_law_877 rfl (kL_cargo_1 hP hE t0 (by omega) hb ⟨by omega, by omega, by omega⟩) (Nat.le_of_ble_eq_true rfl) (Nat.le_of_ble_eq_true rfl) hkk (fun w2 D2 y2 => ?_)
  obtain ⟨rfl, n2, hs2, r2, q2, hP2, hE2, k12, k22⟩ := y2
  refine x_if_eq (tgt := 887) dL_law_880 (by decide) ⟨by omega, by omega⟩ (fun h => absurd h (by omega)) (fun hb880 => ?_)
  refine x_iconst dL_law_883 ?_
  refine x_goto (tgt := 888) dL_law_884 (by decide) ?_
  refine x_istore dL_law_888 (by decide) ?_
  show JX _ _ _ _ _ _ _ _ _ _ _ [_, _, _, _, _, _, _, _, _, _, _, _, _, _, _, _] _ _
  refine x_goto (tgt := 999) dL_law_890 (by decide) ?_
  exact K _ _ _ _ _ _ _ _ _ (hP2.mono (by omega)) (hE2.mono (by omega))
theorem law_15z {G : JG} {S : JS} {D : JD} {d : Nat} {kc : Nat × Nat} {X t n q g0 h0 e g h u c gg b : Int} {hs : Int → Int → Int} {r : Int → Int} {l12 l13 l14 l15 : Option JV} (hP : pSt S D X t n hs r q) (hE : pIn e r) (t0 : 0 ≤ t) (ht9 : t + 1000 ≤ 60000) (hkk : kc.1 ≤ 615115 ∧ kc.2 ≤ 7256902) (e0 : 0 ≤ e) (e1 : e ≤ 44) (hc : 0 ≤ c ∧ c < r 1) (hg : gg = 0 ∨ gg = 1) (hb : 0 ≤ b ∧ b < r 2) (rg : i32 g) (rh : i32 h) (K : JCon G d kc S X t g0 h0 e g h u c gg b) (hu : u = 15) (hv : lw g 301 - 100 = 0) : JLc G d kc S D X g0 h0 e g h u c gg b 1 l12 l13 l14 l15 240 [] := by
  have ht : t ≤ 60000 := by omega
  have ht2 : t + 100 ≤ 60000 := by omega
  have hB := hP.1
  have bk := hB.1
  have hI := hP.2.1.2.2.2.1
  have b1 := hI.1
  obtain ⟨E0, E1, E2, E3, E4, E5⟩ := id hE
  have r01 : r 0 = r 1 + 1 := by omega
  have b1 := lw_b (v := g) (n := 301) (by omega)
  show JX _ _ _ _ _ _ _ _ _ _ _ [_, _, _, _, _, _, _, _, _, _, _, _, _, _, _, _] _ _
  refine x_iload dL_law_240 rfl ?_
  refine x_if_ne (tgt := 343) dL_law_242 (by decide) ⟨by omega, by omega⟩ (fun hb242 => ?_) (fun h => (h (by omega)).elim)
  refine x_iload dL_law_343 rfl ?_
  refine x_iconst dL_law_345 ?_
  refine x_ic_ne (tgt := 445) dL_law_346 (by decide) ⟨by omega, by omega⟩ ⟨by omega, by omega⟩ (fun hb346 => ?_) (fun h => (h (by omega)).elim)
  refine x_iload dL_law_445 rfl ?_
  refine x_iconst dL_law_447 ?_
  refine x_ic_ne (tgt := 501) dL_law_448 (by decide) ⟨by omega, by omega⟩ ⟨by omega, by omega⟩ (fun hb448 => ?_) (fun h => (h (by omega)).elim)
  refine x_iload dL_law_501 rfl ?_
  refine x_iconst dL_law_503 ?_
  refine x_ic_ne (tgt := 580) dL_law_504 (by decide) ⟨by omega, by omega⟩ ⟨by omega, by omega⟩ (fun hb504 => ?_) (fun h => (h (by omega)).elim)
  refine x_iload dL_law_580 rfl ?_
  refine x_iconst dL_law_582 ?_
  refine x_ic_ne (tgt := 686) dL_law_583 (by decide) ⟨by omega, by omega⟩ ⟨by omega, by omega⟩ (fun hb583 => ?_) (fun h => (h (by omega)).elim)
  refine x_iload dL_law_686 rfl ?_
  refine x_bipush dL_law_688 (by decide) ?_
  refine x_ic_ge (tgt := 706) dL_law_690 (by decide) ⟨by omega, by omega⟩ ⟨by omega, by omega⟩ (fun hb690 => ?_) (fun h => (h (by omega)).elim)
  refine x_iload dL_law_706 rfl ?_
  refine x_bipush dL_law_708 (by decide) ?_
  refine x_ic_ge (tgt := 745) dL_law_710 (by decide) ⟨by omega, by omega⟩ ⟨by omega, by omega⟩ (fun hb710 => ?_) (fun h => (h (by omega)).elim)
  refine x_iload dL_law_745 rfl ?_
  refine x_bipush dL_law_747 (by decide) ?_
  refine x_ic_ne (tgt := 806) dL_law_749 (by decide) ⟨by omega, by omega⟩ ⟨by omega, by omega⟩ (fun hb749 => ?_) (fun h => (h (by omega)).elim)
  refine x_iload dL_law_806 rfl ?_
  refine x_bipush dL_law_808 (by decide) ?_
  refine x_ic_ge (tgt := 826) dL_law_810 (by decide) ⟨by omega, by omega⟩ ⟨by omega, by omega⟩ (fun hb810 => ?_) (fun h => (h (by omega)).elim)
  refine x_iload dL_law_826 rfl ?_
  refine x_bipush dL_law_828 (by decide) ?_
  refine x_ic_ge (tgt := 846) dL_law_830 (by decide) ⟨by omega, by omega⟩ ⟨by omega, by omega⟩ (fun hb830 => ?_) (fun h => (h (by omega)).elim)
  refine x_iload dL_law_846 rfl ?_
  refine x_bipush dL_law_848 (by decide) ?_
  refine x_ic_ne (tgt := 893) dL_law_850 (by decide) ⟨by omega, by omega⟩ ⟨by omega, by omega⟩ (fun hb850 => ?_) (fun h => (h (by omega)).elim)
  refine x_iload dL_law_893 rfl ?_
  refine x_bipush dL_law_895 (by decide) ?_
  refine x_ic_ne (tgt := 940) dL_law_897 (by decide) ⟨by omega, by omega⟩ ⟨by omega, by omega⟩ (fun h => absurd h (by omega)) (fun hb897 => ?_)
  refine x_iload dL_law_900 rfl ?_
  refine x_sipush dL_law_902 (by decide) ?_
  refine c_RL_135d dL_law_905 rfl (kL_low (by omega) ⟨by omega, by omega⟩) (Nat.le_of_ble_eq_true rfl) (Nat.le_of_ble_eq_true rfl) hkk ?_
  refine x_bipush dL_law_908 (by decide) ?_
  refine x_isub dL_law_910 ?_
  refine x_istore dL_law_911 (by decide) ?_
  show JX _ _ _ _ _ _ _ _ _ _ _ [_, _, _, _, _, _, _, _, _, _, _, _, _, _, _, _] _ _
  refine x_iload dL_law_913 rfl ?_
  refine x_if_eq (tgt := 930) dL_law_915 (by decide) ⟨by omega, by omega⟩ (fun hb915 => ?_) (fun h => (h (by omega)).elim)
  refine x_iconst dL_law_930 ?_
  refine x_goto (tgt := 935) dL_law_931 (by decide) ?_
  refine x_istore dL_law_935 (by decide) ?_
  show JX _ _ _ _ _ _ _ _ _ _ _ [_, _, _, _, _, _, _, _, _, _, _, _, _, _, _, _] _ _
  refine x_goto (tgt := 999) dL_law_937 (by decide) ?_
  exact K _ _ _ _ _ _ _ _ _ (hP.mono (by omega)) (hE.mono (by omega))
theorem law_15y {G : JG} {S : JS} {D : JD} {d : Nat} {kc : Nat × Nat} {X t n q g0 h0 e g h u c gg b : Int} {hs : Int → Int → Int} {r : Int → Int} {l12 l13 l14 l15 : Option JV} (hP : pSt S D X t n hs r q) (hE : pIn e r) (t0 : 0 ≤ t) (ht9 : t + 1000 ≤ 60000) (hkk : kc.1 ≤ 615115 ∧ kc.2 ≤ 7256902) (e0 : 0 ≤ e) (e1 : e ≤ 44) (hc : 0 ≤ c ∧ c < r 1) (hg : gg = 0 ∨ gg = 1) (hb : 0 ≤ b ∧ b < r 2) (rg : i32 g) (rh : i32 h) (K : JCon G d kc S X t g0 h0 e g h u c gg b) (hu : u = 15) (hv : ¬ lw g 301 - 100 = 0) : JLc G d kc S D X g0 h0 e g h u c gg b 1 l12 l13 l14 l15 240 [] := by
  have ht : t ≤ 60000 := by omega
  have ht2 : t + 100 ≤ 60000 := by omega
  have hB := hP.1
  have bk := hB.1
  have hI := hP.2.1.2.2.2.1
  have b1 := hI.1
  obtain ⟨E0, E1, E2, E3, E4, E5⟩ := id hE
  have r01 : r 0 = r 1 + 1 := by omega
  have b1 := lw_b (v := g) (n := 301) (by omega)
  show JX _ _ _ _ _ _ _ _ _ _ _ [_, _, _, _, _, _, _, _, _, _, _, _, _, _, _, _] _ _
  refine x_iload dL_law_240 rfl ?_
  refine x_if_ne (tgt := 343) dL_law_242 (by decide) ⟨by omega, by omega⟩ (fun hb242 => ?_) (fun h => (h (by omega)).elim)
  refine x_iload dL_law_343 rfl ?_
  refine x_iconst dL_law_345 ?_
  refine x_ic_ne (tgt := 445) dL_law_346 (by decide) ⟨by omega, by omega⟩ ⟨by omega, by omega⟩ (fun hb346 => ?_) (fun h => (h (by omega)).elim)
  refine x_iload dL_law_445 rfl ?_
  refine x_iconst dL_law_447 ?_
  refine x_ic_ne (tgt := 501) dL_law_448 (by decide) ⟨by omega, by omega⟩ ⟨by omega, by omega⟩ (fun hb448 => ?_) (fun h => (h (by omega)).elim)
  refine x_iload dL_law_501 rfl ?_
  refine x_iconst dL_law_503 ?_
  refine x_ic_ne (tgt := 580) dL_law_504 (by decide) ⟨by omega, by omega⟩ ⟨by omega, by omega⟩ (fun hb504 => ?_) (fun h => (h (by omega)).elim)
  refine x_iload dL_law_580 rfl ?_
  refine x_iconst dL_law_582 ?_
  refine x_ic_ne (tgt := 686) dL_law_583 (by decide) ⟨by omega, by omega⟩ ⟨by omega, by omega⟩ (fun hb583 => ?_) (fun h => (h (by omega)).elim)
  refine x_iload dL_law_686 rfl ?_
  refine x_bipush dL_law_688 (by decide) ?_
  refine x_ic_ge (tgt := 706) dL_law_690 (by decide) ⟨by omega, by omega⟩ ⟨by omega, by omega⟩ (fun hb690 => ?_) (fun h => (h (by omega)).elim)
  refine x_iload dL_law_706 rfl ?_
  refine x_bipush dL_law_708 (by decide) ?_
  refine x_ic_ge (tgt := 745) dL_law_710 (by decide) ⟨by omega, by omega⟩ ⟨by omega, by omega⟩ (fun hb710 => ?_) (fun h => (h (by omega)).elim)
  refine x_iload dL_law_745 rfl ?_
  refine x_bipush dL_law_747 (by decide) ?_
  refine x_ic_ne (tgt := 806) dL_law_749 (by decide) ⟨by omega, by omega⟩ ⟨by omega, by omega⟩ (fun hb749 => ?_) (fun h => (h (by omega)).elim)
  refine x_iload dL_law_806 rfl ?_
  refine x_bipush dL_law_808 (by decide) ?_
  refine x_ic_ge (tgt := 826) dL_law_810 (by decide) ⟨by omega, by omega⟩ ⟨by omega, by omega⟩ (fun hb810 => ?_) (fun h => (h (by omega)).elim)
  refine x_iload dL_law_826 rfl ?_
  refine x_bipush dL_law_828 (by decide) ?_
  refine x_ic_ge (tgt := 846) dL_law_830 (by decide) ⟨by omega, by omega⟩ ⟨by omega, by omega⟩ (fun hb830 => ?_) (fun h => (h (by omega)).elim)
  refine x_iload dL_law_846 rfl ?_
  refine x_bipush dL_law_848 (by decide) ?_
  refine x_ic_ne (tgt := 893) dL_law_850 (by decide) ⟨by omega, by omega⟩ ⟨by omega, by omega⟩ (fun hb850 => ?_) (fun h => (h (by omega)).elim)
  refine x_iload dL_law_893 rfl ?_
  refine x_bipush dL_law_895 (by decide) ?_
  refine x_ic_ne (tgt := 940) dL_law_897 (by decide) ⟨by omega, by omega⟩ ⟨by omega, by omega⟩ (fun h => absurd h (by omega)) (fun hb897 => ?_)
  refine x_iload dL_law_900 rfl ?_
  refine x_sipush dL_law_902 (by decide) ?_
  refine c_RL_135d dL_law_905 rfl (kL_low (by omega) ⟨by omega, by omega⟩) (Nat.le_of_ble_eq_true rfl) (Nat.le_of_ble_eq_true rfl) hkk ?_
  refine x_bipush dL_law_908 (by decide) ?_
  refine x_isub dL_law_910 ?_
  refine x_istore dL_law_911 (by decide) ?_
  show JX _ _ _ _ _ _ _ _ _ _ _ [_, _, _, _, _, _, _, _, _, _, _, _, _, _, _, _] _ _
  refine x_iload dL_law_913 rfl ?_
  refine x_if_eq (tgt := 930) dL_law_915 (by decide) ⟨by omega, by omega⟩ (fun h => absurd h (by omega)) (fun hb915 => ?_)
  refine x_aload_n dL_law_918 rfl ?_
  refine x_iload dL_law_919 rfl ?_
  refine x_iload dL_law_921 rfl ?_
  refine x_iconst dL_law_923 ?_
  refine c_RL_154p dL_law_924 rfl (kL_cargo_0 hP hE t0 (by omega) hb ⟨by omega, by omega, by omega⟩) (Nat.le_of_ble_eq_true rfl) (Nat.le_of_ble_eq_true rfl) hkk (fun w2 D2 y2 => ?_)
  obtain ⟨rfl, n2, hs2, r2, q2, hP2, hE2, k12, k22⟩ := y2
  refine x_if_eq (tgt := 934) dL_law_927 (by decide) ⟨by omega, by omega⟩ (fun h => absurd h (by omega)) (fun hb927 => ?_)
  refine x_iconst dL_law_930 ?_
  refine x_goto (tgt := 935) dL_law_931 (by decide) ?_
  refine x_istore dL_law_935 (by decide) ?_
  show JX _ _ _ _ _ _ _ _ _ _ _ [_, _, _, _, _, _, _, _, _, _, _, _, _, _, _, _] _ _
  refine x_goto (tgt := 999) dL_law_937 (by decide) ?_
  exact K _ _ _ _ _ _ _ _ _ (hP2.mono (by omega)) (hE2.mono (by omega))
theorem law_16 {G : JG} {S : JS} {D : JD} {d : Nat} {kc : Nat × Nat} {X t n q g0 h0 e g h u c gg b : Int} {hs : Int → Int → Int} {r : Int → Int} {l12 l13 l14 l15 : Option JV} (hP : pSt S D X t n hs r q) (hE : pIn e r) (t0 : 0 ≤ t) (ht9 : t + 1000 ≤ 60000) (hkk : kc.1 ≤ 615115 ∧ kc.2 ≤ 7256902) (e0 : 0 ≤ e) (e1 : e ≤ 44) (hc : 0 ≤ c ∧ c < r 1) (hg : gg = 0 ∨ gg = 1) (hb : 0 ≤ b ∧ b < r 2) (rg : i32 g) (rh : i32 h) (K : JCon G d kc S X t g0 h0 e g h u c gg b) (hu : u = 16) : JLc G d kc S D X g0 h0 e g h u c gg b 1 l12 l13 l14 l15 240 [] := by
  have ht : t ≤ 60000 := by omega
  have ht2 : t + 100 ≤ 60000 := by omega
  have hB := hP.1
  have bk := hB.1
  have hI := hP.2.1.2.2.2.1
  have b1 := hI.1
  obtain ⟨E0, E1, E2, E3, E4, E5⟩ := id hE
  have r01 : r 0 = r 1 + 1 := by omega
  have b1 := lw_b (v := g) (n := 300) (by omega)
  show JX _ _ _ _ _ _ _ _ _ _ _ [_, _, _, _, _, _, _, _, _, _, _, _, _, _, _, _] _ _
  refine x_iload dL_law_240 rfl ?_
  refine x_if_ne (tgt := 343) dL_law_242 (by decide) ⟨by omega, by omega⟩ (fun hb242 => ?_) (fun h => (h (by omega)).elim)
  refine x_iload dL_law_343 rfl ?_
  refine x_iconst dL_law_345 ?_
  refine x_ic_ne (tgt := 445) dL_law_346 (by decide) ⟨by omega, by omega⟩ ⟨by omega, by omega⟩ (fun hb346 => ?_) (fun h => (h (by omega)).elim)
  refine x_iload dL_law_445 rfl ?_
  refine x_iconst dL_law_447 ?_
  refine x_ic_ne (tgt := 501) dL_law_448 (by decide) ⟨by omega, by omega⟩ ⟨by omega, by omega⟩ (fun hb448 => ?_) (fun h => (h (by omega)).elim)
  refine x_iload dL_law_501 rfl ?_
  refine x_iconst dL_law_503 ?_
  refine x_ic_ne (tgt := 580) dL_law_504 (by decide) ⟨by omega, by omega⟩ ⟨by omega, by omega⟩ (fun hb504 => ?_) (fun h => (h (by omega)).elim)
  refine x_iload dL_law_580 rfl ?_
  refine x_iconst dL_law_582 ?_
  refine x_ic_ne (tgt := 686) dL_law_583 (by decide) ⟨by omega, by omega⟩ ⟨by omega, by omega⟩ (fun hb583 => ?_) (fun h => (h (by omega)).elim)
  refine x_iload dL_law_686 rfl ?_
  refine x_bipush dL_law_688 (by decide) ?_
  refine x_ic_ge (tgt := 706) dL_law_690 (by decide) ⟨by omega, by omega⟩ ⟨by omega, by omega⟩ (fun hb690 => ?_) (fun h => (h (by omega)).elim)
  refine x_iload dL_law_706 rfl ?_
  refine x_bipush dL_law_708 (by decide) ?_
  refine x_ic_ge (tgt := 745) dL_law_710 (by decide) ⟨by omega, by omega⟩ ⟨by omega, by omega⟩ (fun hb710 => ?_) (fun h => (h (by omega)).elim)
  refine x_iload dL_law_745 rfl ?_
  refine x_bipush dL_law_747 (by decide) ?_
  refine x_ic_ne (tgt := 806) dL_law_749 (by decide) ⟨by omega, by omega⟩ ⟨by omega, by omega⟩ (fun hb749 => ?_) (fun h => (h (by omega)).elim)
  refine x_iload dL_law_806 rfl ?_
  refine x_bipush dL_law_808 (by decide) ?_
  refine x_ic_ge (tgt := 826) dL_law_810 (by decide) ⟨by omega, by omega⟩ ⟨by omega, by omega⟩ (fun hb810 => ?_) (fun h => (h (by omega)).elim)
  refine x_iload dL_law_826 rfl ?_
  refine x_bipush dL_law_828 (by decide) ?_
  refine x_ic_ge (tgt := 846) dL_law_830 (by decide) ⟨by omega, by omega⟩ ⟨by omega, by omega⟩ (fun hb830 => ?_) (fun h => (h (by omega)).elim)
  refine x_iload dL_law_846 rfl ?_
  refine x_bipush dL_law_848 (by decide) ?_
  refine x_ic_ne (tgt := 893) dL_law_850 (by decide) ⟨by omega, by omega⟩ ⟨by omega, by omega⟩ (fun hb850 => ?_) (fun h => (h (by omega)).elim)
  refine x_iload dL_law_893 rfl ?_
  refine x_bipush dL_law_895 (by decide) ?_
  refine x_ic_ne (tgt := 940) dL_law_897 (by decide) ⟨by omega, by omega⟩ ⟨by omega, by omega⟩ (fun hb897 => ?_) (fun h => (h (by omega)).elim)
  refine x_iload dL_law_940 rfl ?_
  refine x_bipush dL_law_942 (by decide) ?_
  refine x_ic_ne (tgt := 968) dL_law_944 (by decide) ⟨by omega, by omega⟩ ⟨by omega, by omega⟩ (fun h => absurd h (by omega)) (fun hb944 => ?_)
  refine x_aload_n dL_law_947 rfl ?_
  refine x_iload dL_law_948 rfl ?_
  refine x_iconst dL_law_950 ?_
  refine x_iload dL_law_951 rfl ?_
  refine x_sipush dL_law_953 (by decide) ?_
  refine c_RL_135d dL_law_956 rfl (kL_low (by omega) ⟨by omega, by omega⟩) (Nat.le_of_ble_eq_true rfl) (Nat.le_of_ble_eq_true rfl) hkk ?_
  refine x_iadd dL_law_959 ?_
  refine c_RL_158p dL_law_960 rfl (kL_orders hP hE t0 (by omega) hb (by omega) (by omega)) (Nat.le_of_ble_eq_true rfl) (Nat.le_of_ble_eq_true rfl) hkk (fun w2 D2 y2 => ?_)
  obtain ⟨rfl, n2, hs2, r2, q2, hP2, hE2, k12, k22⟩ := y2
  refine x_istore dL_law_963 (by decide) ?_
  show JX _ _ _ _ _ _ _ _ _ _ _ [_, _, _, _, _, _, _, _, _, _, _, _, _, _, _, _] _ _
  refine x_goto (tgt := 999) dL_law_965 (by decide) ?_
  exact K _ _ _ _ _ _ _ _ _ (hP2.mono (by omega)) (hE2.mono (by omega))
theorem law_17 {G : JG} {S : JS} {D : JD} {d : Nat} {kc : Nat × Nat} {X t n q g0 h0 e g h u c gg b : Int} {hs : Int → Int → Int} {r : Int → Int} {l12 l13 l14 l15 : Option JV} (hP : pSt S D X t n hs r q) (hE : pIn e r) (t0 : 0 ≤ t) (ht9 : t + 1000 ≤ 60000) (hkk : kc.1 ≤ 615115 ∧ kc.2 ≤ 7256902) (e0 : 0 ≤ e) (e1 : e ≤ 44) (hc : 0 ≤ c ∧ c < r 1) (hg : gg = 0 ∨ gg = 1) (hb : 0 ≤ b ∧ b < r 2) (rg : i32 g) (rh : i32 h) (K : JCon G d kc S X t g0 h0 e g h u c gg b) (hu : u = 17) : JLc G d kc S D X g0 h0 e g h u c gg b 1 l12 l13 l14 l15 240 [] := by
  have ht : t ≤ 60000 := by omega
  have ht2 : t + 100 ≤ 60000 := by omega
  have hB := hP.1
  have bk := hB.1
  have hI := hP.2.1.2.2.2.1
  have b1 := hI.1
  obtain ⟨E0, E1, E2, E3, E4, E5⟩ := id hE
  have r01 : r 0 = r 1 + 1 := by omega
  show JX _ _ _ _ _ _ _ _ _ _ _ [_, _, _, _, _, _, _, _, _, _, _, _, _, _, _, _] _ _
  refine x_iload dL_law_240 rfl ?_
  refine x_if_ne (tgt := 343) dL_law_242 (by decide) ⟨by omega, by omega⟩ (fun hb242 => ?_) (fun h => (h (by omega)).elim)
  refine x_iload dL_law_343 rfl ?_
  refine x_iconst dL_law_345 ?_
  refine x_ic_ne (tgt := 445) dL_law_346 (by decide) ⟨by omega, by omega⟩ ⟨by omega, by omega⟩ (fun hb346 => ?_) (fun h => (h (by omega)).elim)
  refine x_iload dL_law_445 rfl ?_
  refine x_iconst dL_law_447 ?_
  refine x_ic_ne (tgt := 501) dL_law_448 (by decide) ⟨by omega, by omega⟩ ⟨by omega, by omega⟩ (fun hb448 => ?_) (fun h => (h (by omega)).elim)
  refine x_iload dL_law_501 rfl ?_
  refine x_iconst dL_law_503 ?_
  refine x_ic_ne (tgt := 580) dL_law_504 (by decide) ⟨by omega, by omega⟩ ⟨by omega, by omega⟩ (fun hb504 => ?_) (fun h => (h (by omega)).elim)
  refine x_iload dL_law_580 rfl ?_
  refine x_iconst dL_law_582 ?_
  refine x_ic_ne (tgt := 686) dL_law_583 (by decide) ⟨by omega, by omega⟩ ⟨by omega, by omega⟩ (fun hb583 => ?_) (fun h => (h (by omega)).elim)
  refine x_iload dL_law_686 rfl ?_
  refine x_bipush dL_law_688 (by decide) ?_
  refine x_ic_ge (tgt := 706) dL_law_690 (by decide) ⟨by omega, by omega⟩ ⟨by omega, by omega⟩ (fun hb690 => ?_) (fun h => (h (by omega)).elim)
  refine x_iload dL_law_706 rfl ?_
  refine x_bipush dL_law_708 (by decide) ?_
  refine x_ic_ge (tgt := 745) dL_law_710 (by decide) ⟨by omega, by omega⟩ ⟨by omega, by omega⟩ (fun hb710 => ?_) (fun h => (h (by omega)).elim)
  refine x_iload dL_law_745 rfl ?_
  refine x_bipush dL_law_747 (by decide) ?_
  refine x_ic_ne (tgt := 806) dL_law_749 (by decide) ⟨by omega, by omega⟩ ⟨by omega, by omega⟩ (fun hb749 => ?_) (fun h => (h (by omega)).elim)
  refine x_iload dL_law_806 rfl ?_
  refine x_bipush dL_law_808 (by decide) ?_
  refine x_ic_ge (tgt := 826) dL_law_810 (by decide) ⟨by omega, by omega⟩ ⟨by omega, by omega⟩ (fun hb810 => ?_) (fun h => (h (by omega)).elim)
  refine x_iload dL_law_826 rfl ?_
  refine x_bipush dL_law_828 (by decide) ?_
  refine x_ic_ge (tgt := 846) dL_law_830 (by decide) ⟨by omega, by omega⟩ ⟨by omega, by omega⟩ (fun hb830 => ?_) (fun h => (h (by omega)).elim)
  refine x_iload dL_law_846 rfl ?_
  refine x_bipush dL_law_848 (by decide) ?_
  refine x_ic_ne (tgt := 893) dL_law_850 (by decide) ⟨by omega, by omega⟩ ⟨by omega, by omega⟩ (fun hb850 => ?_) (fun h => (h (by omega)).elim)
  refine x_iload dL_law_893 rfl ?_
  refine x_bipush dL_law_895 (by decide) ?_
  refine x_ic_ne (tgt := 940) dL_law_897 (by decide) ⟨by omega, by omega⟩ ⟨by omega, by omega⟩ (fun hb897 => ?_) (fun h => (h (by omega)).elim)
  refine x_iload dL_law_940 rfl ?_
  refine x_bipush dL_law_942 (by decide) ?_
  refine x_ic_ne (tgt := 968) dL_law_944 (by decide) ⟨by omega, by omega⟩ ⟨by omega, by omega⟩ (fun hb944 => ?_) (fun h => (h (by omega)).elim)
  refine x_aload_n dL_law_968 rfl ?_
  refine x_iload dL_law_969 rfl ?_
  refine x_iload dL_law_971 rfl ?_
  refine c_RL_161d dL_law_973 rfl (kL_flows hP ht hc hg) (Nat.le_of_ble_eq_true rfl) (Nat.le_of_ble_eq_true rfl) hkk ?_
  refine x_if_eq (tgt := 996) dL_law_976 (by decide) ⟨by omega, by omega⟩ (fun h => absurd h (by omega)) (fun hb976 => ?_)
  refine x_aload_n dL_law_979 rfl ?_
  refine x_iload dL_law_980 rfl ?_
  refine x_iload dL_law_982 rfl ?_
  refine x_iload dL_law_984 rfl ?_
  refine c_RL_164d dL_law_986 rfl (kL_margins hP ht hb hc hg) (Nat.le_of_ble_eq_true rfl) (Nat.le_of_ble_eq_true rfl) hkk ?_
  refine x_if_eq (tgt := 996) dL_law_989 (by decide) ⟨by omega, by omega⟩ (fun h => absurd h (by omega)) (fun hb989 => ?_)
  refine x_iconst dL_law_992 ?_
  refine x_goto (tgt := 997) dL_law_993 (by decide) ?_
  refine x_istore dL_law_997 (by decide) ?_
  show JX _ _ _ _ _ _ _ _ _ _ _ [_, _, _, _, _, _, _, _, _, _, _, _, _, _, _, _] _ _
  exact K _ _ _ _ _ _ _ _ _ (hP.mono (by omega)) (hE.mono (by omega))
theorem law_cases {G : JG} {S : JS} {D : JD} {d : Nat} {kc : Nat × Nat} {X t n q g0 h0 e g h u c gg b : Int} {hs : Int → Int → Int} {r : Int → Int} {l12 l13 l14 l15 : Option JV} (hP : pSt S D X t n hs r q) (hE : pIn e r) (t0 : 0 ≤ t) (ht9 : t + 1000 ≤ 60000) (hkk : kc.1 ≤ 615115 ∧ kc.2 ≤ 7256902) (e0 : 0 ≤ e) (e1 : e ≤ 44) (hc : 0 ≤ c ∧ c < r 1) (hg : gg = 0 ∨ gg = 1) (hb : 0 ≤ b ∧ b < r 2) (rg : i32 g) (rh : i32 h) (K : JCon G d kc S X t g0 h0 e g h u c gg b) (u0 : 0 ≤ u) (u1 : u < 18) : JLc G d kc S D X g0 h0 e g h u c gg b 1 l12 l13 l14 l15 240 [] := by
  rcases (show u = 0 ∨ u = 1 ∨ u = 2 ∨ u = 3 ∨ u = 4 ∨ (u = 5 ∨ u = 6) ∨ (u = 7 ∨ u = 8) ∨ u = 9 ∨ (u = 10 ∨ u = 11) ∨ (u = 12 ∨ u = 13) ∨ u = 14 ∨ u = 15 ∨ u = 16 ∨ u = 17 by omega) with hu | hu | hu | hu | hu | hu | hu | hu | hu | hu | hu | hu | hu | hu
  · by_cases h2 : 2 < r 1
    · exact law_0a hP hE t0 ht9 hkk e0 e1 hc hg hb rg rh K hu h2
    · exact law_0b hP hE t0 ht9 hkk e0 e1 hc hg hb rg rh K hu h2
  · by_cases h2 : r 2 = 12
    · exact law_1n hP hE t0 ht9 hkk e0 e1 hc hg hb rg rh K hu h2
    · exact law_1y hP hE t0 ht9 hkk e0 e1 hc hg hb rg rh K hu h2
  · exact law_2 hP hE t0 ht9 hkk e0 e1 hc hg hb rg rh K hu
  · by_cases hm : r (27 + 11 * c + gg) = 0
    · exact law_3n hP hE t0 ht9 hkk e0 e1 hc hg hb rg rh K hu hm
    · exact law_3y hP hE t0 ht9 hkk e0 e1 hc hg hb rg rh K hu hm
  · by_cases hw : r (8 + 3 * lw g (r 0)) + (lw h 40001 - 20000) < 0
    · exact law_4n hP hE t0 ht9 hkk e0 e1 hc hg hb rg rh K hu hw
    · exact law_4y hP hE t0 ht9 hkk e0 e1 hc hg hb rg rh K hu hw
  · exact law_5 hP hE t0 ht9 hkk e0 e1 hc hg hb rg rh K hu
  · exact law_7 hP hE t0 ht9 hkk e0 e1 hc hg hb rg rh K hu
  · by_cases ho : r (29 + 11 * c) < 0
    · exact law_9n hP hE t0 ht9 hkk e0 e1 hc hg hb rg rh K hu ho
    · exact law_9y hP hE t0 ht9 hkk e0 e1 hc hg hb rg rh K hu ho
  · exact law_10 hP hE t0 ht9 hkk e0 e1 hc hg hb rg rh K hu
  · exact law_12 hP hE t0 ht9 hkk e0 e1 hc hg hb rg rh K hu
  · by_cases hv : lw g 301 - 100 = 0
    · exact law_14z hP hE t0 ht9 hkk e0 e1 hc hg hb rg rh K hu hv
    · exact law_14y hP hE t0 ht9 hkk e0 e1 hc hg hb rg rh K hu hv
  · by_cases hv : lw g 301 - 100 = 0
    · exact law_15z hP hE t0 ht9 hkk e0 e1 hc hg hb rg rh K hu hv
    · exact law_15y hP hE t0 ht9 hkk e0 e1 hc hg hb rg rh K hu hv
  · exact law_16 hP hE t0 ht9 hkk e0 e1 hc hg hb rg rh K hu
  · exact law_17 hP hE t0 ht9 hkk e0 e1 hc hg hb rg rh K hu
