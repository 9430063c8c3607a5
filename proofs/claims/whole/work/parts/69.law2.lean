/-! THE LAW: its cases. JLw: the law at a place of its loop; jNext: what comes behind a case. -/
abbrev JLw (G : JG) (d k1 k2 : Nat) (S : JS) (D : JD) (X M e : Int) (pc : Nat) (st : List JV) : Prop := JX G yL_law cL_law 4 (some .boolean) (d + 11) (600000, 7302250) (k1, k2) S D pc [some (.inr (.inr (some (gb G : Int)))), some (.inr (.inr (some X))), some (.inr (.inr (some M))), some (.inl e)] st (fun v _ _ => v = some (.inl 1))
abbrev jNext (G : JG) (d k1 k2 : Nat) (X M t e : Int) : Prop := ∀ (S2 : JS) (D2 : JD), jIx S2 D2 X M (t + 100) → JLw G d (k1 + 41) (k2 + 275) S2 D2 X M e 1059 []
theorem jcat_8 (w : JV) : ([w].map jcat).sum ≤ 8 := by
  rcases w with e | e | r <;> exact Nat.le_of_ble_eq_true rfl
theorem jNext.go {G : JG} {d k1 k2 : Nat} {X M t e : Int} {S2 : JS} {D2 : JD} (K : jNext G d k1 k2 X M t e) (h : jIx S2 D2 X M (t + 100)) : JLw G d k1 k2 S2 D2 X M e 1059 [] :=
  JX.widen ⟨by show k1 ≤ k1 + 41; omega, by show k2 ≤ k2 + 275; omega⟩ (K _ _ h)
theorem jInv.typed {S : JS} {D : JD} {X M t n q c : Int} {hs : Int → Int → Int} {r : Int → Int} (hI : jInv S D X M t n hs r q) (hn : D M 7 < 60) (hc : 0 ≤ c ∧ c ≤ 65535) :
    jInv S (jup (jup (jup (jup D (X + 250 + 1) (D M 7) c) (X + 250) 1 (D M 7 + 1)) (M + 6) (D M 7) c) M 7 (D M 7 + 1)) X M t n hs r q := by
  have hX := hI.2.2.1
  obtain ⟨x1, x2, x3, x4, x5⟩ := hI.2.2.2.2.2.2.2.2.1
  refine hI.text (m := D M 7 + 1) ⟨by omega, by omega⟩ ⟨funext fun z => ?_, fun z => ?_⟩ ?_ jup_eq (fun k hk => ?_) (fun x k a b c d => ?_)
  · by_cases q : z = D M 7
    · rw [q, jup_ne (by omega), jup_ne (by omega), jup_ne (by omega), jup_eq, jup_ne (by omega), jup_eq]
    · rw [jup_ne (by omega), jup_ne (by omega), jup_ne (by omega), jup_nk q, jup_ne (by omega), jup_nk q, jup_ne (by omega), jup_ne (by omega), x4]
  · by_cases q : z = D M 7
    · rw [q, jup_ne (by omega), jup_eq]; exact hc
    · rw [jup_ne (by omega), jup_nk q, jup_ne (by omega), jup_ne (by omega)]; exact x5 z
  · rw [jup_ne (by omega), jup_ne (by omega), jup_eq]
  · rw [jup_nk hk, jup_ne (by omega), jup_ne (by omega), jup_ne (by omega)]
  · rw [jup_ne c, jup_ne d, jup_ne a, jup_ne b]
theorem jInv.cleared {S : JS} {D : JD} {X M t n q : Int} {hs : Int → Int → Int} {r : Int → Int} (hI : jInv S D X M t n hs r q) : jInv S (jup (jup D (X + 250) 1 0) M 7 0) X M t n hs r q := by
  have hX := hI.2.2.1
  obtain ⟨x1, x2, x3, x4, x5⟩ := hI.2.2.2.2.2.2.2.2.1
  refine hI.text (m := 0) ⟨by omega, by omega⟩ ⟨funext fun z => ?_, fun z => ?_⟩ ?_ jup_eq (fun k hk => ?_) (fun x k a b c d => ?_)
  · rw [jup_ne (by omega), jup_ne (by omega), jup_ne (by omega), jup_ne (by omega), x4]
  · rw [jup_ne (by omega), jup_ne (by omega)]; exact x5 z
  · rw [jup_ne (by omega), jup_eq]
  · rw [jup_nk hk, jup_ne (by omega)]
  · rw [jup_ne c, jup_ne a]
theorem jKe.ref {S S2 : JS} {D D1 : JD} {X M t n q i f : Int} {hs : Int → Int → Int} {r : Int → Int} {v : Option JV} (hI : jInv S D X M t n hs r q) (hf : M + 8 ≤ f) (h1 : jKe S D X t 0 n hs r q i f v S2 D1) : jMo S2 M ∧ D1 (M + 1) = r := by
  obtain ⟨-, c2, c3, c4, c5, c6, c7, ⟨c8, c9⟩, c10, c11, c12⟩ := h1
  obtain ⟨hB, hM, hX, hN, hst, hr, -, -, -, -, -⟩ := hI
  exact ⟨hM.ext (fun x p q => c7 x (by omega) (by omega)), by rw [← hr]; exact funext fun k => c10 _ k (by omega) (by omega)⟩
theorem law_0 {G : JG} {S : JS} {D : JD} {d : Nat} {k1 k2 : Nat} {X M t n q e : Int} {hs : Int → Int → Int} {r : Int → Int} (hI : jInv S D X M t n hs r q) (t0 : 0 ≤ t) (ht : t + 200 ≤ 60000) (he : 0 ≤ e ∧ e + 7 ≤ (gL G : Int)) (hb : gb G < (gB G).size) (hL : gL G < 2147483648) (hk : k1 + 41 ≤ 600000 ∧ k2 + 275 ≤ 7302250) (K : jNext G d k1 k2 X M t e) : JLw G d k1 k2 S D X M e 160 [] := by
  obtain ⟨hB, hM, hX, hN, hst, hr, hq, hm, ⟨x1, x2, x3, x4, x5⟩, hs0, hap⟩ := id hI
  have bk := hB.1
  have mk := hM.1
  have hIn := hst.2.2.2.1
  have t1 : t ≤ 60000 := by omega
  have t2 : t + 100 ≤ 60000 := by omega
  have t3 : t + 1 ≤ 60000 := by omega
  show JX _ _ _ _ _ _ _ _ _ _ _ [_, _, _, _] _ _
  refine x_aload_n dL_law_160 rfl ?_
  refine x_aload_n dL_law_161 rfl ?_
  refine x_iload_n dL_law_162 rfl ?_
  refine x_iconst dL_law_163 ?_
  refine x_iadd dL_law_164 ?_
  refine x_sld dL_law_165 hb hL ⟨by omega, by omega⟩ ?_
  refine x_aload_n dL_law_166 rfl ?_
  refine x_iload_n dL_law_167 rfl ?_
  refine x_iconst dL_law_168 ?_
  refine x_iadd dL_law_169 ?_
  refine x_sld dL_law_170 hb hL ⟨by omega, by omega⟩ ?_
  refine x_aload_n dL_law_171 rfl ?_
  refine x_iload_n dL_law_172 rfl ?_
  refine x_iconst dL_law_173 ?_
  refine x_iadd dL_law_174 ?_
  refine x_sld dL_law_175 hb hL ⟨by omega, by omega⟩ ?_
  refine c_RL_13p dL_law_176 rfl (kX7_addReach hB (Or.inl rfl) hst t2 gxi gxi gxi) bk (Nat.le_of_ble_eq_true rfl) (Nat.le_of_ble_eq_true rfl) (by show k1 ≤ 600000 ∧ k2 ≤ 7302250; omega) (fun w1 D1 h1 => ?_)
  refine x_aload_n dL_law_179 rfl ?_
  refine x_aload_n dL_law_180 rfl ?_
  refine x_iload_n dL_law_181 rfl ?_
  refine x_iconst dL_law_182 ?_
  refine x_iadd dL_law_183 ?_
  refine x_sld dL_law_184 hb hL ⟨by omega, by omega⟩ ?_
  refine x_aload_n dL_law_185 rfl ?_
  refine x_iload_n dL_law_186 rfl ?_
  refine x_iconst dL_law_187 ?_
  refine x_iadd dL_law_188 ?_
  refine x_sld dL_law_189 hb hL ⟨by omega, by omega⟩ ?_
  refine x_aload_n dL_law_190 rfl ?_
  refine x_iload_n dL_law_191 rfl ?_
  refine x_iconst dL_law_192 ?_
  refine x_iadd dL_law_193 ?_
  refine x_sld dL_law_194 hb hL ⟨by omega, by omega⟩ ?_
  obtain ⟨hr1, hm1, o3, o7, o6, o4, o5⟩ := hI.off (fun x k p => h1.2.1 x k (by omega))
  refine c_RL_17p dL_law_195 rfl (kX8_addReach hM hr1 hIn t3 hm1 gxi gxi gxi t0) mk (Nat.le_of_ble_eq_true rfl) (jcat_8 _) (by show k1 ≤ 600000 ∧ k2 ≤ 7302250; omega) (fun w2 D2 h2 => ?_)
  rw [h1.1, h2.1]
  refine x_ic_same (tgt := 1059) dL_law_198 (by decide) ?_
  exact K.go (hI.act h1 h2)
theorem law_1 {G : JG} {S : JS} {D : JD} {d : Nat} {k1 k2 : Nat} {X M t n q e : Int} {hs : Int → Int → Int} {r : Int → Int} (hI : jInv S D X M t n hs r q) (t0 : 0 ≤ t) (ht : t + 200 ≤ 60000) (he : 0 ≤ e ∧ e + 7 ≤ (gL G : Int)) (hb : gb G < (gB G).size) (hL : gL G < 2147483648) (hk : k1 + 41 ≤ 600000 ∧ k2 + 275 ≤ 7302250) (K : jNext G d k1 k2 X M t e) : JLw G d k1 k2 S D X M e 203 [] := by
  obtain ⟨hB, hM, hX, hN, hst, hr, hq, hm, ⟨x1, x2, x3, x4, x5⟩, hs0, hap⟩ := id hI
  have bk := hB.1
  have mk := hM.1
  have hIn := hst.2.2.2.1
  have t1 : t ≤ 60000 := by omega
  have t2 : t + 100 ≤ 60000 := by omega
  have t3 : t + 1 ≤ 60000 := by omega
  show JX _ _ _ _ _ _ _ _ _ _ _ [_, _, _, _] _ _
  refine x_aload_n dL_law_203 rfl ?_
  refine x_aload_n dL_law_204 rfl ?_
  refine x_iload_n dL_law_205 rfl ?_
  refine x_iconst dL_law_206 ?_
  refine x_iadd dL_law_207 ?_
  refine x_sld dL_law_208 hb hL ⟨by omega, by omega⟩ ?_
  refine x_aload_n dL_law_209 rfl ?_
  refine x_iload_n dL_law_210 rfl ?_
  refine x_iconst dL_law_211 ?_
  refine x_iadd dL_law_212 ?_
  refine x_sld dL_law_213 hb hL ⟨by omega, by omega⟩ ?_
  refine x_aload_n dL_law_214 rfl ?_
  refine x_iload_n dL_law_215 rfl ?_
  refine x_iconst dL_law_216 ?_
  refine x_iadd dL_law_217 ?_
  refine x_sld dL_law_218 hb hL ⟨by omega, by omega⟩ ?_
  refine x_aload_n dL_law_219 rfl ?_
  refine x_iload_n dL_law_220 rfl ?_
  refine x_iconst dL_law_221 ?_
  refine x_iadd dL_law_222 ?_
  refine x_sld dL_law_223 hb hL ⟨by omega, by omega⟩ ?_
  refine x_aload_n dL_law_224 rfl ?_
  refine x_iload_n dL_law_225 rfl ?_
  refine x_iconst dL_law_226 ?_
  refine x_iadd dL_law_227 ?_
  refine x_sld dL_law_228 hb hL ⟨by omega, by omega⟩ ?_
  refine x_aload_n dL_law_229 rfl ?_
  refine x_iload_n dL_law_230 rfl ?_
  refine x_bipush dL_law_231 (by decide) ?_
  refine x_iadd dL_law_233 ?_
  refine x_sld dL_law_234 hb hL ⟨by omega, by omega⟩ ?_
  refine c_RL_18p dL_law_235 rfl (kX7_addChamber hB (Or.inl rfl) hst t2 gxi gxi gxi gxi gxi gxi) bk (Nat.le_of_ble_eq_true rfl) (Nat.le_of_ble_eq_true rfl) (by show k1 ≤ 600000 ∧ k2 ≤ 7302250; omega) (fun w1 D1 h1 => ?_)
  refine x_aload_n dL_law_238 rfl ?_
  refine x_aload_n dL_law_239 rfl ?_
  refine x_iload_n dL_law_240 rfl ?_
  refine x_iconst dL_law_241 ?_
  refine x_iadd dL_law_242 ?_
  refine x_sld dL_law_243 hb hL ⟨by omega, by omega⟩ ?_
  refine x_aload_n dL_law_244 rfl ?_
  refine x_iload_n dL_law_245 rfl ?_
  refine x_iconst dL_law_246 ?_
  refine x_iadd dL_law_247 ?_
  refine x_sld dL_law_248 hb hL ⟨by omega, by omega⟩ ?_
  refine x_aload_n dL_law_249 rfl ?_
  refine x_iload_n dL_law_250 rfl ?_
  refine x_iconst dL_law_251 ?_
  refine x_iadd dL_law_252 ?_
  refine x_sld dL_law_253 hb hL ⟨by omega, by omega⟩ ?_
  refine x_aload_n dL_law_254 rfl ?_
  refine x_iload_n dL_law_255 rfl ?_
  refine x_iconst dL_law_256 ?_
  refine x_iadd dL_law_257 ?_
  refine x_sld dL_law_258 hb hL ⟨by omega, by omega⟩ ?_
  refine x_aload_n dL_law_259 rfl ?_
  refine x_iload_n dL_law_260 rfl ?_
  refine x_iconst dL_law_261 ?_
  refine x_iadd dL_law_262 ?_
  refine x_sld dL_law_263 hb hL ⟨by omega, by omega⟩ ?_
  refine x_aload_n dL_law_264 rfl ?_
  refine x_iload_n dL_law_265 rfl ?_
  refine x_bipush dL_law_266 (by decide) ?_
  refine x_iadd dL_law_268 ?_
  refine x_sld dL_law_269 hb hL ⟨by omega, by omega⟩ ?_
  obtain ⟨hr1, hm1, o3, o7, o6, o4, o5⟩ := hI.off (fun x k p => h1.2.1 x k (by omega))
  refine c_RL_22p dL_law_270 rfl (kX8_addChamber hM hr1 hIn t3 hm1 gxi gxi gxi gxi gxi gxi t0) mk (Nat.le_of_ble_eq_true rfl) (jcat_8 _) (by show k1 ≤ 600000 ∧ k2 ≤ 7302250; omega) (fun w2 D2 h2 => ?_)
  rw [h1.1, h2.1]
  refine x_ic_same (tgt := 1059) dL_law_273 (by decide) ?_
  exact K.go (hI.act h1 h2)
theorem law_2 {G : JG} {S : JS} {D : JD} {d : Nat} {k1 k2 : Nat} {X M t n q e : Int} {hs : Int → Int → Int} {r : Int → Int} (hI : jInv S D X M t n hs r q) (t0 : 0 ≤ t) (ht : t + 200 ≤ 60000) (he : 0 ≤ e ∧ e + 7 ≤ (gL G : Int)) (hb : gb G < (gB G).size) (hL : gL G < 2147483648) (hk : k1 + 41 ≤ 600000 ∧ k2 + 275 ≤ 7302250) (K : jNext G d k1 k2 X M t e) : JLw G d k1 k2 S D X M e 278 [] := by
  obtain ⟨hB, hM, hX, hN, hst, hr, hq, hm, ⟨x1, x2, x3, x4, x5⟩, hs0, hap⟩ := id hI
  have bk := hB.1
  have mk := hM.1
  have hIn := hst.2.2.2.1
  have t1 : t ≤ 60000 := by omega
  have t2 : t + 100 ≤ 60000 := by omega
  have t3 : t + 1 ≤ 60000 := by omega
  show JX _ _ _ _ _ _ _ _ _ _ _ [_, _, _, _] _ _
  refine x_aload_n dL_law_278 rfl ?_
  refine x_aload_n dL_law_279 rfl ?_
  refine x_iload_n dL_law_280 rfl ?_
  refine x_iconst dL_law_281 ?_
  refine x_iadd dL_law_282 ?_
  refine x_sld dL_law_283 hb hL ⟨by omega, by omega⟩ ?_
  refine x_aload_n dL_law_284 rfl ?_
  refine x_iload_n dL_law_285 rfl ?_
  refine x_iconst dL_law_286 ?_
  refine x_iadd dL_law_287 ?_
  refine x_sld dL_law_288 hb hL ⟨by omega, by omega⟩ ?_
  refine x_aload_n dL_law_289 rfl ?_
  refine x_iload_n dL_law_290 rfl ?_
  refine x_iconst dL_law_291 ?_
  refine x_iadd dL_law_292 ?_
  refine x_sld dL_law_293 hb hL ⟨by omega, by omega⟩ ?_
  refine c_RL_23p dL_law_294 rfl (kX7_setSill hB (Or.inl rfl) hst t2 gxi gxi gxi) bk (Nat.le_of_ble_eq_true rfl) (Nat.le_of_ble_eq_true rfl) (by show k1 ≤ 600000 ∧ k2 ≤ 7302250; omega) (fun w1 D1 h1 => ?_)
  refine x_aload_n dL_law_297 rfl ?_
  refine x_aload_n dL_law_298 rfl ?_
  refine x_iload_n dL_law_299 rfl ?_
  refine x_iconst dL_law_300 ?_
  refine x_iadd dL_law_301 ?_
  refine x_sld dL_law_302 hb hL ⟨by omega, by omega⟩ ?_
  refine x_aload_n dL_law_303 rfl ?_
  refine x_iload_n dL_law_304 rfl ?_
  refine x_iconst dL_law_305 ?_
  refine x_iadd dL_law_306 ?_
  refine x_sld dL_law_307 hb hL ⟨by omega, by omega⟩ ?_
  refine x_aload_n dL_law_308 rfl ?_
  refine x_iload_n dL_law_309 rfl ?_
  refine x_iconst dL_law_310 ?_
  refine x_iadd dL_law_311 ?_
  refine x_sld dL_law_312 hb hL ⟨by omega, by omega⟩ ?_
  obtain ⟨hr1, hm1, o3, o7, o6, o4, o5⟩ := hI.off (fun x k p => h1.2.1 x k (by omega))
  refine c_RL_26p dL_law_313 rfl (kX8_setSill hM hr1 hIn t3 hm1 gxi gxi gxi) mk (Nat.le_of_ble_eq_true rfl) (jcat_8 _) (by show k1 ≤ 600000 ∧ k2 ≤ 7302250; omega) (fun w2 D2 h2 => ?_)
  rw [h1.1, h2.1]
  refine x_ic_same (tgt := 1059) dL_law_316 (by decide) ?_
  exact K.go (hI.act h1 h2)
theorem law_3 {G : JG} {S : JS} {D : JD} {d : Nat} {k1 k2 : Nat} {X M t n q e : Int} {hs : Int → Int → Int} {r : Int → Int} (hI : jInv S D X M t n hs r q) (t0 : 0 ≤ t) (ht : t + 200 ≤ 60000) (he : 0 ≤ e ∧ e + 7 ≤ (gL G : Int)) (hb : gb G < (gB G).size) (hL : gL G < 2147483648) (hk : k1 + 41 ≤ 600000 ∧ k2 + 275 ≤ 7302250) (K : jNext G d k1 k2 X M t e) : JLw G d k1 k2 S D X M e 321 [] := by
  obtain ⟨hB, hM, hX, hN, hst, hr, hq, hm, ⟨x1, x2, x3, x4, x5⟩, hs0, hap⟩ := id hI
  have bk := hB.1
  have mk := hM.1
  have hIn := hst.2.2.2.1
  have t1 : t ≤ 60000 := by omega
  have t2 : t + 100 ≤ 60000 := by omega
  have t3 : t + 1 ≤ 60000 := by omega
  show JX _ _ _ _ _ _ _ _ _ _ _ [_, _, _, _] _ _
  refine x_aload_n dL_law_321 rfl ?_
  refine x_aload_n dL_law_322 rfl ?_
  refine x_iload_n dL_law_323 rfl ?_
  refine x_iconst dL_law_324 ?_
  refine x_iadd dL_law_325 ?_
  refine x_sld dL_law_326 hb hL ⟨by omega, by omega⟩ ?_
  refine c_RL_27p dL_law_327 rfl (kX7_setClearance hB (Or.inl rfl) hst t2 gxi) bk (Nat.le_of_ble_eq_true rfl) (Nat.le_of_ble_eq_true rfl) (by show k1 ≤ 600000 ∧ k2 ≤ 7302250; omega) (fun w1 D1 h1 => ?_)
  refine x_aload_n dL_law_330 rfl ?_
  refine x_aload_n dL_law_331 rfl ?_
  refine x_iload_n dL_law_332 rfl ?_
  refine x_iconst dL_law_333 ?_
  refine x_iadd dL_law_334 ?_
  refine x_sld dL_law_335 hb hL ⟨by omega, by omega⟩ ?_
  obtain ⟨hr1, hm1, o3, o7, o6, o4, o5⟩ := hI.off (fun x k p => h1.2.1 x k (by omega))
  refine c_RL_31p dL_law_336 rfl (kX8_setClearance hM hr1 hIn t3 hm1 gxi) mk (Nat.le_of_ble_eq_true rfl) (jcat_8 _) (by show k1 ≤ 600000 ∧ k2 ≤ 7302250; omega) (fun w2 D2 h2 => ?_)
  rw [h1.1, h2.1]
  refine x_ic_same (tgt := 1059) dL_law_339 (by decide) ?_
  exact K.go (hI.act h1 h2)
theorem law_4 {G : JG} {S : JS} {D : JD} {d : Nat} {k1 k2 : Nat} {X M t n q e : Int} {hs : Int → Int → Int} {r : Int → Int} (hI : jInv S D X M t n hs r q) (t0 : 0 ≤ t) (ht : t + 200 ≤ 60000) (he : 0 ≤ e ∧ e + 7 ≤ (gL G : Int)) (hb : gb G < (gB G).size) (hL : gL G < 2147483648) (hk : k1 + 41 ≤ 600000 ∧ k2 + 275 ≤ 7302250) (K : jNext G d k1 k2 X M t e) : JLw G d k1 k2 S D X M e 344 [] := by
  obtain ⟨hB, hM, hX, hN, hst, hr, hq, hm, ⟨x1, x2, x3, x4, x5⟩, hs0, hap⟩ := id hI
  have bk := hB.1
  have mk := hM.1
  have hIn := hst.2.2.2.1
  have t1 : t ≤ 60000 := by omega
  have t2 : t + 100 ≤ 60000 := by omega
  have t3 : t + 1 ≤ 60000 := by omega
  show JX _ _ _ _ _ _ _ _ _ _ _ [_, _, _, _] _ _
  refine x_aload_n dL_law_344 rfl ?_
  refine x_aload_n dL_law_345 rfl ?_
  refine x_iload_n dL_law_346 rfl ?_
  refine x_iconst dL_law_347 ?_
  refine x_iadd dL_law_348 ?_
  refine x_sld dL_law_349 hb hL ⟨by omega, by omega⟩ ?_
  refine x_aload_n dL_law_350 rfl ?_
  refine x_iload_n dL_law_351 rfl ?_
  refine x_iconst dL_law_352 ?_
  refine x_iadd dL_law_353 ?_
  refine x_sld dL_law_354 hb hL ⟨by omega, by omega⟩ ?_
  refine c_RL_32p dL_law_355 rfl (kX7_dredge hB (Or.inl rfl) hst t2 gxi gxi) bk (Nat.le_of_ble_eq_true rfl) (Nat.le_of_ble_eq_true rfl) (by show k1 ≤ 600000 ∧ k2 ≤ 7302250; omega) (fun w1 D1 h1 => ?_)
  refine x_aload_n dL_law_358 rfl ?_
  refine x_aload_n dL_law_359 rfl ?_
  refine x_iload_n dL_law_360 rfl ?_
  refine x_iconst dL_law_361 ?_
  refine x_iadd dL_law_362 ?_
  refine x_sld dL_law_363 hb hL ⟨by omega, by omega⟩ ?_
  refine x_aload_n dL_law_364 rfl ?_
  refine x_iload_n dL_law_365 rfl ?_
  refine x_iconst dL_law_366 ?_
  refine x_iadd dL_law_367 ?_
  refine x_sld dL_law_368 hb hL ⟨by omega, by omega⟩ ?_
  obtain ⟨hr1, hm1, o3, o7, o6, o4, o5⟩ := hI.off (fun x k p => h1.2.1 x k (by omega))
  refine c_RL_36p dL_law_369 rfl (kX8_dredge hM hr1 hIn t3 hm1 gxi gxi) mk (Nat.le_of_ble_eq_true rfl) (jcat_8 _) (by show k1 ≤ 600000 ∧ k2 ≤ 7302250; omega) (fun w2 D2 h2 => ?_)
  rw [h1.1, h2.1]
  refine x_ic_same (tgt := 1059) dL_law_372 (by decide) ?_
  exact K.go (hI.act h1 h2)
theorem law_5 {G : JG} {S : JS} {D : JD} {d : Nat} {k1 k2 : Nat} {X M t n q e : Int} {hs : Int → Int → Int} {r : Int → Int} (hI : jInv S D X M t n hs r q) (t0 : 0 ≤ t) (ht : t + 200 ≤ 60000) (he : 0 ≤ e ∧ e + 7 ≤ (gL G : Int)) (hb : gb G < (gB G).size) (hL : gL G < 2147483648) (hk : k1 + 41 ≤ 600000 ∧ k2 + 275 ≤ 7302250) (K : jNext G d k1 k2 X M t e) : JLw G d k1 k2 S D X M e 377 [] := by
  obtain ⟨hB, hM, hX, hN, hst, hr, hq, hm, ⟨x1, x2, x3, x4, x5⟩, hs0, hap⟩ := id hI
  have bk := hB.1
  have mk := hM.1
  have hIn := hst.2.2.2.1
  have t1 : t ≤ 60000 := by omega
  have t2 : t + 100 ≤ 60000 := by omega
  have t3 : t + 1 ≤ 60000 := by omega
  show JX _ _ _ _ _ _ _ _ _ _ _ [_, _, _, _] _ _
  refine x_aload_n dL_law_377 rfl ?_
  refine x_aload_n dL_law_378 rfl ?_
  refine x_iload_n dL_law_379 rfl ?_
  refine x_iconst dL_law_380 ?_
  refine x_iadd dL_law_381 ?_
  refine x_sld dL_law_382 hb hL ⟨by omega, by omega⟩ ?_
  refine x_aload_n dL_law_383 rfl ?_
  refine x_iload_n dL_law_384 rfl ?_
  refine x_iconst dL_law_385 ?_
  refine x_iadd dL_law_386 ?_
  refine x_sld dL_law_387 hb hL ⟨by omega, by omega⟩ ?_
  refine c_RL_37p dL_law_388 rfl (kX7_supply hB (Or.inl rfl) hst t2 gxi gxi) bk (Nat.le_of_ble_eq_true rfl) (Nat.le_of_ble_eq_true rfl) (by show k1 ≤ 600000 ∧ k2 ≤ 7302250; omega) (fun w1 D1 h1 => ?_)
  refine x_aload_n dL_law_391 rfl ?_
  refine x_aload_n dL_law_392 rfl ?_
  refine x_iload_n dL_law_393 rfl ?_
  refine x_iconst dL_law_394 ?_
  refine x_iadd dL_law_395 ?_
  refine x_sld dL_law_396 hb hL ⟨by omega, by omega⟩ ?_
  refine x_aload_n dL_law_397 rfl ?_
  refine x_iload_n dL_law_398 rfl ?_
  refine x_iconst dL_law_399 ?_
  refine x_iadd dL_law_400 ?_
  refine x_sld dL_law_401 hb hL ⟨by omega, by omega⟩ ?_
  obtain ⟨hr1, hm1, o3, o7, o6, o4, o5⟩ := hI.off (fun x k p => h1.2.1 x k (by omega))
  refine c_RL_40p dL_law_402 rfl (kX8_supply hM hr1 hIn t2 hm1 gxi gxi) mk (Nat.le_of_ble_eq_true rfl) (jcat_8 _) (by show k1 ≤ 600000 ∧ k2 ≤ 7302250; omega) (fun w2 D2 h2 => ?_)
  rw [h1.1, h2.1]
  refine x_ic_same (tgt := 1059) dL_law_405 (by decide) ?_
  exact K.go (hI.act h1 h2)
theorem law_6 {G : JG} {S : JS} {D : JD} {d : Nat} {k1 k2 : Nat} {X M t n q e : Int} {hs : Int → Int → Int} {r : Int → Int} (hI : jInv S D X M t n hs r q) (t0 : 0 ≤ t) (ht : t + 200 ≤ 60000) (he : 0 ≤ e ∧ e + 7 ≤ (gL G : Int)) (hb : gb G < (gB G).size) (hL : gL G < 2147483648) (hk : k1 + 41 ≤ 600000 ∧ k2 + 275 ≤ 7302250) (K : jNext G d k1 k2 X M t e) : JLw G d k1 k2 S D X M e 410 [] := by
  obtain ⟨hB, hM, hX, hN, hst, hr, hq, hm, ⟨x1, x2, x3, x4, x5⟩, hs0, hap⟩ := id hI
  have bk := hB.1
  have mk := hM.1
  have hIn := hst.2.2.2.1
  have t1 : t ≤ 60000 := by omega
  have t2 : t + 100 ≤ 60000 := by omega
  have t3 : t + 1 ≤ 60000 := by omega
  show JX _ _ _ _ _ _ _ _ _ _ _ [_, _, _, _] _ _
  refine x_aload_n dL_law_410 rfl ?_
  refine x_aload_n dL_law_411 rfl ?_
  refine x_iload_n dL_law_412 rfl ?_
  refine x_iconst dL_law_413 ?_
  refine x_iadd dL_law_414 ?_
  refine x_sld dL_law_415 hb hL ⟨by omega, by omega⟩ ?_
  refine x_aload_n dL_law_416 rfl ?_
  refine x_iload_n dL_law_417 rfl ?_
  refine x_iconst dL_law_418 ?_
  refine x_iadd dL_law_419 ?_
  refine x_sld dL_law_420 hb hL ⟨by omega, by omega⟩ ?_
  refine x_aload_n dL_law_421 rfl ?_
  refine x_iload_n dL_law_422 rfl ?_
  refine x_iconst dL_law_423 ?_
  refine x_iadd dL_law_424 ?_
  refine x_sld dL_law_425 hb hL ⟨by omega, by omega⟩ ?_
  refine x_aload_n dL_law_426 rfl ?_
  refine x_iload_n dL_law_427 rfl ?_
  refine x_iconst dL_law_428 ?_
  refine x_iadd dL_law_429 ?_
  refine x_sld dL_law_430 hb hL ⟨by omega, by omega⟩ ?_
  refine x_aload_n dL_law_431 rfl ?_
  refine x_iload_n dL_law_432 rfl ?_
  refine x_iconst dL_law_433 ?_
  refine x_iadd dL_law_434 ?_
  refine x_sld dL_law_435 hb hL ⟨by omega, by omega⟩ ?_
  refine c_RL_41p dL_law_436 rfl (kX7_addBarge hB (Or.inl rfl) hst t2 gxi gxi gxi gxi gxi) bk (Nat.le_of_ble_eq_true rfl) (Nat.le_of_ble_eq_true rfl) (by show k1 ≤ 600000 ∧ k2 ≤ 7302250; omega) (fun w1 D1 h1 => ?_)
  refine x_aload_n dL_law_439 rfl ?_
  refine x_aload_n dL_law_440 rfl ?_
  refine x_iload_n dL_law_441 rfl ?_
  refine x_iconst dL_law_442 ?_
  refine x_iadd dL_law_443 ?_
  refine x_sld dL_law_444 hb hL ⟨by omega, by omega⟩ ?_
  refine x_aload_n dL_law_445 rfl ?_
  refine x_iload_n dL_law_446 rfl ?_
  refine x_iconst dL_law_447 ?_
  refine x_iadd dL_law_448 ?_
  refine x_sld dL_law_449 hb hL ⟨by omega, by omega⟩ ?_
  refine x_aload_n dL_law_450 rfl ?_
  refine x_iload_n dL_law_451 rfl ?_
  refine x_iconst dL_law_452 ?_
  refine x_iadd dL_law_453 ?_
  refine x_sld dL_law_454 hb hL ⟨by omega, by omega⟩ ?_
  refine x_aload_n dL_law_455 rfl ?_
  refine x_iload_n dL_law_456 rfl ?_
  refine x_iconst dL_law_457 ?_
  refine x_iadd dL_law_458 ?_
  refine x_sld dL_law_459 hb hL ⟨by omega, by omega⟩ ?_
  refine x_aload_n dL_law_460 rfl ?_
  refine x_iload_n dL_law_461 rfl ?_
  refine x_iconst dL_law_462 ?_
  refine x_iadd dL_law_463 ?_
  refine x_sld dL_law_464 hb hL ⟨by omega, by omega⟩ ?_
  obtain ⟨hr1, hm1, o3, o7, o6, o4, o5⟩ := hI.off (fun x k p => h1.2.1 x k (by omega))
  refine c_RL_45p dL_law_465 rfl (kX8_addBarge hM hr1 hIn t3 hm1 gxi gxi gxi gxi gxi t0) mk (Nat.le_of_ble_eq_true rfl) (jcat_8 _) (by show k1 ≤ 600000 ∧ k2 ≤ 7302250; omega) (fun w2 D2 h2 => ?_)
  rw [h1.1, h2.1]
  refine x_ic_same (tgt := 1059) dL_law_468 (by decide) ?_
  exact K.go (hI.act h1 h2)
theorem law_7 {G : JG} {S : JS} {D : JD} {d : Nat} {k1 k2 : Nat} {X M t n q e : Int} {hs : Int → Int → Int} {r : Int → Int} (hI : jInv S D X M t n hs r q) (t0 : 0 ≤ t) (ht : t + 200 ≤ 60000) (he : 0 ≤ e ∧ e + 7 ≤ (gL G : Int)) (hb : gb G < (gB G).size) (hL : gL G < 2147483648) (hk : k1 + 41 ≤ 600000 ∧ k2 + 275 ≤ 7302250) (K : jNext G d k1 k2 X M t e) : JLw G d k1 k2 S D X M e 473 [] := by
  obtain ⟨hB, hM, hX, hN, hst, hr, hq, hm, ⟨x1, x2, x3, x4, x5⟩, hs0, hap⟩ := id hI
  have bk := hB.1
  have mk := hM.1
  have hIn := hst.2.2.2.1
  have t1 : t ≤ 60000 := by omega
  have t2 : t + 100 ≤ 60000 := by omega
  have t3 : t + 1 ≤ 60000 := by omega
  show JX _ _ _ _ _ _ _ _ _ _ _ [_, _, _, _] _ _
  refine x_aload_n dL_law_473 rfl ?_
  refine x_aload_n dL_law_474 rfl ?_
  refine x_iload_n dL_law_475 rfl ?_
  refine x_iconst dL_law_476 ?_
  refine x_iadd dL_law_477 ?_
  refine x_sld dL_law_478 hb hL ⟨by omega, by omega⟩ ?_
  refine x_aload_n dL_law_479 rfl ?_
  refine x_iload_n dL_law_480 rfl ?_
  refine x_iconst dL_law_481 ?_
  refine x_iadd dL_law_482 ?_
  refine x_sld dL_law_483 hb hL ⟨by omega, by omega⟩ ?_
  refine c_RL_46p dL_law_484 rfl (kX7_load hB (Or.inl rfl) hst t2 gxi gxi) bk (Nat.le_of_ble_eq_true rfl) (Nat.le_of_ble_eq_true rfl) (by show k1 ≤ 600000 ∧ k2 ≤ 7302250; omega) (fun w1 D1 h1 => ?_)
  refine x_aload_n dL_law_487 rfl ?_
  refine x_aload_n dL_law_488 rfl ?_
  refine x_iload_n dL_law_489 rfl ?_
  refine x_iconst dL_law_490 ?_
  refine x_iadd dL_law_491 ?_
  refine x_sld dL_law_492 hb hL ⟨by omega, by omega⟩ ?_
  refine x_aload_n dL_law_493 rfl ?_
  refine x_iload_n dL_law_494 rfl ?_
  refine x_iconst dL_law_495 ?_
  refine x_iadd dL_law_496 ?_
  refine x_sld dL_law_497 hb hL ⟨by omega, by omega⟩ ?_
  obtain ⟨hr1, hm1, o3, o7, o6, o4, o5⟩ := hI.off (fun x k p => h1.2.1 x k (by omega))
  refine c_RL_49p dL_law_498 rfl (kX8_load hM hr1 hIn t3 hm1 gxi gxi) mk (Nat.le_of_ble_eq_true rfl) (jcat_8 _) (by show k1 ≤ 600000 ∧ k2 ≤ 7302250; omega) (fun w2 D2 h2 => ?_)
  rw [h1.1, h2.1]
  refine x_ic_same (tgt := 1059) dL_law_501 (by decide) ?_
  exact K.go (hI.act h1 h2)
theorem law_8 {G : JG} {S : JS} {D : JD} {d : Nat} {k1 k2 : Nat} {X M t n q e : Int} {hs : Int → Int → Int} {r : Int → Int} (hI : jInv S D X M t n hs r q) (t0 : 0 ≤ t) (ht : t + 200 ≤ 60000) (he : 0 ≤ e ∧ e + 7 ≤ (gL G : Int)) (hb : gb G < (gB G).size) (hL : gL G < 2147483648) (hk : k1 + 41 ≤ 600000 ∧ k2 + 275 ≤ 7302250) (K : jNext G d k1 k2 X M t e) : JLw G d k1 k2 S D X M e 506 [] := by
  obtain ⟨hB, hM, hX, hN, hst, hr, hq, hm, ⟨x1, x2, x3, x4, x5⟩, hs0, hap⟩ := id hI
  have bk := hB.1
  have mk := hM.1
  have hIn := hst.2.2.2.1
  have t1 : t ≤ 60000 := by omega
  have t2 : t + 100 ≤ 60000 := by omega
  have t3 : t + 1 ≤ 60000 := by omega
  show JX _ _ _ _ _ _ _ _ _ _ _ [_, _, _, _] _ _
  refine x_aload_n dL_law_506 rfl ?_
  refine x_aload_n dL_law_507 rfl ?_
  refine x_iload_n dL_law_508 rfl ?_
  refine x_iconst dL_law_509 ?_
  refine x_iadd dL_law_510 ?_
  refine x_sld dL_law_511 hb hL ⟨by omega, by omega⟩ ?_
  refine x_aload_n dL_law_512 rfl ?_
  refine x_iload_n dL_law_513 rfl ?_
  refine x_iconst dL_law_514 ?_
  refine x_iadd dL_law_515 ?_
  refine x_sld dL_law_516 hb hL ⟨by omega, by omega⟩ ?_
  refine c_RL_50p dL_law_517 rfl (kX7_pump hB (Or.inl rfl) hst t2 gxi gxi) bk (Nat.le_of_ble_eq_true rfl) (Nat.le_of_ble_eq_true rfl) (by show k1 ≤ 600000 ∧ k2 ≤ 7302250; omega) (fun w1 D1 h1 => ?_)
  refine x_aload_n dL_law_520 rfl ?_
  refine x_aload_n dL_law_521 rfl ?_
  refine x_iload_n dL_law_522 rfl ?_
  refine x_iconst dL_law_523 ?_
  refine x_iadd dL_law_524 ?_
  refine x_sld dL_law_525 hb hL ⟨by omega, by omega⟩ ?_
  refine x_aload_n dL_law_526 rfl ?_
  refine x_iload_n dL_law_527 rfl ?_
  refine x_iconst dL_law_528 ?_
  refine x_iadd dL_law_529 ?_
  refine x_sld dL_law_530 hb hL ⟨by omega, by omega⟩ ?_
  obtain ⟨hr1, hm1, o3, o7, o6, o4, o5⟩ := hI.off (fun x k p => h1.2.1 x k (by omega))
  refine c_RL_53p dL_law_531 rfl (kX8_pump hM hr1 hIn t3 hm1 gxi gxi) mk (Nat.le_of_ble_eq_true rfl) (jcat_8 _) (by show k1 ≤ 600000 ∧ k2 ≤ 7302250; omega) (fun w2 D2 h2 => ?_)
  rw [h1.1, h2.1]
  refine x_ic_same (tgt := 1059) dL_law_534 (by decide) ?_
  exact K.go (hI.act h1 h2)
theorem law_9 {G : JG} {S : JS} {D : JD} {d : Nat} {k1 k2 : Nat} {X M t n q e : Int} {hs : Int → Int → Int} {r : Int → Int} (hI : jInv S D X M t n hs r q) (t0 : 0 ≤ t) (ht : t + 200 ≤ 60000) (he : 0 ≤ e ∧ e + 7 ≤ (gL G : Int)) (hb : gb G < (gB G).size) (hL : gL G < 2147483648) (hk : k1 + 41 ≤ 600000 ∧ k2 + 275 ≤ 7302250) (K : jNext G d k1 k2 X M t e) : JLw G d k1 k2 S D X M e 539 [] := by
  obtain ⟨hB, hM, hX, hN, hst, hr, hq, hm, ⟨x1, x2, x3, x4, x5⟩, hs0, hap⟩ := id hI
  have bk := hB.1
  have mk := hM.1
  have hIn := hst.2.2.2.1
  have t1 : t ≤ 60000 := by omega
  have t2 : t + 100 ≤ 60000 := by omega
  have t3 : t + 1 ≤ 60000 := by omega
  show JX _ _ _ _ _ _ _ _ _ _ _ [_, _, _, _] _ _
  refine x_aload_n dL_law_539 rfl ?_
  refine x_aload_n dL_law_540 rfl ?_
  refine x_iload_n dL_law_541 rfl ?_
  refine x_iconst dL_law_542 ?_
  refine x_iadd dL_law_543 ?_
  refine x_sld dL_law_544 hb hL ⟨by omega, by omega⟩ ?_
  refine x_aload_n dL_law_545 rfl ?_
  refine x_iload_n dL_law_546 rfl ?_
  refine x_iconst dL_law_547 ?_
  refine x_iadd dL_law_548 ?_
  refine x_sld dL_law_549 hb hL ⟨by omega, by omega⟩ ?_
  refine c_RL_54p dL_law_550 rfl (kX7_sluice hB (Or.inl rfl) hst t2 gxi gxi) bk (Nat.le_of_ble_eq_true rfl) (Nat.le_of_ble_eq_true rfl) (by show k1 ≤ 600000 ∧ k2 ≤ 7302250; omega) (fun w1 D1 h1 => ?_)
  refine x_aload_n dL_law_553 rfl ?_
  refine x_aload_n dL_law_554 rfl ?_
  refine x_iload_n dL_law_555 rfl ?_
  refine x_iconst dL_law_556 ?_
  refine x_iadd dL_law_557 ?_
  refine x_sld dL_law_558 hb hL ⟨by omega, by omega⟩ ?_
  refine x_aload_n dL_law_559 rfl ?_
  refine x_iload_n dL_law_560 rfl ?_
  refine x_iconst dL_law_561 ?_
  refine x_iadd dL_law_562 ?_
  refine x_sld dL_law_563 hb hL ⟨by omega, by omega⟩ ?_
  obtain ⟨hr1, hm1, o3, o7, o6, o4, o5⟩ := hI.off (fun x k p => h1.2.1 x k (by omega))
  refine c_RL_57p dL_law_564 rfl (kX8_sluice hM hr1 hIn t3 hm1 gxi gxi) mk (Nat.le_of_ble_eq_true rfl) (jcat_8 _) (by show k1 ≤ 600000 ∧ k2 ≤ 7302250; omega) (fun w2 D2 h2 => ?_)
  rw [h1.1, h2.1]
  refine x_ic_same (tgt := 1059) dL_law_567 (by decide) ?_
  exact K.go (hI.act h1 h2)
theorem law_10 {G : JG} {S : JS} {D : JD} {d : Nat} {k1 k2 : Nat} {X M t n q e : Int} {hs : Int → Int → Int} {r : Int → Int} (hI : jInv S D X M t n hs r q) (t0 : 0 ≤ t) (ht : t + 200 ≤ 60000) (he : 0 ≤ e ∧ e + 7 ≤ (gL G : Int)) (hb : gb G < (gB G).size) (hL : gL G < 2147483648) (hk : k1 + 41 ≤ 600000 ∧ k2 + 275 ≤ 7302250) (K : jNext G d k1 k2 X M t e) : JLw G d k1 k2 S D X M e 572 [] := by
  obtain ⟨hB, hM, hX, hN, hst, hr, hq, hm, ⟨x1, x2, x3, x4, x5⟩, hs0, hap⟩ := id hI
  have bk := hB.1
  have mk := hM.1
  have hIn := hst.2.2.2.1
  have t1 : t ≤ 60000 := by omega
  have t2 : t + 100 ≤ 60000 := by omega
  have t3 : t + 1 ≤ 60000 := by omega
  show JX _ _ _ _ _ _ _ _ _ _ _ [_, _, _, _] _ _
  refine x_aload_n dL_law_572 rfl ?_
  refine x_aload_n dL_law_573 rfl ?_
  refine x_iload_n dL_law_574 rfl ?_
  refine x_iconst dL_law_575 ?_
  refine x_iadd dL_law_576 ?_
  refine x_sld dL_law_577 hb hL ⟨by omega, by omega⟩ ?_
  refine x_aload_n dL_law_578 rfl ?_
  refine x_iload_n dL_law_579 rfl ?_
  refine x_iconst dL_law_580 ?_
  refine x_iadd dL_law_581 ?_
  refine x_sld dL_law_582 hb hL ⟨by omega, by omega⟩ ?_
  refine c_RL_58p dL_law_583 rfl (kX7_open hB (Or.inl rfl) hst t2 gxi gxi) bk (Nat.le_of_ble_eq_true rfl) (Nat.le_of_ble_eq_true rfl) (by show k1 ≤ 600000 ∧ k2 ≤ 7302250; omega) (fun w1 D1 h1 => ?_)
  refine x_aload_n dL_law_586 rfl ?_
  refine x_aload_n dL_law_587 rfl ?_
  refine x_iload_n dL_law_588 rfl ?_
  refine x_iconst dL_law_589 ?_
  refine x_iadd dL_law_590 ?_
  refine x_sld dL_law_591 hb hL ⟨by omega, by omega⟩ ?_
  refine x_aload_n dL_law_592 rfl ?_
  refine x_iload_n dL_law_593 rfl ?_
  refine x_iconst dL_law_594 ?_
  refine x_iadd dL_law_595 ?_
  refine x_sld dL_law_596 hb hL ⟨by omega, by omega⟩ ?_
  obtain ⟨hr1, hm1, o3, o7, o6, o4, o5⟩ := hI.off (fun x k p => h1.2.1 x k (by omega))
  refine c_RL_61p dL_law_597 rfl (kX8_open hM hr1 hIn t3 hm1 gxi gxi) mk (Nat.le_of_ble_eq_true rfl) (jcat_8 _) (by show k1 ≤ 600000 ∧ k2 ≤ 7302250; omega) (fun w2 D2 h2 => ?_)
  rw [h1.1, h2.1]
  refine x_ic_same (tgt := 1059) dL_law_600 (by decide) ?_
  exact K.go (hI.act h1 h2)
theorem law_11 {G : JG} {S : JS} {D : JD} {d : Nat} {k1 k2 : Nat} {X M t n q e : Int} {hs : Int → Int → Int} {r : Int → Int} (hI : jInv S D X M t n hs r q) (t0 : 0 ≤ t) (ht : t + 200 ≤ 60000) (he : 0 ≤ e ∧ e + 7 ≤ (gL G : Int)) (hb : gb G < (gB G).size) (hL : gL G < 2147483648) (hk : k1 + 41 ≤ 600000 ∧ k2 + 275 ≤ 7302250) (K : jNext G d k1 k2 X M t e) : JLw G d k1 k2 S D X M e 605 [] := by
  obtain ⟨hB, hM, hX, hN, hst, hr, hq, hm, ⟨x1, x2, x3, x4, x5⟩, hs0, hap⟩ := id hI
  have bk := hB.1
  have mk := hM.1
  have hIn := hst.2.2.2.1
  have t1 : t ≤ 60000 := by omega
  have t2 : t + 100 ≤ 60000 := by omega
  have t3 : t + 1 ≤ 60000 := by omega
  show JX _ _ _ _ _ _ _ _ _ _ _ [_, _, _, _] _ _
  refine x_aload_n dL_law_605 rfl ?_
  refine x_aload_n dL_law_606 rfl ?_
  refine x_iload_n dL_law_607 rfl ?_
  refine x_iconst dL_law_608 ?_
  refine x_iadd dL_law_609 ?_
  refine x_sld dL_law_610 hb hL ⟨by omega, by omega⟩ ?_
  refine c_RL_62p dL_law_611 rfl (kX7_close hB (Or.inl rfl) hst t2 gxi) bk (Nat.le_of_ble_eq_true rfl) (Nat.le_of_ble_eq_true rfl) (by show k1 ≤ 600000 ∧ k2 ≤ 7302250; omega) (fun w1 D1 h1 => ?_)
  refine x_aload_n dL_law_614 rfl ?_
  refine x_aload_n dL_law_615 rfl ?_
  refine x_iload_n dL_law_616 rfl ?_
  refine x_iconst dL_law_617 ?_
  refine x_iadd dL_law_618 ?_
  refine x_sld dL_law_619 hb hL ⟨by omega, by omega⟩ ?_
  obtain ⟨hr1, hm1, o3, o7, o6, o4, o5⟩ := hI.off (fun x k p => h1.2.1 x k (by omega))
  refine c_RL_65p dL_law_620 rfl (kX8_close hM hr1 hIn t3 hm1 gxi) mk (Nat.le_of_ble_eq_true rfl) (jcat_8 _) (by show k1 ≤ 600000 ∧ k2 ≤ 7302250; omega) (fun w2 D2 h2 => ?_)
  rw [h1.1, h2.1]
  refine x_ic_same (tgt := 1059) dL_law_623 (by decide) ?_
  exact K.go (hI.act h1 h2)
theorem law_12 {G : JG} {S : JS} {D : JD} {d : Nat} {k1 k2 : Nat} {X M t n q e : Int} {hs : Int → Int → Int} {r : Int → Int} (hI : jInv S D X M t n hs r q) (t0 : 0 ≤ t) (ht : t + 200 ≤ 60000) (he : 0 ≤ e ∧ e + 7 ≤ (gL G : Int)) (hb : gb G < (gB G).size) (hL : gL G < 2147483648) (hk : k1 + 41 ≤ 600000 ∧ k2 + 275 ≤ 7302250) (K : jNext G d k1 k2 X M t e) : JLw G d k1 k2 S D X M e 628 [] := by
  obtain ⟨hB, hM, hX, hN, hst, hr, hq, hm, ⟨x1, x2, x3, x4, x5⟩, hs0, hap⟩ := id hI
  have bk := hB.1
  have mk := hM.1
  have hIn := hst.2.2.2.1
  have t1 : t ≤ 60000 := by omega
  have t2 : t + 100 ≤ 60000 := by omega
  have t3 : t + 1 ≤ 60000 := by omega
  show JX _ _ _ _ _ _ _ _ _ _ _ [_, _, _, _] _ _
  refine x_aload_n dL_law_628 rfl ?_
  refine x_aload_n dL_law_629 rfl ?_
  refine x_iload_n dL_law_630 rfl ?_
  refine x_iconst dL_law_631 ?_
  refine x_iadd dL_law_632 ?_
  refine x_sld dL_law_633 hb hL ⟨by omega, by omega⟩ ?_
  refine x_aload_n dL_law_634 rfl ?_
  refine x_iload_n dL_law_635 rfl ?_
  refine x_iconst dL_law_636 ?_
  refine x_iadd dL_law_637 ?_
  refine x_sld dL_law_638 hb hL ⟨by omega, by omega⟩ ?_
  refine c_RL_66p dL_law_639 rfl (kX7_enter hB (Or.inl rfl) hst t2 gxi gxi) bk (Nat.le_of_ble_eq_true rfl) (Nat.le_of_ble_eq_true rfl) (by show k1 ≤ 600000 ∧ k2 ≤ 7302250; omega) (fun w1 D1 h1 => ?_)
  refine x_aload_n dL_law_642 rfl ?_
  refine x_aload_n dL_law_643 rfl ?_
  refine x_iload_n dL_law_644 rfl ?_
  refine x_iconst dL_law_645 ?_
  refine x_iadd dL_law_646 ?_
  refine x_sld dL_law_647 hb hL ⟨by omega, by omega⟩ ?_
  refine x_aload_n dL_law_648 rfl ?_
  refine x_iload_n dL_law_649 rfl ?_
  refine x_iconst dL_law_650 ?_
  refine x_iadd dL_law_651 ?_
  refine x_sld dL_law_652 hb hL ⟨by omega, by omega⟩ ?_
  obtain ⟨hr1, hm1, o3, o7, o6, o4, o5⟩ := hI.off (fun x k p => h1.2.1 x k (by omega))
  refine c_RL_69p dL_law_653 rfl (kX8_enter hM hr1 hIn t3 hm1 gxi gxi) mk (Nat.le_of_ble_eq_true rfl) (jcat_8 _) (by show k1 ≤ 600000 ∧ k2 ≤ 7302250; omega) (fun w2 D2 h2 => ?_)
  rw [h1.1, h2.1]
  refine x_ic_same (tgt := 1059) dL_law_656 (by decide) ?_
  exact K.go (hI.act h1 h2)
theorem law_13 {G : JG} {S : JS} {D : JD} {d : Nat} {k1 k2 : Nat} {X M t n q e : Int} {hs : Int → Int → Int} {r : Int → Int} (hI : jInv S D X M t n hs r q) (t0 : 0 ≤ t) (ht : t + 200 ≤ 60000) (he : 0 ≤ e ∧ e + 7 ≤ (gL G : Int)) (hb : gb G < (gB G).size) (hL : gL G < 2147483648) (hk : k1 + 41 ≤ 600000 ∧ k2 + 275 ≤ 7302250) (K : jNext G d k1 k2 X M t e) : JLw G d k1 k2 S D X M e 661 [] := by
  obtain ⟨hB, hM, hX, hN, hst, hr, hq, hm, ⟨x1, x2, x3, x4, x5⟩, hs0, hap⟩ := id hI
  have bk := hB.1
  have mk := hM.1
  have hIn := hst.2.2.2.1
  have t1 : t ≤ 60000 := by omega
  have t2 : t + 100 ≤ 60000 := by omega
  have t3 : t + 1 ≤ 60000 := by omega
  show JX _ _ _ _ _ _ _ _ _ _ _ [_, _, _, _] _ _
  refine x_aload_n dL_law_661 rfl ?_
  refine x_aload_n dL_law_662 rfl ?_
  refine x_iload_n dL_law_663 rfl ?_
  refine x_iconst dL_law_664 ?_
  refine x_iadd dL_law_665 ?_
  refine x_sld dL_law_666 hb hL ⟨by omega, by omega⟩ ?_
  refine x_aload_n dL_law_667 rfl ?_
  refine x_iload_n dL_law_668 rfl ?_
  refine x_iconst dL_law_669 ?_
  refine x_iadd dL_law_670 ?_
  refine x_sld dL_law_671 hb hL ⟨by omega, by omega⟩ ?_
  refine c_RL_70p dL_law_672 rfl (kX7_leave hB (Or.inl rfl) hst t2 gxi gxi) bk (Nat.le_of_ble_eq_true rfl) (Nat.le_of_ble_eq_true rfl) (by show k1 ≤ 600000 ∧ k2 ≤ 7302250; omega) (fun w1 D1 h1 => ?_)
  refine x_aload_n dL_law_675 rfl ?_
  refine x_aload_n dL_law_676 rfl ?_
  refine x_iload_n dL_law_677 rfl ?_
  refine x_iconst dL_law_678 ?_
  refine x_iadd dL_law_679 ?_
  refine x_sld dL_law_680 hb hL ⟨by omega, by omega⟩ ?_
  refine x_aload_n dL_law_681 rfl ?_
  refine x_iload_n dL_law_682 rfl ?_
  refine x_iconst dL_law_683 ?_
  refine x_iadd dL_law_684 ?_
  refine x_sld dL_law_685 hb hL ⟨by omega, by omega⟩ ?_
  obtain ⟨hr1, hm1, o3, o7, o6, o4, o5⟩ := hI.off (fun x k p => h1.2.1 x k (by omega))
  refine c_RL_73p dL_law_686 rfl (kX8_leave hM hr1 hIn t3 hm1 gxi gxi) mk (Nat.le_of_ble_eq_true rfl) (jcat_8 _) (by show k1 ≤ 600000 ∧ k2 ≤ 7302250; omega) (fun w2 D2 h2 => ?_)
  rw [h1.1, h2.1]
  refine x_ic_same (tgt := 1059) dL_law_689 (by decide) ?_
  exact K.go (hI.act h1 h2)
theorem law_14_f {G : JG} {S : JS} {D : JD} {d : Nat} {k1 k2 : Nat} {X M t n q e : Int} {hs : Int → Int → Int} {r : Int → Int} (hI : jInv S D X M t n hs r q) (t0 : 0 ≤ t) (ht : t + 200 ≤ 60000) (he : 0 ≤ e ∧ e + 7 ≤ (gL G : Int)) (hb : gb G < (gB G).size) (hL : gL G < 2147483648) (hk : k1 + 41 ≤ 600000 ∧ k2 + 275 ≤ 7302250) (K : jNext G d k1 k2 X M t e) (hn : D M 7 = 60) : JLw G d k1 k2 S D X M e 694 [] := by
  obtain ⟨hB, hM, hX, hN, hst, hr, hq, hm, ⟨x1, x2, x3, x4, x5⟩, hs0, hap⟩ := id hI
  have bk := hB.1
  have mk := hM.1
  have hIn := hst.2.2.2.1
  have t1 : t ≤ 60000 := by omega
  have t2 : t + 100 ≤ 60000 := by omega
  have t3 : t + 1 ≤ 60000 := by omega
  show JX _ _ _ _ _ _ _ _ _ _ _ [_, _, _, _] _ _
  refine x_aload_n dL_law_694 rfl ?_
  refine x_aload_n dL_law_695 rfl ?_
  refine x_iload_n dL_law_696 rfl ?_
  refine x_iconst dL_law_697 ?_
  refine x_iadd dL_law_698 ?_
  refine x_sld dL_law_699 hb hL ⟨by omega, by omega⟩ ?_
  refine x_i2c dL_law_700 ?_
  refine c_RL_74d dL_law_701 rfl (kX7_type_f hB x1 hn) bk (Nat.le_of_ble_eq_true rfl) (Nat.le_of_ble_eq_true rfl) (by show k1 ≤ 600000 ∧ k2 ≤ 7302250; omega) ?_
  refine x_aload_n dL_law_704 rfl ?_
  refine x_aload_n dL_law_705 rfl ?_
  refine x_iload_n dL_law_706 rfl ?_
  refine x_iconst dL_law_707 ?_
  refine x_iadd dL_law_708 ?_
  refine x_sld dL_law_709 hb hL ⟨by omega, by omega⟩ ?_
  refine x_i2c dL_law_710 ?_
  refine c_RL_78d dL_law_711 rfl (kX8_type_f hM rfl hn) mk (Nat.le_of_ble_eq_true rfl) (Nat.le_of_ble_eq_true rfl) (by show k1 ≤ 600000 ∧ k2 ≤ 7302250; omega) ?_
  refine x_ic_same (tgt := 1059) dL_law_714 (by decide) ?_
  exact K.go ⟨_, _, _, _, hI.mono (by omega)⟩
theorem law_14_y {G : JG} {S : JS} {D : JD} {d : Nat} {k1 k2 : Nat} {X M t n q e : Int} {hs : Int → Int → Int} {r : Int → Int} (hI : jInv S D X M t n hs r q) (t0 : 0 ≤ t) (ht : t + 200 ≤ 60000) (he : 0 ≤ e ∧ e + 7 ≤ (gL G : Int)) (hb : gb G < (gB G).size) (hL : gL G < 2147483648) (hk : k1 + 41 ≤ 600000 ∧ k2 + 275 ≤ 7302250) (K : jNext G d k1 k2 X M t e) (hn : ¬ D M 7 = 60) : JLw G d k1 k2 S D X M e 694 [] := by
  obtain ⟨hB, hM, hX, hN, hst, hr, hq, hm, ⟨x1, x2, x3, x4, x5⟩, hs0, hap⟩ := id hI
  have bk := hB.1
  have mk := hM.1
  have hIn := hst.2.2.2.1
  have t1 : t ≤ 60000 := by omega
  have t2 : t + 100 ≤ 60000 := by omega
  have t3 : t + 1 ≤ 60000 := by omega
  show JX _ _ _ _ _ _ _ _ _ _ _ [_, _, _, _] _ _
  refine x_aload_n dL_law_694 rfl ?_
  refine x_aload_n dL_law_695 rfl ?_
  refine x_iload_n dL_law_696 rfl ?_
  refine x_iconst dL_law_697 ?_
  refine x_iadd dL_law_698 ?_
  refine x_sld dL_law_699 hb hL ⟨by omega, by omega⟩ ?_
  refine x_i2c dL_law_700 ?_
  refine c_RL_74d dL_law_701 rfl (kX7_type_y hB x1 x2 (by omega) ⟨by omega, by omega⟩) bk (Nat.le_of_ble_eq_true rfl) (Nat.le_of_ble_eq_true rfl) (by show k1 ≤ 600000 ∧ k2 ≤ 7302250; omega) ?_
  refine x_aload_n dL_law_704 rfl ?_
  refine x_aload_n dL_law_705 rfl ?_
  refine x_iload_n dL_law_706 rfl ?_
  refine x_iconst dL_law_707 ?_
  refine x_iadd dL_law_708 ?_
  refine x_sld dL_law_709 hb hL ⟨by omega, by omega⟩ ?_
  refine x_i2c dL_law_710 ?_
  generalize hD1 : jup (jup D (X + 250 + 1) (D M 7) ((gX G (e + 1).toNat).toInt % 65536)) (X + 250) 1 (D M 7 + 1) = D1
  have e7 : D1 M 7 = D M 7 := by rw [← hD1, jup_ne (by omega), jup_ne (by omega)]
  refine c_RL_78d dL_law_711 rfl (kX8_type_y hM e7 x2 (by omega) ⟨by omega, by omega⟩) mk (Nat.le_of_ble_eq_true rfl) (Nat.le_of_ble_eq_true rfl) (by show k1 ≤ 600000 ∧ k2 ≤ 7302250; omega) ?_
  refine x_ic_same (tgt := 1059) dL_law_714 (by decide) ?_
  subst hD1
  exact K.go ⟨_, _, _, _, (hI.typed (by omega) ⟨by omega, by omega⟩).mono (by omega)⟩
theorem law_14 {G : JG} {S : JS} {D : JD} {d : Nat} {k1 k2 : Nat} {X M t n q e : Int} {hs : Int → Int → Int} {r : Int → Int} (hI : jInv S D X M t n hs r q) (t0 : 0 ≤ t) (ht : t + 200 ≤ 60000) (he : 0 ≤ e ∧ e + 7 ≤ (gL G : Int)) (hb : gb G < (gB G).size) (hL : gL G < 2147483648) (hk : k1 + 41 ≤ 600000 ∧ k2 + 275 ≤ 7302250) (K : jNext G d k1 k2 X M t e) : JLw G d k1 k2 S D X M e 694 [] := by
  by_cases hn : D M 7 = 60
  · exact law_14_f hI t0 ht he hb hL hk K hn
  · exact law_14_y hI t0 ht he hb hL hk K hn
theorem law_15 {G : JG} {S : JS} {D : JD} {d : Nat} {k1 k2 : Nat} {X M t n q e : Int} {hs : Int → Int → Int} {r : Int → Int} (hI : jInv S D X M t n hs r q) (t0 : 0 ≤ t) (ht : t + 200 ≤ 60000) (he : 0 ≤ e ∧ e + 7 ≤ (gL G : Int)) (hb : gb G < (gB G).size) (hL : gL G < 2147483648) (hk : k1 + 41 ≤ 600000 ∧ k2 + 275 ≤ 7302250) (K : jNext G d k1 k2 X M t e) : JLw G d k1 k2 S D X M e 719 [] := by
  obtain ⟨hB, hM, hX, hN, hst, hr, hq, hm, ⟨x1, x2, x3, x4, x5⟩, hs0, hap⟩ := id hI
  have bk := hB.1
  have mk := hM.1
  have hIn := hst.2.2.2.1
  have t1 : t ≤ 60000 := by omega
  have t2 : t + 100 ≤ 60000 := by omega
  have t3 : t + 1 ≤ 60000 := by omega
  show JX _ _ _ _ _ _ _ _ _ _ _ [_, _, _, _] _ _
  refine x_aload_n dL_law_719 rfl ?_
  refine c_RL_79d dL_law_720 rfl (kX7_clearText hB) bk (Nat.le_of_ble_eq_true rfl) (Nat.le_of_ble_eq_true rfl) (by show k1 ≤ 600000 ∧ k2 ≤ 7302250; omega) ?_
  refine x_aload_n dL_law_723 rfl ?_
  refine c_RL_83d dL_law_724 rfl (kX8_clearText hM) mk (Nat.le_of_ble_eq_true rfl) (Nat.le_of_ble_eq_true rfl) (by show k1 ≤ 600000 ∧ k2 ≤ 7302250; omega) ?_
  rw [x1, show jup D (X + 250) 1 0 M 7 = D M 7 from jup_ne (by omega)]
  refine x_ic_same (tgt := 1059) dL_law_727 (by decide) ?_
  exact K.go ⟨_, _, _, _, hI.cleared.mono (by omega)⟩
theorem law_16 {G : JG} {S : JS} {D : JD} {d : Nat} {k1 k2 : Nat} {X M t n q e : Int} {hs : Int → Int → Int} {r : Int → Int} (hI : jInv S D X M t n hs r q) (t0 : 0 ≤ t) (ht : t + 200 ≤ 60000) (he : 0 ≤ e ∧ e + 7 ≤ (gL G : Int)) (hb : gb G < (gB G).size) (hL : gL G < 2147483648) (hk : k1 + 41 ≤ 600000 ∧ k2 + 275 ≤ 7302250) (K : jNext G d k1 k2 X M t e) : JLw G d k1 k2 S D X M e 732 [] := by
  obtain ⟨hB, hM, hX, hN, hst, hr, hq, hm, ⟨x1, x2, x3, x4, x5⟩, hs0, hap⟩ := id hI
  have bk := hB.1
  have mk := hM.1
  have hIn := hst.2.2.2.1
  have t1 : t ≤ 60000 := by omega
  have t2 : t + 100 ≤ 60000 := by omega
  have t3 : t + 1 ≤ 60000 := by omega
  show JX _ _ _ _ _ _ _ _ _ _ _ [_, _, _, _] _ _
  refine x_aload_n dL_law_732 rfl ?_
  refine c_RL_84p dL_law_733 rfl (kX7_runOrders hB hst ht x1 x4 x2 x3 x5) bk (Nat.le_of_ble_eq_true rfl) (Nat.le_of_ble_eq_true rfl) (by show k1 ≤ 600000 ∧ k2 ≤ 7302250; omega) (fun w1 D1 h1 => ?_)
  refine x_aload_n dL_law_736 rfl ?_
  obtain ⟨hr1, hm1, o3, o7, o6, o4, o5⟩ := hI.off (fun x k p => h1.1 x k (by omega) (by omega))
  refine c_RL_87p dL_law_737 rfl (kX8_runOrders hM o7 o6 x2 x3 x5 hr1 hIn t2 hm1) mk (Nat.le_of_ble_eq_true rfl) (jcat_8 _) (by show k1 ≤ 600000 ∧ k2 ≤ 7302250; omega) (fun w2 D2 h2 => ?_)
  obtain ⟨⟨v, e1, e2⟩, hI2⟩ := hI.run h1 h2
  rw [e1, e2]
  refine x_ic_same (tgt := 1059) dL_law_740 (by decide) ?_
  exact K.go hI2
theorem law_17 {G : JG} {S : JS} {D : JD} {d : Nat} {k1 k2 : Nat} {X M t n q e : Int} {hs : Int → Int → Int} {r : Int → Int} (hI : jInv S D X M t n hs r q) (t0 : 0 ≤ t) (ht : t + 200 ≤ 60000) (he : 0 ≤ e ∧ e + 7 ≤ (gL G : Int)) (hb : gb G < (gB G).size) (hL : gL G < 2147483648) (hk : k1 + 41 ≤ 600000 ∧ k2 + 275 ≤ 7302250) (K : jNext G d k1 k2 X M t e) : JLw G d k1 k2 S D X M e 745 [] := by
  obtain ⟨hB, hM, hX, hN, hst, hr, hq, hm, ⟨x1, x2, x3, x4, x5⟩, hs0, hap⟩ := id hI
  have bk := hB.1
  have mk := hM.1
  have hIn := hst.2.2.2.1
  have t1 : t ≤ 60000 := by omega
  have t2 : t + 100 ≤ 60000 := by omega
  have t3 : t + 1 ≤ 60000 := by omega
  show JX _ _ _ _ _ _ _ _ _ _ _ [_, _, _, _] _ _
  refine x_aload_n dL_law_745 rfl ?_
  refine c_RL_88p dL_law_746 rfl (kX7_undo hB hst t2) bk (Nat.le_of_ble_eq_true rfl) (Nat.le_of_ble_eq_true rfl) (by show k1 ≤ 600000 ∧ k2 ≤ 7302250; omega) (fun w1 D1 h1 => ?_)
  refine x_aload_n dL_law_749 rfl ?_
  obtain ⟨hr1, hm1, o3, o7, o6, o4, o5⟩ := hI.off (fun x k p => h1.1 x k (by omega))
  refine c_RL_91p dL_law_750 rfl (kX8_undo hM hm1) mk (Nat.le_of_ble_eq_true rfl) (jcat_8 _) (by show k1 ≤ 600000 ∧ k2 ≤ 7302250; omega) (fun w2 D2 h2 => ?_)
  obtain ⟨⟨v, e1, e2⟩, hI2⟩ := hI.undo h1 h2
  rw [e1, e2]
  refine x_ic_same (tgt := 1059) dL_law_753 (by decide) ?_
  exact K.go hI2
theorem law_18_u {G : JG} {S : JS} {D : JD} {d : Nat} {k1 k2 : Nat} {X M t n q e : Int} {hs : Int → Int → Int} {r : Int → Int} (hI : jInv S D X M t n hs r q) (t0 : 0 ≤ t) (ht : t + 200 ≤ 60000) (he : 0 ≤ e ∧ e + 7 ≤ (gL G : Int)) (hb : gb G < (gB G).size) (hL : gL G < 2147483648) (hk : k1 + 41 ≤ 600000 ∧ k2 + 275 ≤ 7302250) (K : jNext G d k1 k2 X M t e) (hi : ¬ (((gX G (e + 1).toNat).toInt) = 0 ∨ ((gX G (e + 1).toNat).toInt) = 1)) : JLw G d k1 k2 S D X M e 758 [] := by
  obtain ⟨hB, hM, hX, hN, hst, hr, hq, hm, ⟨x1, x2, x3, x4, x5⟩, hs0, hap⟩ := id hI
  have bk := hB.1
  have mk := hM.1
  have hIn := hst.2.2.2.1
  have t1 : t ≤ 60000 := by omega
  have t2 : t + 100 ≤ 60000 := by omega
  have t3 : t + 1 ≤ 60000 := by omega
  show JX _ _ _ _ _ _ _ _ _ _ _ [_, _, _, _] _ _
  refine x_aload_n dL_law_758 rfl ?_
  refine x_aload_n dL_law_759 rfl ?_
  refine x_iload_n dL_law_760 rfl ?_
  refine x_iconst dL_law_761 ?_
  refine x_iadd dL_law_762 ?_
  refine x_sld dL_law_763 hb hL ⟨by omega, by omega⟩ ?_
  refine c_RL_92 dL_law_764 rfl (kX7_keep_u hB hst t1 gxi hi) bk (Nat.le_of_ble_eq_true rfl) (Nat.le_of_ble_eq_true rfl) (by show k1 + 41 ≤ 600000 ∧ k2 + 275 ≤ 7302250; omega) ?_
  rintro v9 S9 D9 ⟨rfl, rfl, rfl⟩
  dsimp only [Option.toList, List.nil_append]
  refine x_aload_n dL_law_767 rfl ?_
  refine x_aload_n dL_law_768 rfl ?_
  refine x_iload_n dL_law_769 rfl ?_
  refine x_iconst dL_law_770 ?_
  refine x_iadd dL_law_771 ?_
  refine x_sld dL_law_772 hb hL ⟨by omega, by omega⟩ ?_
  refine c_RL_95d dL_law_773 rfl (kX8_keep_u hM hr gxi hi) mk (Nat.le_of_ble_eq_true rfl) (Nat.le_of_ble_eq_true rfl) (by show k1 + 41 ≤ 600000 ∧ k2 + 275 ≤ 7302250; omega) ?_
  refine x_ic_same (tgt := 1059) dL_law_776 (by decide) ?_
  exact K _ _ ⟨_, _, _, _, hI.mono (by omega)⟩
theorem law_18_n {G : JG} {S : JS} {D : JD} {d : Nat} {k1 k2 : Nat} {X M t n q e : Int} {hs : Int → Int → Int} {r : Int → Int} (hI : jInv S D X M t n hs r q) (t0 : 0 ≤ t) (ht : t + 200 ≤ 60000) (he : 0 ≤ e ∧ e + 7 ≤ (gL G : Int)) (hb : gb G < (gB G).size) (hL : gL G < 2147483648) (hk : k1 + 41 ≤ 600000 ∧ k2 + 275 ≤ 7302250) (K : jNext G d k1 k2 X M t e) (hi : ((gX G (e + 1).toNat).toInt) = 0 ∨ ((gX G (e + 1).toNat).toInt) = 1) (hn : jR S (X + 249) ((gX G (e + 1).toNat).toInt) = none) : JLw G d k1 k2 S D X M e 758 [] := by
  obtain ⟨hB, hM, hX, hN, hst, hr, hq, hm, ⟨x1, x2, x3, x4, x5⟩, hs0, hap⟩ := id hI
  have bk := hB.1
  have mk := hM.1
  have hIn := hst.2.2.2.1
  have t1 : t ≤ 60000 := by omega
  have t2 : t + 100 ≤ 60000 := by omega
  have t3 : t + 1 ≤ 60000 := by omega
  have hgap : ∀ g : Int, jR S (X + 249) (1 - ((gX G (e + 1).toNat).toInt)) = some g → S.1 + 41 ≤ g ∨ g + 41 ≤ S.1 := fun g hg => by
    rcases hs0 (1 - ((gX G (e + 1).toNat).toInt)) (by omega) with ⟨b1, -⟩ | ⟨f2, s2, b1, -, -, -, b5, -⟩
    · rw [b1] at hg; cases hg
    · rw [b1] at hg; cases hg; exact Or.inr b5
  show JX _ _ _ _ _ _ _ _ _ _ _ [_, _, _, _] _ _
  refine x_aload_n dL_law_758 rfl ?_
  refine x_aload_n dL_law_759 rfl ?_
  refine x_iload_n dL_law_760 rfl ?_
  refine x_iconst dL_law_761 ?_
  refine x_iadd dL_law_762 ?_
  refine x_sld dL_law_763 hb hL ⟨by omega, by omega⟩ ?_
  refine c_RL_92 dL_law_764 rfl (kX7_keep_n (f := S.1) hB hst t1 hi hn rfl (by omega)) bk (Nat.le_of_ble_eq_true rfl) (Nat.le_of_ble_eq_true rfl) (by show k1 + 41 ≤ 600000 ∧ k2 + 275 ≤ 7302250; omega) ?_
  rintro v9 S9 D9 h1
  obtain ⟨rfl, -⟩ := id h1
  dsimp only [Option.toList, List.nil_append]
  refine x_aload_n dL_law_767 rfl ?_
  refine x_aload_n dL_law_768 rfl ?_
  refine x_iload_n dL_law_769 rfl ?_
  refine x_iconst dL_law_770 ?_
  refine x_iadd dL_law_771 ?_
  refine x_sld dL_law_772 hb hL ⟨by omega, by omega⟩ ?_
  obtain ⟨hM1, hr1⟩ := jKe.ref hI hN h1
  have mk1 := hM1.1
  refine c_RL_95p dL_law_773 rfl (kX8_keep_y hM1 hr1 hi) mk1 (Nat.le_of_ble_eq_true rfl) (jcat_8 _) (by show k1 + 41 ≤ 600000 ∧ k2 + 275 ≤ 7302250; omega) (fun w2 D2 h2 => ?_)
  rw [h2.1]
  refine x_ic_same (tgt := 1059) dL_law_776 (by decide) ?_
  exact K _ _ ⟨_, _, _, _, (hI.keep hi hN hgap h1 h2).mono (by omega)⟩
theorem law_18_o {G : JG} {S : JS} {D : JD} {d : Nat} {k1 k2 : Nat} {X M t n q e : Int} {hs : Int → Int → Int} {r : Int → Int} (hI : jInv S D X M t n hs r q) (t0 : 0 ≤ t) (ht : t + 200 ≤ 60000) (he : 0 ≤ e ∧ e + 7 ≤ (gL G : Int)) (hb : gb G < (gB G).size) (hL : gL G < 2147483648) (hk : k1 + 41 ≤ 600000 ∧ k2 + 275 ≤ 7302250) (K : jNext G d k1 k2 X M t e) {f : Int} (hi : ((gX G (e + 1).toNat).toInt) = 0 ∨ ((gX G (e + 1).toNat).toInt) = 1) (hn : jR S (X + 249) ((gX G (e + 1).toNat).toInt) = some f) (hFf : jFl S f) (hMf : M + 8 ≤ f) (hNf : f + 41 ≤ S.1) : JLw G d k1 k2 S D X M e 758 [] := by
  obtain ⟨hB, hM, hX, hN, hst, hr, hq, hm, ⟨x1, x2, x3, x4, x5⟩, hs0, hap⟩ := id hI
  have bk := hB.1
  have mk := hM.1
  have hIn := hst.2.2.2.1
  have t1 : t ≤ 60000 := by omega
  have t2 : t + 100 ≤ 60000 := by omega
  have t3 : t + 1 ≤ 60000 := by omega
  show JX _ _ _ _ _ _ _ _ _ _ _ [_, _, _, _] _ _
  refine x_aload_n dL_law_758 rfl ?_
  refine x_aload_n dL_law_759 rfl ?_
  refine x_iload_n dL_law_760 rfl ?_
  refine x_iconst dL_law_761 ?_
  refine x_iadd dL_law_762 ?_
  refine x_sld dL_law_763 hb hL ⟨by omega, by omega⟩ ?_
  refine c_RL_92 dL_law_764 rfl (kX7_keep_o hB hst t1 hi hn hFf (by omega) hNf) bk (Nat.le_of_ble_eq_true rfl) (Nat.le_of_ble_eq_true rfl) (by show k1 + 41 ≤ 600000 ∧ k2 + 275 ≤ 7302250; omega) ?_
  rintro v9 S9 D9 h1
  obtain ⟨rfl, -⟩ := id h1
  dsimp only [Option.toList, List.nil_append]
  refine x_aload_n dL_law_767 rfl ?_
  refine x_aload_n dL_law_768 rfl ?_
  refine x_iload_n dL_law_769 rfl ?_
  refine x_iconst dL_law_770 ?_
  refine x_iadd dL_law_771 ?_
  refine x_sld dL_law_772 hb hL ⟨by omega, by omega⟩ ?_
  obtain ⟨hM1, hr1⟩ := jKe.ref hI hMf h1
  have mk1 := hM1.1
  refine c_RL_95p dL_law_773 rfl (kX8_keep_y hM1 hr1 hi) mk1 (Nat.le_of_ble_eq_true rfl) (jcat_8 _) (by show k1 + 41 ≤ 600000 ∧ k2 + 275 ≤ 7302250; omega) (fun w2 D2 h2 => ?_)
  rw [h2.1]
  refine x_ic_same (tgt := 1059) dL_law_776 (by decide) ?_
  exact K _ _ ⟨_, _, _, _, (hI.keep hi hMf (fun g hg => hap _ f g hi hn hg) h1 h2).mono (by omega)⟩
theorem law_18 {G : JG} {S : JS} {D : JD} {d : Nat} {k1 k2 : Nat} {X M t n q e : Int} {hs : Int → Int → Int} {r : Int → Int} (hI : jInv S D X M t n hs r q) (t0 : 0 ≤ t) (ht : t + 200 ≤ 60000) (he : 0 ≤ e ∧ e + 7 ≤ (gL G : Int)) (hb : gb G < (gB G).size) (hL : gL G < 2147483648) (hk : k1 + 41 ≤ 600000 ∧ k2 + 275 ≤ 7302250) (K : jNext G d k1 k2 X M t e) : JLw G d k1 k2 S D X M e 758 [] := by
  by_cases hi : ((gX G (e + 1).toNat).toInt) = 0 ∨ ((gX G (e + 1).toNat).toInt) = 1
  · rcases hI.2.2.2.2.2.2.2.2.2.1 _ hi with ⟨h1, h2⟩ | ⟨f, s, a1, a2, a3, a4, a5, a6, a7, a8⟩
    · exact law_18_n hI t0 ht he hb hL hk K hi h1
    · exact law_18_o hI t0 ht he hb hL hk K hi a1 a3 a4 a5
  · exact law_18_u hI t0 ht he hb hL hk K hi
theorem law_19_u {G : JG} {S : JS} {D : JD} {d : Nat} {k1 k2 : Nat} {X M t n q e : Int} {hs : Int → Int → Int} {r : Int → Int} (hI : jInv S D X M t n hs r q) (t0 : 0 ≤ t) (ht : t + 200 ≤ 60000) (he : 0 ≤ e ∧ e + 7 ≤ (gL G : Int)) (hb : gb G < (gB G).size) (hL : gL G < 2147483648) (hk : k1 + 41 ≤ 600000 ∧ k2 + 275 ≤ 7302250) (K : jNext G d k1 k2 X M t e) (hi : ¬ (((gX G (e + 1).toNat).toInt) = 0 ∨ ((gX G (e + 1).toNat).toInt) = 1)) : JLw G d k1 k2 S D X M e 781 [] := by
  obtain ⟨hB, hM, hX, hN, hst, hr, hq, hm, ⟨x1, x2, x3, x4, x5⟩, hs0, hap⟩ := id hI
  have bk := hB.1
  have mk := hM.1
  have hIn := hst.2.2.2.1
  have t1 : t ≤ 60000 := by omega
  have t2 : t + 100 ≤ 60000 := by omega
  have t3 : t + 1 ≤ 60000 := by omega
  show JX _ _ _ _ _ _ _ _ _ _ _ [_, _, _, _] _ _
  refine x_aload_n dL_law_781 rfl ?_
  refine x_aload_n dL_law_782 rfl ?_
  refine x_iload_n dL_law_783 rfl ?_
  refine x_iconst dL_law_784 ?_
  refine x_iadd dL_law_785 ?_
  refine x_sld dL_law_786 hb hL ⟨by omega, by omega⟩ ?_
  refine c_RL_96d dL_law_787 rfl (kX7_restore_u hB (Or.inl rfl) hst t2 gxi hi) bk (Nat.le_of_ble_eq_true rfl) (Nat.le_of_ble_eq_true rfl) (by show k1 ≤ 600000 ∧ k2 ≤ 7302250; omega) ?_
  refine x_aload_n dL_law_790 rfl ?_
  refine x_aload_n dL_law_791 rfl ?_
  refine x_iload_n dL_law_792 rfl ?_
  refine x_iconst dL_law_793 ?_
  refine x_iadd dL_law_794 ?_
  refine x_sld dL_law_795 hb hL ⟨by omega, by omega⟩ ?_
  refine c_RL_99d dL_law_796 rfl (kX8_restore_u hM hr hm gxi hi) mk (Nat.le_of_ble_eq_true rfl) (Nat.le_of_ble_eq_true rfl) (by show k1 ≤ 600000 ∧ k2 ≤ 7302250; omega) ?_
  refine x_ic_same (tgt := 1059) dL_law_799 (by decide) ?_
  exact K.go ⟨_, _, _, _, hI.mono (by omega)⟩
theorem law_19_n {G : JG} {S : JS} {D : JD} {d : Nat} {k1 k2 : Nat} {X M t n q e : Int} {hs : Int → Int → Int} {r : Int → Int} (hI : jInv S D X M t n hs r q) (t0 : 0 ≤ t) (ht : t + 200 ≤ 60000) (he : 0 ≤ e ∧ e + 7 ≤ (gL G : Int)) (hb : gb G < (gB G).size) (hL : gL G < 2147483648) (hk : k1 + 41 ≤ 600000 ∧ k2 + 275 ≤ 7302250) (K : jNext G d k1 k2 X M t e) (hi : ((gX G (e + 1).toNat).toInt) = 0 ∨ ((gX G (e + 1).toNat).toInt) = 1) (h1 : jR S (X + 249) ((gX G (e + 1).toNat).toInt) = none) (h2 : D (M + 5) ((gX G (e + 1).toNat).toInt) = 0) : JLw G d k1 k2 S D X M e 781 [] := by
  obtain ⟨hB, hM, hX, hN, hst, hr, hq, hm, ⟨x1, x2, x3, x4, x5⟩, hs0, hap⟩ := id hI
  have bk := hB.1
  have mk := hM.1
  have hIn := hst.2.2.2.1
  have t1 : t ≤ 60000 := by omega
  have t2 : t + 100 ≤ 60000 := by omega
  have t3 : t + 1 ≤ 60000 := by omega
  show JX _ _ _ _ _ _ _ _ _ _ _ [_, _, _, _] _ _
  refine x_aload_n dL_law_781 rfl ?_
  refine x_aload_n dL_law_782 rfl ?_
  refine x_iload_n dL_law_783 rfl ?_
  refine x_iconst dL_law_784 ?_
  refine x_iadd dL_law_785 ?_
  refine x_sld dL_law_786 hb hL ⟨by omega, by omega⟩ ?_
  refine c_RL_96d dL_law_787 rfl (kX7_restore_n hB (Or.inl rfl) hst t2 hi h1) bk (Nat.le_of_ble_eq_true rfl) (Nat.le_of_ble_eq_true rfl) (by show k1 ≤ 600000 ∧ k2 ≤ 7302250; omega) ?_
  refine x_aload_n dL_law_790 rfl ?_
  refine x_aload_n dL_law_791 rfl ?_
  refine x_iload_n dL_law_792 rfl ?_
  refine x_iconst dL_law_793 ?_
  refine x_iadd dL_law_794 ?_
  refine x_sld dL_law_795 hb hL ⟨by omega, by omega⟩ ?_
  refine c_RL_99d dL_law_796 rfl (kX8_restore_n hM hr hm hi h2) mk (Nat.le_of_ble_eq_true rfl) (Nat.le_of_ble_eq_true rfl) (by show k1 ≤ 600000 ∧ k2 ≤ 7302250; omega) ?_
  refine x_ic_same (tgt := 1059) dL_law_799 (by decide) ?_
  exact K.go ⟨_, _, _, _, hI.mono (by omega)⟩
theorem law_19_y {G : JG} {S : JS} {D : JD} {d : Nat} {k1 k2 : Nat} {X M t n q e : Int} {hs : Int → Int → Int} {r : Int → Int} (hI : jInv S D X M t n hs r q) (t0 : 0 ≤ t) (ht : t + 200 ≤ 60000) (he : 0 ≤ e ∧ e + 7 ≤ (gL G : Int)) (hb : gb G < (gB G).size) (hL : gL G < 2147483648) (hk : k1 + 41 ≤ 600000 ∧ k2 + 275 ≤ 7302250) (K : jNext G d k1 k2 X M t e) {f : Int} {s : Int → Int} (hi : ((gX G (e + 1).toNat).toInt) = 0 ∨ ((gX G (e + 1).toNat).toInt) = 1) (a1 : jR S (X + 249) ((gX G (e + 1).toNat).toInt) = some f) (a2 : D (M + 5) ((gX G (e + 1).toNat).toInt) = 1) (a3 : jFl S f) (a4 : M + 8 ≤ f) (a6 : jFR D f s) (a7 : rIn t s) (a8 : ∀ j : Int, 0 ≤ j → j < 213 → D (M + 4) (213 * ((gX G (e + 1).toNat).toInt) + j) = s j) : JLw G d k1 k2 S D X M e 781 [] := by
  obtain ⟨hB, hM, hX, hN, hst, hr, hq, hm, ⟨x1, x2, x3, x4, x5⟩, hs0, hap⟩ := id hI
  have bk := hB.1
  have mk := hM.1
  have hIn := hst.2.2.2.1
  have t1 : t ≤ 60000 := by omega
  have t2 : t + 100 ≤ 60000 := by omega
  have t3 : t + 1 ≤ 60000 := by omega
  show JX _ _ _ _ _ _ _ _ _ _ _ [_, _, _, _] _ _
  refine x_aload_n dL_law_781 rfl ?_
  refine x_aload_n dL_law_782 rfl ?_
  refine x_iload_n dL_law_783 rfl ?_
  refine x_iconst dL_law_784 ?_
  refine x_iadd dL_law_785 ?_
  refine x_sld dL_law_786 hb hL ⟨by omega, by omega⟩ ?_
  refine c_RL_96p dL_law_787 rfl (kX7_restore_y hB (Or.inl rfl) hst t2 hi a1 a3 (Or.inr (by omega)) a6 a7) bk (Nat.le_of_ble_eq_true rfl) (Nat.le_of_ble_eq_true rfl) (by show k1 ≤ 600000 ∧ k2 ≤ 7302250; omega) (fun w1 D1 h1 => ?_)
  refine x_aload_n dL_law_790 rfl ?_
  refine x_aload_n dL_law_791 rfl ?_
  refine x_iload_n dL_law_792 rfl ?_
  refine x_iconst dL_law_793 ?_
  refine x_iadd dL_law_794 ?_
  refine x_sld dL_law_795 hb hL ⟨by omega, by omega⟩ ?_
  obtain ⟨hr1, hm1, o3, o7, o6, o4, o5⟩ := hI.off (fun x k p => h1.1 x k (by omega))
  rw [← o5] at a2
  rw [← o4] at a8
  refine c_RL_99p dL_law_796 rfl (kX8_restore_y hM hr1 hm1 hi a2 a8) mk (Nat.le_of_ble_eq_true rfl) (jcat_8 _) (by show k1 ≤ 600000 ∧ k2 ≤ 7302250; omega) (fun w2 D2 h2 => ?_)
  obtain ⟨⟨v, e1, e2⟩, hI2⟩ := hI.rest h1 h2
  rw [e1, e2]
  refine x_ic_same (tgt := 1059) dL_law_799 (by decide) ?_
  exact K.go hI2
theorem law_19 {G : JG} {S : JS} {D : JD} {d : Nat} {k1 k2 : Nat} {X M t n q e : Int} {hs : Int → Int → Int} {r : Int → Int} (hI : jInv S D X M t n hs r q) (t0 : 0 ≤ t) (ht : t + 200 ≤ 60000) (he : 0 ≤ e ∧ e + 7 ≤ (gL G : Int)) (hb : gb G < (gB G).size) (hL : gL G < 2147483648) (hk : k1 + 41 ≤ 600000 ∧ k2 + 275 ≤ 7302250) (K : jNext G d k1 k2 X M t e) : JLw G d k1 k2 S D X M e 781 [] := by
  by_cases hi : ((gX G (e + 1).toNat).toInt) = 0 ∨ ((gX G (e + 1).toNat).toInt) = 1
  · rcases hI.2.2.2.2.2.2.2.2.2.1 _ hi with ⟨h1, h2⟩ | ⟨f, s, a1, a2, a3, a4, a5, a6, a7, a8⟩
    · exact law_19_n hI t0 ht he hb hL hk K hi h1 h2
    · exact law_19_y hI t0 ht he hb hL hk K hi a1 a2 a3 a4 a6 a7 a8
  · exact law_19_u hI t0 ht he hb hL hk K hi
theorem law_20 {G : JG} {S : JS} {D : JD} {d : Nat} {k1 k2 : Nat} {X M t n q e : Int} {hs : Int → Int → Int} {r : Int → Int} (hI : jInv S D X M t n hs r q) (t0 : 0 ≤ t) (ht : t + 200 ≤ 60000) (he : 0 ≤ e ∧ e + 7 ≤ (gL G : Int)) (hb : gb G < (gB G).size) (hL : gL G < 2147483648) (hk : k1 + 41 ≤ 600000 ∧ k2 + 275 ≤ 7302250) (K : jNext G d k1 k2 X M t e) : JLw G d k1 k2 S D X M e 804 [] := by
  obtain ⟨hB, hM, hX, hN, hst, hr, hq, hm, ⟨x1, x2, x3, x4, x5⟩, hs0, hap⟩ := id hI
  have bk := hB.1
  have mk := hM.1
  have hIn := hst.2.2.2.1
  have t1 : t ≤ 60000 := by omega
  have t2 : t + 100 ≤ 60000 := by omega
  have t3 : t + 1 ≤ 60000 := by omega
  show JX _ _ _ _ _ _ _ _ _ _ _ [_, _, _, _] _ _
  refine x_aload_n dL_law_804 rfl ?_
  refine x_aload_n dL_law_805 rfl ?_
  refine x_iload_n dL_law_806 rfl ?_
  refine x_iconst dL_law_807 ?_
  refine x_iadd dL_law_808 ?_
  refine x_sld dL_law_809 hb hL ⟨by omega, by omega⟩ ?_
  refine x_aload_n dL_law_810 rfl ?_
  refine x_iload_n dL_law_811 rfl ?_
  refine x_iconst dL_law_812 ?_
  refine x_iadd dL_law_813 ?_
  refine x_sld dL_law_814 hb hL ⟨by omega, by omega⟩ ?_
  refine c_RL_100d dL_law_815 rfl (kX7_reach hB hst t1 gxi gxi) bk (Nat.le_of_ble_eq_true rfl) (Nat.le_of_ble_eq_true rfl) (by show k1 ≤ 600000 ∧ k2 ≤ 7302250; omega) ?_
  refine x_aload_n dL_law_818 rfl ?_
  refine x_aload_n dL_law_819 rfl ?_
  refine x_iload_n dL_law_820 rfl ?_
  refine x_iconst dL_law_821 ?_
  refine x_iadd dL_law_822 ?_
  refine x_sld dL_law_823 hb hL ⟨by omega, by omega⟩ ?_
  refine x_aload_n dL_law_824 rfl ?_
  refine x_iload_n dL_law_825 rfl ?_
  refine x_iconst dL_law_826 ?_
  refine x_iadd dL_law_827 ?_
  refine x_sld dL_law_828 hb hL ⟨by omega, by omega⟩ ?_
  refine c_RL_103d dL_law_829 rfl (kX8_reach hM hr hIn t1 gxi gxi) mk (Nat.le_of_ble_eq_true rfl) (Nat.le_of_ble_eq_true rfl) (by show k1 ≤ 600000 ∧ k2 ≤ 7302250; omega) ?_
  refine x_ic_same (tgt := 1059) dL_law_832 (by decide) ?_
  exact K.go ⟨_, _, _, _, hI.mono (by omega)⟩
theorem law_21 {G : JG} {S : JS} {D : JD} {d : Nat} {k1 k2 : Nat} {X M t n q e : Int} {hs : Int → Int → Int} {r : Int → Int} (hI : jInv S D X M t n hs r q) (t0 : 0 ≤ t) (ht : t + 200 ≤ 60000) (he : 0 ≤ e ∧ e + 7 ≤ (gL G : Int)) (hb : gb G < (gB G).size) (hL : gL G < 2147483648) (hk : k1 + 41 ≤ 600000 ∧ k2 + 275 ≤ 7302250) (K : jNext G d k1 k2 X M t e) : JLw G d k1 k2 S D X M e 837 [] := by
  obtain ⟨hB, hM, hX, hN, hst, hr, hq, hm, ⟨x1, x2, x3, x4, x5⟩, hs0, hap⟩ := id hI
  have bk := hB.1
  have mk := hM.1
  have hIn := hst.2.2.2.1
  have t1 : t ≤ 60000 := by omega
  have t2 : t + 100 ≤ 60000 := by omega
  have t3 : t + 1 ≤ 60000 := by omega
  show JX _ _ _ _ _ _ _ _ _ _ _ [_, _, _, _] _ _
  refine x_aload_n dL_law_837 rfl ?_
  refine x_aload_n dL_law_838 rfl ?_
  refine x_iload_n dL_law_839 rfl ?_
  refine x_iconst dL_law_840 ?_
  refine x_iadd dL_law_841 ?_
  refine x_sld dL_law_842 hb hL ⟨by omega, by omega⟩ ?_
  refine x_aload_n dL_law_843 rfl ?_
  refine x_iload_n dL_law_844 rfl ?_
  refine x_iconst dL_law_845 ?_
  refine x_iadd dL_law_846 ?_
  refine x_sld dL_law_847 hb hL ⟨by omega, by omega⟩ ?_
  refine c_RL_104d dL_law_848 rfl (kX7_chamber hB hst t1 gxi gxi) bk (Nat.le_of_ble_eq_true rfl) (Nat.le_of_ble_eq_true rfl) (by show k1 ≤ 600000 ∧ k2 ≤ 7302250; omega) ?_
  refine x_aload_n dL_law_851 rfl ?_
  refine x_aload_n dL_law_852 rfl ?_
  refine x_iload_n dL_law_853 rfl ?_
  refine x_iconst dL_law_854 ?_
  refine x_iadd dL_law_855 ?_
  refine x_sld dL_law_856 hb hL ⟨by omega, by omega⟩ ?_
  refine x_aload_n dL_law_857 rfl ?_
  refine x_iload_n dL_law_858 rfl ?_
  refine x_iconst dL_law_859 ?_
  refine x_iadd dL_law_860 ?_
  refine x_sld dL_law_861 hb hL ⟨by omega, by omega⟩ ?_
  refine c_RL_107d dL_law_862 rfl (kX8_chamber hM hr hIn t1 gxi gxi) mk (Nat.le_of_ble_eq_true rfl) (Nat.le_of_ble_eq_true rfl) (by show k1 ≤ 600000 ∧ k2 ≤ 7302250; omega) ?_
  refine x_ic_same (tgt := 1059) dL_law_865 (by decide) ?_
  exact K.go ⟨_, _, _, _, hI.mono (by omega)⟩
theorem law_22 {G : JG} {S : JS} {D : JD} {d : Nat} {k1 k2 : Nat} {X M t n q e : Int} {hs : Int → Int → Int} {r : Int → Int} (hI : jInv S D X M t n hs r q) (t0 : 0 ≤ t) (ht : t + 200 ≤ 60000) (he : 0 ≤ e ∧ e + 7 ≤ (gL G : Int)) (hb : gb G < (gB G).size) (hL : gL G < 2147483648) (hk : k1 + 41 ≤ 600000 ∧ k2 + 275 ≤ 7302250) (K : jNext G d k1 k2 X M t e) : JLw G d k1 k2 S D X M e 870 [] := by
  obtain ⟨hB, hM, hX, hN, hst, hr, hq, hm, ⟨x1, x2, x3, x4, x5⟩, hs0, hap⟩ := id hI
  have bk := hB.1
  have mk := hM.1
  have hIn := hst.2.2.2.1
  have t1 : t ≤ 60000 := by omega
  have t2 : t + 100 ≤ 60000 := by omega
  have t3 : t + 1 ≤ 60000 := by omega
  show JX _ _ _ _ _ _ _ _ _ _ _ [_, _, _, _] _ _
  refine x_aload_n dL_law_870 rfl ?_
  refine x_aload_n dL_law_871 rfl ?_
  refine x_iload_n dL_law_872 rfl ?_
  refine x_iconst dL_law_873 ?_
  refine x_iadd dL_law_874 ?_
  refine x_sld dL_law_875 hb hL ⟨by omega, by omega⟩ ?_
  refine x_aload_n dL_law_876 rfl ?_
  refine x_iload_n dL_law_877 rfl ?_
  refine x_iconst dL_law_878 ?_
  refine x_iadd dL_law_879 ?_
  refine x_sld dL_law_880 hb hL ⟨by omega, by omega⟩ ?_
  refine c_RL_108d dL_law_881 rfl (kX7_lying hB hst t1 gxi gxi) bk (Nat.le_of_ble_eq_true rfl) (Nat.le_of_ble_eq_true rfl) (by show k1 ≤ 600000 ∧ k2 ≤ 7302250; omega) ?_
  refine x_aload_n dL_law_884 rfl ?_
  refine x_aload_n dL_law_885 rfl ?_
  refine x_iload_n dL_law_886 rfl ?_
  refine x_iconst dL_law_887 ?_
  refine x_iadd dL_law_888 ?_
  refine x_sld dL_law_889 hb hL ⟨by omega, by omega⟩ ?_
  refine x_aload_n dL_law_890 rfl ?_
  refine x_iload_n dL_law_891 rfl ?_
  refine x_iconst dL_law_892 ?_
  refine x_iadd dL_law_893 ?_
  refine x_sld dL_law_894 hb hL ⟨by omega, by omega⟩ ?_
  refine c_RL_111d dL_law_895 rfl (kX8_lying hM hr hIn t1 gxi gxi) mk (Nat.le_of_ble_eq_true rfl) (Nat.le_of_ble_eq_true rfl) (by show k1 ≤ 600000 ∧ k2 ≤ 7302250; omega) ?_
  refine x_ic_same (tgt := 1059) dL_law_898 (by decide) ?_
  exact K.go ⟨_, _, _, _, hI.mono (by omega)⟩
theorem law_23 {G : JG} {S : JS} {D : JD} {d : Nat} {k1 k2 : Nat} {X M t n q e : Int} {hs : Int → Int → Int} {r : Int → Int} (hI : jInv S D X M t n hs r q) (t0 : 0 ≤ t) (ht : t + 200 ≤ 60000) (he : 0 ≤ e ∧ e + 7 ≤ (gL G : Int)) (hb : gb G < (gB G).size) (hL : gL G < 2147483648) (hk : k1 + 41 ≤ 600000 ∧ k2 + 275 ≤ 7302250) (K : jNext G d k1 k2 X M t e) : JLw G d k1 k2 S D X M e 903 [] := by
  obtain ⟨hB, hM, hX, hN, hst, hr, hq, hm, ⟨x1, x2, x3, x4, x5⟩, hs0, hap⟩ := id hI
  have bk := hB.1
  have mk := hM.1
  have hIn := hst.2.2.2.1
  have t1 : t ≤ 60000 := by omega
  have t2 : t + 100 ≤ 60000 := by omega
  have t3 : t + 1 ≤ 60000 := by omega
  show JX _ _ _ _ _ _ _ _ _ _ _ [_, _, _, _] _ _
  refine x_aload_n dL_law_903 rfl ?_
  refine x_aload_n dL_law_904 rfl ?_
  refine x_iload_n dL_law_905 rfl ?_
  refine x_iconst dL_law_906 ?_
  refine x_iadd dL_law_907 ?_
  refine x_sld dL_law_908 hb hL ⟨by omega, by omega⟩ ?_
  refine x_aload_n dL_law_909 rfl ?_
  refine x_iload_n dL_law_910 rfl ?_
  refine x_iconst dL_law_911 ?_
  refine x_iadd dL_law_912 ?_
  refine x_sld dL_law_913 hb hL ⟨by omega, by omega⟩ ?_
  refine c_RL_112d dL_law_914 rfl (kX7_barge hB hst t1 gxi gxi) bk (Nat.le_of_ble_eq_true rfl) (Nat.le_of_ble_eq_true rfl) (by show k1 ≤ 600000 ∧ k2 ≤ 7302250; omega) ?_
  refine x_aload_n dL_law_917 rfl ?_
  refine x_aload_n dL_law_918 rfl ?_
  refine x_iload_n dL_law_919 rfl ?_
  refine x_iconst dL_law_920 ?_
  refine x_iadd dL_law_921 ?_
  refine x_sld dL_law_922 hb hL ⟨by omega, by omega⟩ ?_
  refine x_aload_n dL_law_923 rfl ?_
  refine x_iload_n dL_law_924 rfl ?_
  refine x_iconst dL_law_925 ?_
  refine x_iadd dL_law_926 ?_
  refine x_sld dL_law_927 hb hL ⟨by omega, by omega⟩ ?_
  refine c_RL_115d dL_law_928 rfl (kX8_barge hM hr hIn t1 gxi gxi) mk (Nat.le_of_ble_eq_true rfl) (Nat.le_of_ble_eq_true rfl) (by show k1 ≤ 600000 ∧ k2 ≤ 7302250; omega) ?_
  refine x_ic_same (tgt := 1059) dL_law_931 (by decide) ?_
  exact K.go ⟨_, _, _, _, hI.mono (by omega)⟩
theorem law_24 {G : JG} {S : JS} {D : JD} {d : Nat} {k1 k2 : Nat} {X M t n q e : Int} {hs : Int → Int → Int} {r : Int → Int} (hI : jInv S D X M t n hs r q) (t0 : 0 ≤ t) (ht : t + 200 ≤ 60000) (he : 0 ≤ e ∧ e + 7 ≤ (gL G : Int)) (hb : gb G < (gB G).size) (hL : gL G < 2147483648) (hk : k1 + 41 ≤ 600000 ∧ k2 + 275 ≤ 7302250) (K : jNext G d k1 k2 X M t e) : JLw G d k1 k2 S D X M e 936 [] := by
  obtain ⟨hB, hM, hX, hN, hst, hr, hq, hm, ⟨x1, x2, x3, x4, x5⟩, hs0, hap⟩ := id hI
  have bk := hB.1
  have mk := hM.1
  have hIn := hst.2.2.2.1
  have t1 : t ≤ 60000 := by omega
  have t2 : t + 100 ≤ 60000 := by omega
  have t3 : t + 1 ≤ 60000 := by omega
  show JX _ _ _ _ _ _ _ _ _ _ _ [_, _, _, _] _ _
  refine x_aload_n dL_law_936 rfl ?_
  refine x_aload_n dL_law_937 rfl ?_
  refine x_iload_n dL_law_938 rfl ?_
  refine x_iconst dL_law_939 ?_
  refine x_iadd dL_law_940 ?_
  refine x_sld dL_law_941 hb hL ⟨by omega, by omega⟩ ?_
  refine x_aload_n dL_law_942 rfl ?_
  refine x_iload_n dL_law_943 rfl ?_
  refine x_iconst dL_law_944 ?_
  refine x_iadd dL_law_945 ?_
  refine x_sld dL_law_946 hb hL ⟨by omega, by omega⟩ ?_
  refine x_aload_n dL_law_947 rfl ?_
  refine x_iload_n dL_law_948 rfl ?_
  refine x_iconst dL_law_949 ?_
  refine x_iadd dL_law_950 ?_
  refine x_sld dL_law_951 hb hL ⟨by omega, by omega⟩ ?_
  refine c_RL_116d dL_law_952 rfl (kX7_margin hB hst t1 gxi gxi gxi) bk (Nat.le_of_ble_eq_true rfl) (Nat.le_of_ble_eq_true rfl) (by show k1 ≤ 600000 ∧ k2 ≤ 7302250; omega) ?_
  refine x_aload_n dL_law_955 rfl ?_
  refine x_aload_n dL_law_956 rfl ?_
  refine x_iload_n dL_law_957 rfl ?_
  refine x_iconst dL_law_958 ?_
  refine x_iadd dL_law_959 ?_
  refine x_sld dL_law_960 hb hL ⟨by omega, by omega⟩ ?_
  refine x_aload_n dL_law_961 rfl ?_
  refine x_iload_n dL_law_962 rfl ?_
  refine x_iconst dL_law_963 ?_
  refine x_iadd dL_law_964 ?_
  refine x_sld dL_law_965 hb hL ⟨by omega, by omega⟩ ?_
  refine x_aload_n dL_law_966 rfl ?_
  refine x_iload_n dL_law_967 rfl ?_
  refine x_iconst dL_law_968 ?_
  refine x_iadd dL_law_969 ?_
  refine x_sld dL_law_970 hb hL ⟨by omega, by omega⟩ ?_
  refine c_RL_119d dL_law_971 rfl (kX8_margin hM hr hIn t1 gxi gxi gxi) mk (Nat.le_of_ble_eq_true rfl) (Nat.le_of_ble_eq_true rfl) (by show k1 ≤ 600000 ∧ k2 ≤ 7302250; omega) ?_
  refine x_ic_same (tgt := 1059) dL_law_974 (by decide) ?_
  exact K.go ⟨_, _, _, _, hI.mono (by omega)⟩
theorem law_25 {G : JG} {S : JS} {D : JD} {d : Nat} {k1 k2 : Nat} {X M t n q e : Int} {hs : Int → Int → Int} {r : Int → Int} (hI : jInv S D X M t n hs r q) (t0 : 0 ≤ t) (ht : t + 200 ≤ 60000) (he : 0 ≤ e ∧ e + 7 ≤ (gL G : Int)) (hb : gb G < (gB G).size) (hL : gL G < 2147483648) (hk : k1 + 41 ≤ 600000 ∧ k2 + 275 ≤ 7302250) (K : jNext G d k1 k2 X M t e) : JLw G d k1 k2 S D X M e 979 [] := by
  obtain ⟨hB, hM, hX, hN, hst, hr, hq, hm, ⟨x1, x2, x3, x4, x5⟩, hs0, hap⟩ := id hI
  have bk := hB.1
  have mk := hM.1
  have hIn := hst.2.2.2.1
  have t1 : t ≤ 60000 := by omega
  have t2 : t + 100 ≤ 60000 := by omega
  have t3 : t + 1 ≤ 60000 := by omega
  show JX _ _ _ _ _ _ _ _ _ _ _ [_, _, _, _] _ _
  refine x_aload_n dL_law_979 rfl ?_
  refine x_aload_n dL_law_980 rfl ?_
  refine x_iload_n dL_law_981 rfl ?_
  refine x_iconst dL_law_982 ?_
  refine x_iadd dL_law_983 ?_
  refine x_sld dL_law_984 hb hL ⟨by omega, by omega⟩ ?_
  refine x_aload_n dL_law_985 rfl ?_
  refine x_iload_n dL_law_986 rfl ?_
  refine x_iconst dL_law_987 ?_
  refine x_iadd dL_law_988 ?_
  refine x_sld dL_law_989 hb hL ⟨by omega, by omega⟩ ?_
  refine c_RL_120d dL_law_990 rfl (kX7_flow hB hst t1 gxi gxi) bk (Nat.le_of_ble_eq_true rfl) (Nat.le_of_ble_eq_true rfl) (by show k1 ≤ 600000 ∧ k2 ≤ 7302250; omega) ?_
  refine x_aload_n dL_law_993 rfl ?_
  refine x_aload_n dL_law_994 rfl ?_
  refine x_iload_n dL_law_995 rfl ?_
  refine x_iconst dL_law_996 ?_
  refine x_iadd dL_law_997 ?_
  refine x_sld dL_law_998 hb hL ⟨by omega, by omega⟩ ?_
  refine x_aload_n dL_law_999 rfl ?_
  refine x_iload_n dL_law_1000 rfl ?_
  refine x_iconst dL_law_1001 ?_
  refine x_iadd dL_law_1002 ?_
  refine x_sld dL_law_1003 hb hL ⟨by omega, by omega⟩ ?_
  refine c_RL_123d dL_law_1004 rfl (kX8_flow hM hr hIn t1 gxi gxi) mk (Nat.le_of_ble_eq_true rfl) (Nat.le_of_ble_eq_true rfl) (by show k1 ≤ 600000 ∧ k2 ≤ 7302250; omega) ?_
  refine x_ic_same (tgt := 1059) dL_law_1007 (by decide) ?_
  exact K.go ⟨_, _, _, _, hI.mono (by omega)⟩
theorem law_26 {G : JG} {S : JS} {D : JD} {d : Nat} {k1 k2 : Nat} {X M t n q e : Int} {hs : Int → Int → Int} {r : Int → Int} (hI : jInv S D X M t n hs r q) (t0 : 0 ≤ t) (ht : t + 200 ≤ 60000) (he : 0 ≤ e ∧ e + 7 ≤ (gL G : Int)) (hb : gb G < (gB G).size) (hL : gL G < 2147483648) (hk : k1 + 41 ≤ 600000 ∧ k2 + 275 ≤ 7302250) (K : jNext G d k1 k2 X M t e) : JLw G d k1 k2 S D X M e 1012 [] := by
  obtain ⟨hB, hM, hX, hN, hst, hr, hq, hm, ⟨x1, x2, x3, x4, x5⟩, hs0, hap⟩ := id hI
  have bk := hB.1
  have mk := hM.1
  have hIn := hst.2.2.2.1
  have t1 : t ≤ 60000 := by omega
  have t2 : t + 100 ≤ 60000 := by omega
  have t3 : t + 1 ≤ 60000 := by omega
  show JX _ _ _ _ _ _ _ _ _ _ _ [_, _, _, _] _ _
  refine x_aload_n dL_law_1012 rfl ?_
  refine x_aload_n dL_law_1013 rfl ?_
  refine x_iload_n dL_law_1014 rfl ?_
  refine x_iconst dL_law_1015 ?_
  refine x_iadd dL_law_1016 ?_
  refine x_sld dL_law_1017 hb hL ⟨by omega, by omega⟩ ?_
  refine c_RL_124d dL_law_1018 rfl (kX7_account hB hst t1 gxi) bk (Nat.le_of_ble_eq_true rfl) (Nat.le_of_ble_eq_true rfl) (by show k1 ≤ 600000 ∧ k2 ≤ 7302250; omega) ?_
  refine x_aload_n dL_law_1021 rfl ?_
  refine x_aload_n dL_law_1022 rfl ?_
  refine x_iload_n dL_law_1023 rfl ?_
  refine x_iconst dL_law_1024 ?_
  refine x_iadd dL_law_1025 ?_
  refine x_sld dL_law_1026 hb hL ⟨by omega, by omega⟩ ?_
  refine c_RL_128d dL_law_1027 rfl (kX8_account hM hr hIn t1 gxi) mk (Nat.le_of_ble_eq_true rfl) (Nat.le_of_ble_eq_true rfl) (by show k1 ≤ 600000 ∧ k2 ≤ 7302250; omega) ?_
  refine x_lcmp_same dL_law_1030 ?_
  refine x_if_eq (tgt := 1059) dL_law_1031 (by decide) ⟨by decide, by decide⟩ (fun _ => ?_) (fun h => absurd rfl h)
  exact K.go ⟨_, _, _, _, hI.mono (by omega)⟩
theorem law_27 {G : JG} {S : JS} {D : JD} {d : Nat} {k1 k2 : Nat} {X M t n q e : Int} {hs : Int → Int → Int} {r : Int → Int} (hI : jInv S D X M t n hs r q) (t0 : 0 ≤ t) (ht : t + 200 ≤ 60000) (he : 0 ≤ e ∧ e + 7 ≤ (gL G : Int)) (hb : gb G < (gB G).size) (hL : gL G < 2147483648) (hk : k1 + 41 ≤ 600000 ∧ k2 + 275 ≤ 7302250) (K : jNext G d k1 k2 X M t e) : JLw G d k1 k2 S D X M e 1036 [] := by
  obtain ⟨hB, hM, hX, hN, hst, hr, hq, hm, ⟨x1, x2, x3, x4, x5⟩, hs0, hap⟩ := id hI
  have bk := hB.1
  have mk := hM.1
  have hIn := hst.2.2.2.1
  have t1 : t ≤ 60000 := by omega
  have t2 : t + 100 ≤ 60000 := by omega
  have t3 : t + 1 ≤ 60000 := by omega
  show JX _ _ _ _ _ _ _ _ _ _ _ [_, _, _, _] _ _
  refine x_aload_n dL_law_1036 rfl ?_
  refine x_aload_n dL_law_1037 rfl ?_
  refine x_iload_n dL_law_1038 rfl ?_
  refine x_iconst dL_law_1039 ?_
  refine x_iadd dL_law_1040 ?_
  refine x_sld dL_law_1041 hb hL ⟨by omega, by omega⟩ ?_
  refine c_RL_129d dL_law_1042 rfl (kX7_count hB hst t1 gxi) bk (Nat.le_of_ble_eq_true rfl) (Nat.le_of_ble_eq_true rfl) (by show k1 ≤ 600000 ∧ k2 ≤ 7302250; omega) ?_
  refine x_aload_n dL_law_1045 rfl ?_
  refine x_aload_n dL_law_1046 rfl ?_
  refine x_iload_n dL_law_1047 rfl ?_
  refine x_iconst dL_law_1048 ?_
  refine x_iadd dL_law_1049 ?_
  refine x_sld dL_law_1050 hb hL ⟨by omega, by omega⟩ ?_
  refine c_RL_132d dL_law_1051 rfl (kX8_count hM hr hIn t1 gxi) mk (Nat.le_of_ble_eq_true rfl) (Nat.le_of_ble_eq_true rfl) (by show k1 ≤ 600000 ∧ k2 ≤ 7302250; omega) ?_
  rw [hq, hm.1, ← x1]
  refine x_ic_same (tgt := 1059) dL_law_1054 (by decide) ?_
  exact K.go ⟨_, _, _, _, hI.mono (by omega)⟩
