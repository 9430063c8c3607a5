/-! THE LAW: its small methods -/
def zCell (G : JG) (k : Int) : Int := if k < (gL G : Int) then (gX G k.toNat).toInt else 9130009 * k + 7901
theorem zCell_r {G : JG} {k : Int} (h0 : 0 ≤ k) (h1 : k ≤ 200) : i32 (zCell G k) := by
  unfold zCell
  split
  · exact gxi
  · constructor <;> omega
def lw (v n : Int) : Int := (v % 2147483648).tmod n
theorem lw_b {v n : Int} (h : 0 < n) : 0 ≤ lw v n ∧ lw v n < n := ⟨Int.tmod_nonneg _ (by omega), Int.tmod_lt_of_pos _ h⟩
def zSize (v : Int) : Int := if v < 0 then -v else v
theorem kL_cell_y {G : JG} {S : JS} {D : JD} {d : Nat} {k : Int} (hb : gb G < (gB G).size) (hL : gL G ≤ 260) (h0 : 0 ≤ k) (h1 : k ≤ 200) (hk : k < (gL G : Int)) : JM G yL_cell cL_cell 2 (some .int) d (0, 0) S D [.inr (.inr (some (gb G : Int))), .inl k] (jr (.inl (zCell G k)) S D) := by
  unfold zCell
  rw [if_pos hk]
  show JX _ _ _ _ _ _ _ _ _ _ _ [_, _] _ _
  refine x_iload_n dL_cell_0 rfl ?_
  refine x_aload_n dL_cell_1 rfl ?_
  refine x_slen dL_cell_2 hb ?_
  refine x_ic_ge (tgt := 12) dL_cell_3 (by decide) ⟨by omega, by omega⟩ ⟨by omega, by omega⟩ (fun h => absurd h (by omega)) (fun hb3 => ?_)
  refine x_aload_n dL_cell_6 rfl ?_
  refine x_iload_n dL_cell_7 rfl ?_
  refine x_sld dL_cell_8 hb (by omega) ⟨by omega, by omega⟩ ?_
  refine x_goto (tgt := 20) dL_cell_9 (by decide) ?_
  exact x_ireturn dL_cell_20 rfl rfl ⟨Nat.le_refl _, Nat.le_refl _⟩ ⟨rfl, rfl, rfl⟩
theorem kL_cell_n {G : JG} {S : JS} {D : JD} {d : Nat} {k : Int} (hb : gb G < (gB G).size) (hL : gL G ≤ 260) (h0 : 0 ≤ k) (h1 : k ≤ 200) (hk : ¬ k < (gL G : Int)) : JM G yL_cell cL_cell 2 (some .int) d (0, 0) S D [.inr (.inr (some (gb G : Int))), .inl k] (jr (.inl (zCell G k)) S D) := by
  unfold zCell
  rw [if_neg hk]
  show JX _ _ _ _ _ _ _ _ _ _ _ [_, _] _ _
  refine x_iload_n dL_cell_0 rfl ?_
  refine x_aload_n dL_cell_1 rfl ?_
  refine x_slen dL_cell_2 hb ?_
  refine x_ic_ge (tgt := 12) dL_cell_3 (by decide) ⟨by omega, by omega⟩ ⟨by omega, by omega⟩ (fun hb3 => ?_) (fun h => (h (by omega)).elim)
  refine x_ldc (e := 9130009) dL_cell_12 ct_RL_7 (by decide) ?_
  refine x_iload_n dL_cell_14 rfl ?_
  refine x_imul dL_cell_15 ?_
  refine x_sipush dL_cell_16 (by decide) ?_
  refine x_iadd dL_cell_19 ?_
  exact x_ireturn dL_cell_20 rfl rfl ⟨Nat.le_refl _, Nat.le_refl _⟩ ⟨rfl, rfl, rfl⟩
theorem kL_cell {G : JG} {S : JS} {D : JD} {d : Nat} {k : Int} (hb : gb G < (gB G).size) (hL : gL G ≤ 260) (h0 : 0 ≤ k) (h1 : k ≤ 200) : JM G yL_cell cL_cell 2 (some .int) d (0, 0) S D [.inr (.inr (some (gb G : Int))), .inl k] (jr (.inl (zCell G k)) S D) := by
  by_cases hk : k < (gL G : Int)
  · exact kL_cell_y hb hL h0 h1 hk
  · exact kL_cell_n hb hL h0 h1 hk
theorem kL_low {G : JG} {S : JS} {D : JD} {d : Nat} {v m : Int} (h0 : 0 < m) (h1 : i32 m) : JM G yL_low cL_low 2 (some .int) d (0, 0) S D [.inl v, .inl m] (jr (.inl (lw v m)) S D) := by
  show JX _ _ _ _ _ _ _ _ _ _ _ [_, _] _ _
  refine x_iload_n dL_low_0 rfl ?_
  refine x_ldc (e := 2147483647) dL_low_1 ct_RL_8 (by decide) ?_
  refine x_iandM dL_low_3 ?_
  refine x_iload_n dL_low_4 rfl ?_
  refine x_irem dL_low_5 ⟨by omega, by omega⟩ h1 h0 ?_
  exact x_ireturn dL_low_6 rfl rfl ⟨Nat.le_refl _, Nat.le_refl _⟩ ⟨rfl, rfl, rfl⟩
theorem kL_size_y {G : JG} {S : JS} {D : JD} {d : Nat} {v : Int} (rv : i32 v) (hv : v < 0) : JM G yL_size cL_size 1 (some .int) d (0, 0) S D [.inl v] (jr (.inl (zSize v)) S D) := by
  unfold zSize
  rw [if_pos hv]
  show JX _ _ _ _ _ _ _ _ _ _ _ [_] _ _
  refine x_iload_n dL_size_0 rfl ?_
  refine x_if_ge (tgt := 9) dL_size_1 (by decide) rv (fun h => absurd h (by omega)) (fun hb1 => ?_)
  refine x_iload_n dL_size_4 rfl ?_
  refine x_ineg dL_size_5 ?_
  refine x_goto (tgt := 10) dL_size_6 (by decide) ?_
  exact x_ireturn dL_size_10 rfl rfl ⟨Nat.le_refl _, Nat.le_refl _⟩ ⟨rfl, rfl, rfl⟩
theorem kL_size_n {G : JG} {S : JS} {D : JD} {d : Nat} {v : Int} (rv : i32 v) (hv : ¬ v < 0) : JM G yL_size cL_size 1 (some .int) d (0, 0) S D [.inl v] (jr (.inl (zSize v)) S D) := by
  unfold zSize
  rw [if_neg hv]
  show JX _ _ _ _ _ _ _ _ _ _ _ [_] _ _
  refine x_iload_n dL_size_0 rfl ?_
  refine x_if_ge (tgt := 9) dL_size_1 (by decide) rv (fun hb1 => ?_) (fun h => (h (by omega)).elim)
  refine x_iload_n dL_size_9 rfl ?_
  exact x_ireturn dL_size_10 rfl rfl ⟨Nat.le_refl _, Nat.le_refl _⟩ ⟨rfl, rfl, rfl⟩
theorem kL_size {G : JG} {S : JS} {D : JD} {d : Nat} {v : Int} (rv : i32 v) : JM G yL_size cL_size 1 (some .int) d (0, 0) S D [.inl v] (jr (.inl (zSize v)) S D) := by
  by_cases hv : v < 0
  · exact kL_size_y rv hv
  · exact kL_size_n rv hv
theorem kL_of_r {G : JG} {S : JS} {D : JD} {d : Nat} {X t n q : Int} {hs : Int → Int → Int} {r : Int → Int} {p e : Int} (hP : pSt S D X t n hs r q) (ht : t ≤ 60000) (hp : rPl r p) (re : i32 e) (h : p < 100) : JM G yL_of cL_of 3 (some .int) (d + 6) (0, 0) S D [.inr (.inr (some X)), .inl p, .inl e] (jr (.inl (tWat r p e)) S D) := by
  have hB := hP.1
  have bk := hB.1
  have hI := hP.2.1.2.2.2.1
  have b1 := hI.1
  have bp := hp
  unfold rPl at bp
  show JX _ _ _ _ _ _ _ _ _ _ _ [_, _, _] _ _
  have kp := kX7_reach (G := G) (d := d) hP.1 hP.2.1 ht (i := p) (e := e) ⟨by omega, by omega⟩ re
  rw [show zReach p e r = tWat r p e from by unfold zReach; rw [if_pos ⟨by omega, by omega⟩]] at kp
  refine x_iload_n dL_of_0 rfl ?_
  refine x_bipush dL_of_1 (by decide) ?_
  refine x_ic_ge (tgt := 15) dL_of_3 (by decide) ⟨by omega, by omega⟩ ⟨by omega, by omega⟩ (fun h => absurd h (by omega)) (fun hb3 => ?_)
  refine x_aload_n dL_of_6 rfl ?_
  refine x_iload_n dL_of_7 rfl ?_
  refine x_iload_n dL_of_8 rfl ?_
  refine c_RL_9d dL_of_9 rfl (kp) bk (Nat.le_of_ble_eq_true rfl) (Nat.le_of_ble_eq_true rfl) ⟨Nat.le_refl _, Nat.le_refl _⟩ ?_
  refine x_goto (tgt := 24) dL_of_12 (by decide) ?_
  exact x_ireturn dL_of_24 rfl rfl ⟨Nat.le_refl _, Nat.le_refl _⟩ ⟨rfl, rfl, rfl⟩
theorem kL_of_c {G : JG} {S : JS} {D : JD} {d : Nat} {X t n q : Int} {hs : Int → Int → Int} {r : Int → Int} {p e : Int} (hP : pSt S D X t n hs r q) (ht : t ≤ 60000) (hp : rPl r p) (re : i32 e) (he : 0 ≤ e ∧ e ≤ 5) (h : ¬ p < 100) : JM G yL_of cL_of 3 (some .int) (d + 6) (0, 0) S D [.inr (.inr (some X)), .inl p, .inl e] (jr (.inl (tWat r p e)) S D) := by
  have hB := hP.1
  have bk := hB.1
  have hI := hP.2.1.2.2.2.1
  have b1 := hI.1
  have bp := hp
  unfold rPl at bp
  show JX _ _ _ _ _ _ _ _ _ _ _ [_, _, _] _ _
  have kp := kX7_chamber (G := G) (d := d) hP.1 hP.2.1 ht (c := p - 100) (e := e) ⟨by omega, by omega⟩ re
  rw [show zChamber (p - 100) e r = tWat r p e from by
    unfold zChamber tCh
    rw [if_pos ⟨by omega, by omega⟩, if_neg (by omega), if_neg (by omega), if_neg (by omega), if_neg (by omega), if_neg (by omega), if_neg (by omega), if_neg (by omega), show 100 + (p - 100) = p by omega]] at kp
  refine x_iload_n dL_of_0 rfl ?_
  refine x_bipush dL_of_1 (by decide) ?_
  refine x_ic_ge (tgt := 15) dL_of_3 (by decide) ⟨by omega, by omega⟩ ⟨by omega, by omega⟩ (fun hb3 => ?_) (fun h => (h (by omega)).elim)
  refine x_aload_n dL_of_15 rfl ?_
  refine x_iload_n dL_of_16 rfl ?_
  refine x_bipush dL_of_17 (by decide) ?_
  refine x_isub dL_of_19 ?_
  refine x_iload_n dL_of_20 rfl ?_
  refine c_RL_15d dL_of_21 rfl (kp) bk (Nat.le_of_ble_eq_true rfl) (Nat.le_of_ble_eq_true rfl) ⟨Nat.le_refl _, Nat.le_refl _⟩ ?_
  exact x_ireturn dL_of_24 rfl rfl ⟨Nat.le_refl _, Nat.le_refl _⟩ ⟨rfl, rfl, rfl⟩
theorem kL_of {G : JG} {S : JS} {D : JD} {d : Nat} {X t n q : Int} {hs : Int → Int → Int} {r : Int → Int} {p e : Int} (hP : pSt S D X t n hs r q) (ht : t ≤ 60000) (hp : rPl r p) (he : 0 ≤ e ∧ e ≤ 5) : JM G yL_of cL_of 3 (some .int) (d + 6) (0, 0) S D [.inr (.inr (some X)), .inl p, .inl e] (jr (.inl (tWat r p e)) S D) := by
  by_cases h : p < 100
  · exact kL_of_r hP ht hp ⟨by omega, by omega⟩ h
  · exact kL_of_c hP ht hp ⟨by omega, by omega⟩ he h
theorem to_0 {G : JG} {S : JS} {D : JD} {d : Nat} {X t n q : Int} {hs : Int → Int → Int} {r : Int → Int} {p : Int} (hP : pSt S D X t n hs r q) (ht : t ≤ 60000) (hp : rPl r p) : JM G yL_of cL_of 3 (some .int) (d + 6) (0, 0) S D [.inr (.inr (some X)), .inl p, .inl 0] (jr (.inl (sLv r p)) S D) := kL_of hP ht hp ⟨by decide, by decide⟩
theorem to_1 {G : JG} {S : JS} {D : JD} {d : Nat} {X t n q : Int} {hs : Int → Int → Int} {r : Int → Int} {p : Int} (hP : pSt S D X t n hs r q) (ht : t ≤ 60000) (hp : rPl r p) : JM G yL_of cL_of 3 (some .int) (d + 6) (0, 0) S D [.inr (.inr (some X)), .inl p, .inl 1] (jr (.inl (r (wA p + 2))) S D) := kL_of hP ht hp ⟨by decide, by decide⟩
theorem to_2 {G : JG} {S : JS} {D : JD} {d : Nat} {X t n q : Int} {hs : Int → Int → Int} {r : Int → Int} {p : Int} (hP : pSt S D X t n hs r q) (ht : t ≤ 60000) (hp : rPl r p) : JM G yL_of cL_of 3 (some .int) (d + 6) (0, 0) S D [.inr (.inr (some X)), .inl p, .inl 2] (jr (.inl (sFl r p)) S D) := kL_of hP ht hp ⟨by decide, by decide⟩
theorem to_3 {G : JG} {S : JS} {D : JD} {d : Nat} {X t n q : Int} {hs : Int → Int → Int} {r : Int → Int} {p : Int} (hP : pSt S D X t n hs r q) (ht : t ≤ 60000) (hp : rPl r p) : JM G yL_of cL_of 3 (some .int) (d + 6) (0, 0) S D [.inr (.inr (some X)), .inl p, .inl 3] (jr (.inl (sCn r p)) S D) := kL_of hP ht hp ⟨by decide, by decide⟩
theorem to_4 {G : JG} {S : JS} {D : JD} {d : Nat} {X t n q : Int} {hs : Int → Int → Int} {r : Int → Int} {p : Int} (hP : pSt S D X t n hs r q) (ht : t ≤ 60000) (hp : rPl r p) : JM G yL_of cL_of 3 (some .int) (d + 6) (0, 0) S D [.inr (.inr (some X)), .inl p, .inl 4] (jr (.inl (r (wA p))) S D) := kL_of hP ht hp ⟨by decide, by decide⟩
theorem to_5 {G : JG} {S : JS} {D : JD} {d : Nat} {X t n q : Int} {hs : Int → Int → Int} {r : Int → Int} {p : Int} (hP : pSt S D X t n hs r q) (ht : t ≤ 60000) (hp : rPl r p) : JM G yL_of cL_of 3 (some .int) (d + 6) (0, 0) S D [.inr (.inr (some X)), .inl p, .inl 5] (jr (.inl (r (wA p + 1))) S D) := kL_of hP ht hp ⟨by decide, by decide⟩
