/-! CHAMBERS -/
/-- a chamber at c: its water, sills and row lie behind it -/
def jCh (S : JS) (c : Int) : Prop := jK S c = 1 ∧ jR S c 0 = some (c + 1) ∧ jR S c 1 = some (c + 2) ∧ jR S c 2 = some (c + 3) ∧ jR S c 3 = some (c + 4) ∧ jK S (c + 1) = 6 ∧ jK S (c + 2) = 5 ∧ jK S (c + 3) = 5 ∧ jK S (c + 4) = 9 ∧ jL S (c + 4) = 12
def dC (D : JD) (c a l f : Int) : JD := jup (jup (jup (jup (dS0 (dS0 (dW D (c + 1) a f 0) (c + 2)) (c + 3)) c 4 0) c 5 l) c 6 l) c 7 (-1)
theorem kX1_begin {G : JG} {S : JS} {D : JD} {d : Nat} {c a l f : Int} (hC : jCh S c) (ra : i32 a) (rl : i32 l) (rf : i32 f) : JM G yX1_begin cX1_begin 4 none (d + 1) (0, 0) S D [.inr (.inr (some c)), .inl a, .inl l, .inl f] (jn S (dC D c a l f)) := by
  obtain ⟨hc, hw, hl, hu, hr, hwk, hlk, huk, hrk, hrL⟩ := hC
  show JX _ _ _ _ _ _ _ _ _ _ _ [_, _, _, _] _ _
  refine x_aload_n dX1_begin_0 rfl ?_
  refine gf_RX1_12 dX1_begin_1 rfl (by assumption) ?_
  rw [hw]
  refine x_iload_n dX1_begin_4 rfl ?_
  refine x_iload_n dX1_begin_5 rfl ?_
  refine x_iconst dX1_begin_6 ?_
  refine c_RX1_36d dX1_begin_7 rfl (kX6_begin hwk ra rf ⟨by omega, by omega⟩) (by assumption) (Nat.le_of_ble_eq_true rfl) (Nat.le_of_ble_eq_true rfl) ⟨Nat.le_refl _, Nat.le_refl _⟩ ?_
  refine x_aload_n dX1_begin_10 rfl ?_
  refine gf_RX1_21 dX1_begin_11 rfl (by assumption) ?_
  rw [hl]
  refine c_RX1_37d dX1_begin_14 rfl (kX5_begin (by assumption)) (by assumption) (Nat.le_of_ble_eq_true rfl) (Nat.le_of_ble_eq_true rfl) ⟨Nat.le_refl _, Nat.le_refl _⟩ ?_
  refine x_aload_n dX1_begin_17 rfl ?_
  refine gf_RX1_25 dX1_begin_18 rfl (by assumption) ?_
  rw [hu]
  refine c_RX1_37d dX1_begin_21 rfl (kX5_begin (by assumption)) (by assumption) (Nat.le_of_ble_eq_true rfl) (Nat.le_of_ble_eq_true rfl) ⟨Nat.le_refl _, Nat.le_refl _⟩ ?_
  refine x_aload_n dX1_begin_24 rfl ?_
  refine x_iconst dX1_begin_25 ?_
  refine pf_RX1_39 dX1_begin_26 rfl (by assumption) ?_
  refine x_aload_n dX1_begin_29 rfl ?_
  refine x_iload_n dX1_begin_30 rfl ?_
  refine pf_RX1_43 dX1_begin_31 rfl (by assumption) ?_
  refine x_aload_n dX1_begin_34 rfl ?_
  refine x_iload_n dX1_begin_35 rfl ?_
  refine pf_RX1_46 dX1_begin_36 rfl (by assumption) ?_
  refine x_aload_n dX1_begin_39 rfl ?_
  refine x_iconst dX1_begin_40 ?_
  refine pf_RX1_49 dX1_begin_41 rfl (by assumption) ?_
  exact x_return dX1_begin_44 rfl ⟨Nat.le_refl _, Nat.le_refl _⟩ ⟨rfl, rfl, rfl⟩
theorem kX1_sillOf_0 {G : JG} {S : JS} {D : JD} {d : Nat} {c : Int} (hC : jCh S c) : JM G yX1_sillOf cX1_sillOf 2 (some (.object "BargeLocks$Sill")) d (0, 0) S D [.inr (.inr (some c)), .inl 0] (jr (.inr (.inr (some (c + 2)))) S D) := by
  obtain ⟨hc, hw, hl, hu, hr, hwk, hlk, huk, hrk, hrL⟩ := hC
  show JX _ _ _ _ _ _ _ _ _ _ _ [_, _] _ _
  refine x_iload_n dX1_sillOf_0 rfl ?_
  refine x_if_ne (tgt := 9) dX1_sillOf_1 (by decide) ⟨by omega, by omega⟩ (fun h => absurd h (by omega)) (fun hb1 => ?_)
  refine x_aload_n dX1_sillOf_4 rfl ?_
  refine gf_RX1_21 dX1_sillOf_5 rfl (by assumption) ?_
  rw [hl]
  exact x_areturn dX1_sillOf_8 rfl (Or.inl ⟨_, rfl⟩) ⟨Nat.le_refl _, Nat.le_refl _⟩ ⟨rfl, rfl, rfl⟩
theorem kX1_sillOf_1 {G : JG} {S : JS} {D : JD} {d : Nat} {c : Int} (hC : jCh S c) : JM G yX1_sillOf cX1_sillOf 2 (some (.object "BargeLocks$Sill")) d (0, 0) S D [.inr (.inr (some c)), .inl 1] (jr (.inr (.inr (some (c + 3)))) S D) := by
  obtain ⟨hc, hw, hl, hu, hr, hwk, hlk, huk, hrk, hrL⟩ := hC
  show JX _ _ _ _ _ _ _ _ _ _ _ [_, _] _ _
  refine x_iload_n dX1_sillOf_0 rfl ?_
  refine x_if_ne (tgt := 9) dX1_sillOf_1 (by decide) ⟨by omega, by omega⟩ (fun hb1 => ?_) (fun h => (h (by omega)).elim)
  refine x_iload_n dX1_sillOf_9 rfl ?_
  refine x_iconst dX1_sillOf_10 ?_
  refine x_ic_ne (tgt := 21) dX1_sillOf_11 (by decide) ⟨by omega, by omega⟩ ⟨by omega, by omega⟩ (fun h => absurd h (by omega)) (fun hb11 => ?_)
  refine x_aload_n dX1_sillOf_14 rfl ?_
  refine gf_RX1_25 dX1_sillOf_15 rfl (by assumption) ?_
  rw [hu]
  refine x_goto (tgt := 22) dX1_sillOf_18 (by decide) ?_
  exact x_areturn dX1_sillOf_22 rfl (Or.inl ⟨_, rfl⟩) ⟨Nat.le_refl _, Nat.le_refl _⟩ ⟨rfl, rfl, rfl⟩
theorem kX1_sillOf_n {G : JG} {S : JS} {D : JD} {d : Nat} {c g : Int} (hC : jCh S c) (rg : i32 g) (hg : g ≠ 0 ∧ g ≠ 1) : JM G yX1_sillOf cX1_sillOf 2 (some (.object "BargeLocks$Sill")) d (0, 0) S D [.inr (.inr (some c)), .inl g] (jr (.inr (.inr none)) S D) := by
  obtain ⟨hc, hw, hl, hu, hr, hwk, hlk, huk, hrk, hrL⟩ := hC
  show JX _ _ _ _ _ _ _ _ _ _ _ [_, _] _ _
  refine x_iload_n dX1_sillOf_0 rfl ?_
  refine x_if_ne (tgt := 9) dX1_sillOf_1 (by decide) rg (fun hb1 => ?_) (fun h => (h (by omega)).elim)
  refine x_iload_n dX1_sillOf_9 rfl ?_
  refine x_iconst dX1_sillOf_10 ?_
  refine x_ic_ne (tgt := 21) dX1_sillOf_11 (by decide) rg ⟨by omega, by omega⟩ (fun hb11 => ?_) (fun h => (h (by omega)).elim)
  refine x_null dX1_sillOf_21 ?_
  exact x_areturn dX1_sillOf_22 rfl (Or.inl ⟨_, rfl⟩) ⟨Nat.le_refl _, Nat.le_refl _⟩ ⟨rfl, rfl, rfl⟩
theorem kX1_sillOf {G : JG} {S : JS} {D : JD} {d : Nat} {c g : Int} (hC : jCh S c) (rg : i32 g) : JM G yX1_sillOf cX1_sillOf 2 (some (.object "BargeLocks$Sill")) d (0, 0) S D [.inr (.inr (some c)), .inl g] (jr (.inr (.inr (if g = 0 then some (c + 2) else if g = 1 then some (c + 3) else none))) S D) := by
  by_cases h0 : g = 0
  · subst h0; exact kX1_sillOf_0 hC
  · by_cases h1 : g = 1
    · subst h1; exact kX1_sillOf_1 hC
    · rw [if_neg h0, if_neg h1]; exact kX1_sillOf_n hC rg ⟨h0, h1⟩
theorem kX1_bargeIn_y {G : JG} {S : JS} {D : JD} {d : Nat} {c k : Int} (hC : jCh S c) (h0 : 0 ≤ k) (h1 : k < D c 4) (h2 : D c 4 ≤ 12) : JM G yX1_bargeIn cX1_bargeIn 2 (some .int) d (0, 0) S D [.inr (.inr (some c)), .inl k] (jr (.inl (D (c + 4) k)) S D) := by
  obtain ⟨hc, hw, hl, hu, hr, hwk, hlk, huk, hrk, hrL⟩ := hC
  show JX _ _ _ _ _ _ _ _ _ _ _ [_, _] _ _
  refine x_iload_n dX1_bargeIn_0 rfl ?_
  refine x_if_lt (tgt := 30) dX1_bargeIn_1 (by decide) ⟨by omega, by omega⟩ (fun h => absurd h (by omega)) (fun hb1 => ?_)
  refine x_iload_n dX1_bargeIn_4 rfl ?_
  refine x_aload_n dX1_bargeIn_5 rfl ?_
  refine gf_RX1_39 dX1_bargeIn_6 rfl (by assumption) ?_
  refine x_ic_ge (tgt := 30) dX1_bargeIn_9 (by decide) ⟨by omega, by omega⟩ ⟨by omega, by omega⟩ (fun h => absurd h (by omega)) (fun hb9 => ?_)
  refine x_iload_n dX1_bargeIn_12 rfl ?_
  refine x_aload_n dX1_bargeIn_13 rfl ?_
  refine gf_RX1_28 dX1_bargeIn_14 rfl (by assumption) ?_
  rw [hr]
  refine x_alen (c := 9) dX1_bargeIn_17 (by decide) (by assumption) ?_
  refine x_ic_ge (tgt := 30) dX1_bargeIn_18 (by decide) ⟨by omega, by omega⟩ ⟨by omega, by omega⟩ (fun h => absurd h (by omega)) (fun hb18 => ?_)
  refine x_aload_n dX1_bargeIn_21 rfl ?_
  refine gf_RX1_28 dX1_bargeIn_22 rfl (by assumption) ?_
  rw [hr]
  refine x_iload_n dX1_bargeIn_25 rfl ?_
  refine x_iald dX1_bargeIn_26 (by assumption) ⟨by omega, by omega⟩ ?_
  refine x_goto (tgt := 31) dX1_bargeIn_27 (by decide) ?_
  exact x_ireturn dX1_bargeIn_31 rfl rfl ⟨Nat.le_refl _, Nat.le_refl _⟩ ⟨rfl, rfl, rfl⟩
theorem kX1_bargeIn_n {G : JG} {S : JS} {D : JD} {d : Nat} {c k : Int} (hC : jCh S c) (rk : i32 k) (h1 : k < 0 ∨ D c 4 ≤ k) (h2 : 0 ≤ D c 4 ∧ D c 4 ≤ 12) : JM G yX1_bargeIn cX1_bargeIn 2 (some .int) d (0, 0) S D [.inr (.inr (some c)), .inl k] (jr (.inl (-1)) S D) := by
  obtain ⟨hc, hw, hl, hu, hr, hwk, hlk, huk, hrk, hrL⟩ := hC
  show JX _ _ _ _ _ _ _ _ _ _ _ [_, _] _ _
  refine x_iload_n dX1_bargeIn_0 rfl ?_
  refine x_if_lt (tgt := 30) dX1_bargeIn_1 (by decide) rk (fun hb1 => ?_) (fun hb1 => ?_)
  · refine x_iconst dX1_bargeIn_30 ?_
    exact x_ireturn dX1_bargeIn_31 rfl rfl ⟨Nat.le_refl _, Nat.le_refl _⟩ ⟨rfl, rfl, rfl⟩
  · refine x_iload_n dX1_bargeIn_4 rfl ?_
    refine x_aload_n dX1_bargeIn_5 rfl ?_
    refine gf_RX1_39 dX1_bargeIn_6 rfl (by assumption) ?_
    refine x_ic_ge (tgt := 30) dX1_bargeIn_9 (by decide) rk ⟨by omega, by omega⟩ (fun hb9 => ?_) (fun h => (h (by omega)).elim)
    refine x_iconst dX1_bargeIn_30 ?_
    exact x_ireturn dX1_bargeIn_31 rfl rfl ⟨Nat.le_refl _, Nat.le_refl _⟩ ⟨rfl, rfl, rfl⟩
theorem kX1_bargeIn {G : JG} {S : JS} {D : JD} {d : Nat} {c k : Int} (hC : jCh S c) (rk : i32 k) (h2 : 0 ≤ D c 4 ∧ D c 4 ≤ 12) : JM G yX1_bargeIn cX1_bargeIn 2 (some .int) d (0, 0) S D [.inr (.inr (some c)), .inl k] (jr (.inl (if 0 ≤ k ∧ k < D c 4 then D (c + 4) k else -1)) S D) := by
  by_cases h : 0 ≤ k ∧ k < D c 4
  · rw [if_pos h]; exact kX1_bargeIn_y hC h.1 h.2 h2.2
  · rw [if_neg h]; exact kX1_bargeIn_n hC rk (by omega) h2
theorem kX1_bargeNextTo_0 {G : JG} {S : JS} {D : JD} {d : Nat} {c : Int} (hC : jCh S c) (h2 : 0 ≤ D c 4 ∧ D c 4 ≤ 12) : JM G yX1_bargeNextTo cX1_bargeNextTo 2 (some .int) (d + 1) (0, 0) S D [.inr (.inr (some c)), .inl 0] (jr (.inl (if 0 < D c 4 then D (c + 4) 0 else -1)) S D) := by
  have hc := hC.1
  show JX _ _ _ _ _ _ _ _ _ _ _ [_, _] _ _
  refine x_aload_n dX1_bargeNextTo_0 rfl ?_
  refine x_iload_n dX1_bargeNextTo_1 rfl ?_
  refine x_if_ne (tgt := 9) dX1_bargeNextTo_2 (by decide) ⟨by omega, by omega⟩ (fun h => absurd h (by omega)) (fun hb2 => ?_)
  refine x_iconst dX1_bargeNextTo_5 ?_
  refine x_goto (tgt := 15) dX1_bargeNextTo_6 (by decide) ?_
  refine c_RX1_52d dX1_bargeNextTo_15 rfl (kX1_bargeIn hC ⟨by omega, by omega⟩ h2) (by assumption) (Nat.le_of_ble_eq_true rfl) (Nat.le_of_ble_eq_true rfl) ⟨Nat.le_refl _, Nat.le_refl _⟩ ?_
  exact x_ireturn dX1_bargeNextTo_18 rfl rfl ⟨Nat.le_refl _, Nat.le_refl _⟩ ⟨by congr 2; omega, rfl, rfl⟩
theorem kX1_bargeNextTo_1 {G : JG} {S : JS} {D : JD} {d : Nat} {c : Int} (hC : jCh S c) (h2 : 0 ≤ D c 4 ∧ D c 4 ≤ 12) : JM G yX1_bargeNextTo cX1_bargeNextTo 2 (some .int) (d + 1) (0, 0) S D [.inr (.inr (some c)), .inl 1] (jr (.inl (if 0 < D c 4 then D (c + 4) (D c 4 - 1) else -1)) S D) := by
  have hc := hC.1
  show JX _ _ _ _ _ _ _ _ _ _ _ [_, _] _ _
  refine x_aload_n dX1_bargeNextTo_0 rfl ?_
  refine x_iload_n dX1_bargeNextTo_1 rfl ?_
  refine x_if_ne (tgt := 9) dX1_bargeNextTo_2 (by decide) ⟨by omega, by omega⟩ (fun hb2 => ?_) (fun h => (h (by omega)).elim)
  refine x_aload_n dX1_bargeNextTo_9 rfl ?_
  refine gf_RX1_39 dX1_bargeNextTo_10 rfl (by assumption) ?_
  refine x_iconst dX1_bargeNextTo_13 ?_
  refine x_isub dX1_bargeNextTo_14 ?_
  refine c_RX1_52d dX1_bargeNextTo_15 rfl (kX1_bargeIn hC ⟨by omega, by omega⟩ h2) (by assumption) (Nat.le_of_ble_eq_true rfl) (Nat.le_of_ble_eq_true rfl) ⟨Nat.le_refl _, Nat.le_refl _⟩ ?_
  exact x_ireturn dX1_bargeNextTo_18 rfl rfl ⟨Nat.le_refl _, Nat.le_refl _⟩ ⟨by congr 2; omega, rfl, rfl⟩
def dIn (D : JD) (c b l g : Int) : JD :=
  let D1 := if g = 0 then jup (jcp D (c + 4) 0 (c + 4) 1 (D c 4)) (c + 4) 0 b else jup D (c + 4) (D c 4) b
  jup (jup D1 c 4 (D c 4 + 1)) c 6 (D c 6 - l)
theorem jcp_ne {D : JD} {a0 sp a dp n x z : Int} (h : x ≠ a) : jcp D a0 sp a dp n x z = D x z := by simp [jcp, h]
theorem kX1_takeIn_0 {G : JG} {S : JS} {D : JD} {d : Nat} {c b l : Int} (hC : jCh S c) (h2 : 0 ≤ D c 4 ∧ D c 4 < 12) : JM G yX1_takeIn cX1_takeIn 5 none (d + 1) (0, 0) S D [.inr (.inr (some c)), .inl b, .inl l, .inl 0] (jn S (dIn D c b l 0)) := by
  obtain ⟨hc, hw, hl, hu, hr, hwk, hlk, huk, hrk, hrL⟩ := hC
  show JX _ _ _ _ _ _ _ _ _ _ _ [_, _, _, _, _] _ _
  refine x_aload_n dX1_takeIn_0 rfl ?_
  refine gf_RX1_39 dX1_takeIn_1 rfl (by assumption) ?_
  refine x_if_lt (tgt := 19) dX1_takeIn_4 (by decide) ⟨by omega, by omega⟩ (fun h => absurd h (by omega)) (fun hb4 => ?_)
  refine x_aload_n dX1_takeIn_7 rfl ?_
  refine gf_RX1_39 dX1_takeIn_8 rfl (by assumption) ?_
  refine x_aload_n dX1_takeIn_11 rfl ?_
  refine gf_RX1_28 dX1_takeIn_12 rfl (by assumption) ?_
  rw [hr]
  refine x_alen (c := 9) dX1_takeIn_15 (by decide) (by assumption) ?_
  refine x_ic_lt (tgt := 20) dX1_takeIn_16 (by decide) ⟨by omega, by omega⟩ ⟨by omega, by omega⟩ (fun hb16 => ?_) (fun h => (h (by omega)).elim)
  refine x_aload_n dX1_takeIn_20 rfl ?_
  refine gf_RX1_39 dX1_takeIn_21 rfl (by assumption) ?_
  refine x_istore dX1_takeIn_24 (by decide) ?_
  show JX _ _ _ _ _ _ _ _ _ _ _ [_, _, _, _, _] _ _
  refine x_iload_n dX1_takeIn_26 rfl ?_
  refine x_if_ne (tgt := 50) dX1_takeIn_27 (by decide) ⟨by omega, by omega⟩ (fun h => absurd h (by omega)) (fun hb27 => ?_)
  refine x_aload_n dX1_takeIn_30 rfl ?_
  refine gf_RX1_28 dX1_takeIn_31 rfl (by assumption) ?_
  rw [hr]
  refine x_iconst dX1_takeIn_34 ?_
  refine x_aload_n dX1_takeIn_35 rfl ?_
  refine gf_RX1_28 dX1_takeIn_36 rfl (by assumption) ?_
  rw [hr]
  refine x_iconst dX1_takeIn_39 ?_
  refine x_aload_n dX1_takeIn_40 rfl ?_
  refine gf_RX1_39 dX1_takeIn_41 rfl (by assumption) ?_
  refine x_acopy dX1_takeIn_44 ml_RX1_56 (by omega) rfl (by assumption) hrk ⟨by omega, by omega, by omega, by omega, by omega⟩ ?_
  refine x_iconst dX1_takeIn_47 ?_
  refine x_istore dX1_takeIn_48 (by decide) ?_
  show JX _ _ _ _ _ _ _ _ _ _ _ [_, _, _, _, _] _ _
  refine x_aload_n dX1_takeIn_50 rfl ?_
  refine gf_RX1_28 dX1_takeIn_51 rfl (by assumption) ?_
  rw [hr]
  refine x_iload dX1_takeIn_54 rfl ?_
  refine x_iload_n dX1_takeIn_56 rfl ?_
  refine x_iast dX1_takeIn_57 (by assumption) ⟨by omega, by omega⟩ ?_
  refine x_aload_n dX1_takeIn_58 rfl ?_
  refine x_dup dX1_takeIn_59 (fun _ h => by cases h) ?_
  refine gf_RX1_39 dX1_takeIn_60 rfl (by assumption) ?_
  refine x_iconst dX1_takeIn_63 ?_
  refine x_iadd dX1_takeIn_64 ?_
  refine pf_RX1_39 dX1_takeIn_65 rfl (by assumption) ?_
  refine x_aload_n dX1_takeIn_68 rfl ?_
  refine x_dup dX1_takeIn_69 (fun _ h => by cases h) ?_
  refine gf_RX1_46 dX1_takeIn_70 rfl (by assumption) ?_
  refine x_iload_n dX1_takeIn_73 rfl ?_
  refine x_isub dX1_takeIn_74 ?_
  refine pf_RX1_46 dX1_takeIn_75 rfl (by assumption) ?_
  exact x_return dX1_takeIn_78 rfl ⟨Nat.le_refl _, Nat.le_refl _⟩ ⟨rfl, rfl, by simp only [dIn, if_true, if_neg (show ¬ (1 : Int) = 0 by decide), jup_eq, jup_nk (show (6 : Int) ≠ 4 by decide), jup_ne (show c ≠ c + 4 by omega), jcp_ne (show c ≠ c + 4 by omega)]⟩
theorem kX1_takeIn_1 {G : JG} {S : JS} {D : JD} {d : Nat} {c b l : Int} (hC : jCh S c) (h2 : 0 ≤ D c 4 ∧ D c 4 < 12) : JM G yX1_takeIn cX1_takeIn 5 none (d + 1) (0, 0) S D [.inr (.inr (some c)), .inl b, .inl l, .inl 1] (jn S (dIn D c b l 1)) := by
  obtain ⟨hc, hw, hl, hu, hr, hwk, hlk, huk, hrk, hrL⟩ := hC
  show JX _ _ _ _ _ _ _ _ _ _ _ [_, _, _, _, _] _ _
  refine x_aload_n dX1_takeIn_0 rfl ?_
  refine gf_RX1_39 dX1_takeIn_1 rfl (by assumption) ?_
  refine x_if_lt (tgt := 19) dX1_takeIn_4 (by decide) ⟨by omega, by omega⟩ (fun h => absurd h (by omega)) (fun hb4 => ?_)
  refine x_aload_n dX1_takeIn_7 rfl ?_
  refine gf_RX1_39 dX1_takeIn_8 rfl (by assumption) ?_
  refine x_aload_n dX1_takeIn_11 rfl ?_
  refine gf_RX1_28 dX1_takeIn_12 rfl (by assumption) ?_
  rw [hr]
  refine x_alen (c := 9) dX1_takeIn_15 (by decide) (by assumption) ?_
  refine x_ic_lt (tgt := 20) dX1_takeIn_16 (by decide) ⟨by omega, by omega⟩ ⟨by omega, by omega⟩ (fun hb16 => ?_) (fun h => (h (by omega)).elim)
  refine x_aload_n dX1_takeIn_20 rfl ?_
  refine gf_RX1_39 dX1_takeIn_21 rfl (by assumption) ?_
  refine x_istore dX1_takeIn_24 (by decide) ?_
  show JX _ _ _ _ _ _ _ _ _ _ _ [_, _, _, _, _] _ _
  refine x_iload_n dX1_takeIn_26 rfl ?_
  refine x_if_ne (tgt := 50) dX1_takeIn_27 (by decide) ⟨by omega, by omega⟩ (fun hb27 => ?_) (fun h => (h (by omega)).elim)
  refine x_aload_n dX1_takeIn_50 rfl ?_
  refine gf_RX1_28 dX1_takeIn_51 rfl (by assumption) ?_
  rw [hr]
  refine x_iload dX1_takeIn_54 rfl ?_
  refine x_iload_n dX1_takeIn_56 rfl ?_
  refine x_iast dX1_takeIn_57 (by assumption) ⟨by omega, by omega⟩ ?_
  refine x_aload_n dX1_takeIn_58 rfl ?_
  refine x_dup dX1_takeIn_59 (fun _ h => by cases h) ?_
  refine gf_RX1_39 dX1_takeIn_60 rfl (by assumption) ?_
  refine x_iconst dX1_takeIn_63 ?_
  refine x_iadd dX1_takeIn_64 ?_
  refine pf_RX1_39 dX1_takeIn_65 rfl (by assumption) ?_
  refine x_aload_n dX1_takeIn_68 rfl ?_
  refine x_dup dX1_takeIn_69 (fun _ h => by cases h) ?_
  refine gf_RX1_46 dX1_takeIn_70 rfl (by assumption) ?_
  refine x_iload_n dX1_takeIn_73 rfl ?_
  refine x_isub dX1_takeIn_74 ?_
  refine pf_RX1_46 dX1_takeIn_75 rfl (by assumption) ?_
  exact x_return dX1_takeIn_78 rfl ⟨Nat.le_refl _, Nat.le_refl _⟩ ⟨rfl, rfl, by simp only [dIn, if_true, if_neg (show ¬ (1 : Int) = 0 by decide), jup_eq, jup_nk (show (6 : Int) ≠ 4 by decide), jup_ne (show c ≠ c + 4 by omega), jcp_ne (show c ≠ c + 4 by omega)]⟩
def dOut (D : JD) (c l g : Int) : JD :=
  let D1 := jup (jup D c 4 (D c 4 - 1)) c 6 (D c 6 + l)
  if g = 0 then jcp D1 (c + 4) 1 (c + 4) 0 (D c 4 - 1) else D1
theorem kX1_letOut_0 {G : JG} {S : JS} {D : JD} {d : Nat} {c l : Int} (hC : jCh S c) (h2 : 0 < D c 4 ∧ D c 4 ≤ 12) : JM G yX1_letOut cX1_letOut 3 none (d + 1) (0, 0) S D [.inr (.inr (some c)), .inl l, .inl 0] (jn S (dOut D c l 0)) := by
  obtain ⟨hc, hw, hl, hu, hr, hwk, hlk, huk, hrk, hrL⟩ := hC
  show JX _ _ _ _ _ _ _ _ _ _ _ [_, _, _] _ _
  refine x_aload_n dX1_letOut_0 rfl ?_
  refine gf_RX1_39 dX1_letOut_1 rfl (by assumption) ?_
  refine x_iconst dX1_letOut_4 ?_
  refine x_ic_lt (tgt := 20) dX1_letOut_5 (by decide) ⟨by omega, by omega⟩ ⟨by omega, by omega⟩ (fun h => absurd h (by omega)) (fun hb5 => ?_)
  refine x_aload_n dX1_letOut_8 rfl ?_
  refine gf_RX1_39 dX1_letOut_9 rfl (by assumption) ?_
  refine x_aload_n dX1_letOut_12 rfl ?_
  refine gf_RX1_28 dX1_letOut_13 rfl (by assumption) ?_
  rw [hr]
  refine x_alen (c := 9) dX1_letOut_16 (by decide) (by assumption) ?_
  refine x_ic_le (tgt := 21) dX1_letOut_17 (by decide) ⟨by omega, by omega⟩ ⟨by omega, by omega⟩ (fun hb17 => ?_) (fun h => (h (by omega)).elim)
  refine x_aload_n dX1_letOut_21 rfl ?_
  refine x_dup dX1_letOut_22 (fun _ h => by cases h) ?_
  refine gf_RX1_39 dX1_letOut_23 rfl (by assumption) ?_
  refine x_iconst dX1_letOut_26 ?_
  refine x_isub dX1_letOut_27 ?_
  refine pf_RX1_39 dX1_letOut_28 rfl (by assumption) ?_
  refine x_aload_n dX1_letOut_31 rfl ?_
  refine x_dup dX1_letOut_32 (fun _ h => by cases h) ?_
  refine gf_RX1_46 dX1_letOut_33 rfl (by assumption) ?_
  refine x_iload_n dX1_letOut_36 rfl ?_
  refine x_iadd dX1_letOut_37 ?_
  refine pf_RX1_46 dX1_letOut_38 rfl (by assumption) ?_
  refine x_iload_n dX1_letOut_41 rfl ?_
  refine x_if_ne (tgt := 62) dX1_letOut_42 (by decide) ⟨by omega, by omega⟩ (fun h => absurd h (by omega)) (fun hb42 => ?_)
  refine x_aload_n dX1_letOut_45 rfl ?_
  refine gf_RX1_28 dX1_letOut_46 rfl (by assumption) ?_
  rw [hr]
  refine x_iconst dX1_letOut_49 ?_
  refine x_aload_n dX1_letOut_50 rfl ?_
  refine gf_RX1_28 dX1_letOut_51 rfl (by assumption) ?_
  rw [hr]
  refine x_iconst dX1_letOut_54 ?_
  refine x_aload_n dX1_letOut_55 rfl ?_
  refine gf_RX1_39 dX1_letOut_56 rfl (by assumption) ?_
  rw [jup_nk (show (4 : Int) ≠ 6 by decide), jup_eq, jup_nk (show (6 : Int) ≠ 4 by decide)]
  refine x_acopy dX1_letOut_59 ml_RX1_56 (by omega) rfl (by assumption) hrk ⟨by omega, by omega, by omega, by omega, by omega⟩ ?_
  exact x_return dX1_letOut_62 rfl ⟨Nat.le_refl _, Nat.le_refl _⟩ ⟨rfl, rfl, by simp only [dOut, if_true, if_neg (show ¬ (1 : Int) = 0 by decide), jup_eq, jup_nk (show (6 : Int) ≠ 4 by decide), jup_nk (show (4 : Int) ≠ 6 by decide)]⟩
theorem kX1_letOut_1 {G : JG} {S : JS} {D : JD} {d : Nat} {c l : Int} (hC : jCh S c) (h2 : 0 < D c 4 ∧ D c 4 ≤ 12) : JM G yX1_letOut cX1_letOut 3 none (d + 1) (0, 0) S D [.inr (.inr (some c)), .inl l, .inl 1] (jn S (dOut D c l 1)) := by
  obtain ⟨hc, hw, hl, hu, hr, hwk, hlk, huk, hrk, hrL⟩ := hC
  show JX _ _ _ _ _ _ _ _ _ _ _ [_, _, _] _ _
  refine x_aload_n dX1_letOut_0 rfl ?_
  refine gf_RX1_39 dX1_letOut_1 rfl (by assumption) ?_
  refine x_iconst dX1_letOut_4 ?_
  refine x_ic_lt (tgt := 20) dX1_letOut_5 (by decide) ⟨by omega, by omega⟩ ⟨by omega, by omega⟩ (fun h => absurd h (by omega)) (fun hb5 => ?_)
  refine x_aload_n dX1_letOut_8 rfl ?_
  refine gf_RX1_39 dX1_letOut_9 rfl (by assumption) ?_
  refine x_aload_n dX1_letOut_12 rfl ?_
  refine gf_RX1_28 dX1_letOut_13 rfl (by assumption) ?_
  rw [hr]
  refine x_alen (c := 9) dX1_letOut_16 (by decide) (by assumption) ?_
  refine x_ic_le (tgt := 21) dX1_letOut_17 (by decide) ⟨by omega, by omega⟩ ⟨by omega, by omega⟩ (fun hb17 => ?_) (fun h => (h (by omega)).elim)
  refine x_aload_n dX1_letOut_21 rfl ?_
  refine x_dup dX1_letOut_22 (fun _ h => by cases h) ?_
  refine gf_RX1_39 dX1_letOut_23 rfl (by assumption) ?_
  refine x_iconst dX1_letOut_26 ?_
  refine x_isub dX1_letOut_27 ?_
  refine pf_RX1_39 dX1_letOut_28 rfl (by assumption) ?_
  refine x_aload_n dX1_letOut_31 rfl ?_
  refine x_dup dX1_letOut_32 (fun _ h => by cases h) ?_
  refine gf_RX1_46 dX1_letOut_33 rfl (by assumption) ?_
  refine x_iload_n dX1_letOut_36 rfl ?_
  refine x_iadd dX1_letOut_37 ?_
  refine pf_RX1_46 dX1_letOut_38 rfl (by assumption) ?_
  refine x_iload_n dX1_letOut_41 rfl ?_
  refine x_if_ne (tgt := 62) dX1_letOut_42 (by decide) ⟨by omega, by omega⟩ (fun hb42 => ?_) (fun h => (h (by omega)).elim)
  exact x_return dX1_letOut_62 rfl ⟨Nat.le_refl _, Nat.le_refl _⟩ ⟨rfl, rfl, by simp only [dOut, if_true, if_neg (show ¬ (1 : Int) = 0 by decide), jup_eq, jup_nk (show (6 : Int) ≠ 4 by decide), jup_nk (show (4 : Int) ≠ 6 by decide)]⟩
def dCc (D : JD) (c o : Int) : JD :=
  let D1 := jcp (dSc (dSc (dWc D (c + 1) (o + 1)) (c + 2) (o + 2)) (c + 3) (o + 3)) (c + 4) 0 (o + 4) 0 12
  let D2 := jup D1 o 4 (D1 c 4)
  let D3 := jup D2 o 5 (D2 c 5)
  let D4 := jup D3 o 6 (D3 c 6)
  jup D4 o 7 (D4 c 7)
theorem kX1_copyTo {G : JG} {S : JS} {D : JD} {d : Nat} {c o : Int} (hC : jCh S c) (hO : jCh S o) : JM G yX1_copyTo cX1_copyTo 2 none (d + 1) (0, 0) S D [.inr (.inr (some c)), .inr (.inr (some o))] (jn S (dCc D c o)) := by
  obtain ⟨hc, hw, hl, hu, hr, hwk, hlk, huk, hrk, hrL⟩ := hC
  obtain ⟨oc, ow, ol, ou, or, owk, olk, ouk, ork, orL⟩ := hO
  show JX _ _ _ _ _ _ _ _ _ _ _ [_, _] _ _
  refine x_aload_n dX1_copyTo_0 rfl ?_
  refine gf_RX1_12 dX1_copyTo_1 rfl (by assumption) ?_
  rw [hw]
  refine x_aload_n dX1_copyTo_4 rfl ?_
  refine gf_RX1_12 dX1_copyTo_5 rfl (by assumption) ?_
  rw [ow]
  refine c_RX1_62d dX1_copyTo_8 rfl (kX6_copyTo hwk owk) (by assumption) (Nat.le_of_ble_eq_true rfl) (Nat.le_of_ble_eq_true rfl) ⟨Nat.le_refl _, Nat.le_refl _⟩ ?_
  refine x_aload_n dX1_copyTo_11 rfl ?_
  refine gf_RX1_21 dX1_copyTo_12 rfl (by assumption) ?_
  rw [hl]
  refine x_aload_n dX1_copyTo_15 rfl ?_
  refine gf_RX1_21 dX1_copyTo_16 rfl (by assumption) ?_
  rw [ol]
  refine c_RX1_66d dX1_copyTo_19 rfl (kX5_copyTo hlk olk) (by assumption) (Nat.le_of_ble_eq_true rfl) (Nat.le_of_ble_eq_true rfl) ⟨Nat.le_refl _, Nat.le_refl _⟩ ?_
  refine x_aload_n dX1_copyTo_22 rfl ?_
  refine gf_RX1_25 dX1_copyTo_23 rfl (by assumption) ?_
  rw [hu]
  refine x_aload_n dX1_copyTo_26 rfl ?_
  refine gf_RX1_25 dX1_copyTo_27 rfl (by assumption) ?_
  rw [ou]
  refine c_RX1_66d dX1_copyTo_30 rfl (kX5_copyTo huk ouk) (by assumption) (Nat.le_of_ble_eq_true rfl) (Nat.le_of_ble_eq_true rfl) ⟨Nat.le_refl _, Nat.le_refl _⟩ ?_
  refine x_aload_n dX1_copyTo_33 rfl ?_
  refine gf_RX1_28 dX1_copyTo_34 rfl (by assumption) ?_
  rw [hr]
  refine x_iconst dX1_copyTo_37 ?_
  refine x_aload_n dX1_copyTo_38 rfl ?_
  refine gf_RX1_28 dX1_copyTo_39 rfl (by assumption) ?_
  rw [or]
  refine x_iconst dX1_copyTo_42 ?_
  refine x_aload_n dX1_copyTo_43 rfl ?_
  refine gf_RX1_28 dX1_copyTo_44 rfl (by assumption) ?_
  rw [hr]
  refine x_alen (c := 9) dX1_copyTo_47 (by decide) (by assumption) ?_
  refine x_aload_n dX1_copyTo_48 rfl ?_
  refine gf_RX1_28 dX1_copyTo_49 rfl (by assumption) ?_
  rw [or]
  refine x_alen (c := 9) dX1_copyTo_52 (by decide) (by assumption) ?_
  refine c_RX1_69d dX1_copyTo_53 rfl (kJ9_mini ⟨by omega, by omega⟩ ⟨by omega, by omega⟩) (Nat.le_of_ble_eq_true rfl) (Nat.le_of_ble_eq_true rfl) ⟨Nat.le_refl _, Nat.le_refl _⟩ ?_
  rw [hrL, orL, show min (12 : Int) 12 = 12 by decide]
  refine x_acopy dX1_copyTo_56 ml_RX1_56 (by omega) rfl hrk ork ⟨by omega, by omega, by omega, by omega, by omega⟩ ?_
  refine x_aload_n dX1_copyTo_59 rfl ?_
  refine x_aload_n dX1_copyTo_60 rfl ?_
  refine gf_RX1_39 dX1_copyTo_61 rfl (by assumption) ?_
  refine pf_RX1_39 dX1_copyTo_64 rfl (by assumption) ?_
  refine x_aload_n dX1_copyTo_67 rfl ?_
  refine x_aload_n dX1_copyTo_68 rfl ?_
  refine gf_RX1_43 dX1_copyTo_69 rfl (by assumption) ?_
  refine pf_RX1_43 dX1_copyTo_72 rfl (by assumption) ?_
  refine x_aload_n dX1_copyTo_75 rfl ?_
  refine x_aload_n dX1_copyTo_76 rfl ?_
  refine gf_RX1_46 dX1_copyTo_77 rfl (by assumption) ?_
  refine pf_RX1_46 dX1_copyTo_80 rfl (by assumption) ?_
  refine x_aload_n dX1_copyTo_83 rfl ?_
  refine x_aload_n dX1_copyTo_84 rfl ?_
  refine gf_RX1_49 dX1_copyTo_85 rfl (by assumption) ?_
  refine pf_RX1_49 dX1_copyTo_88 rfl (by assumption) ?_
  exact x_return dX1_copyTo_91 rfl ⟨Nat.le_refl _, Nat.le_refl _⟩ ⟨rfl, rfl, rfl⟩
