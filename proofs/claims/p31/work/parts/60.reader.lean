/-! THE CLASS: the reader of orders -/
def jPo (D D2 : JD) (o q : Int) : Prop := D2 o 2 = q ∧ ∀ x k : Int, ¬ (x = o ∧ k = 2) → D2 x k = D x k
def oNv (x : Option Int) : Int := match x with
  | some v => v
  | none => -1
def oSm (f : Int → Int) (p : Int) (i : Nat) : Nat → Int → Int
  | 0, _ => 1
  | k + 1, j => if f (p + j) = jch i j then oSm f p i k (j + 1) else 0
def oSd (f : Int → Int) (p e : Int) (i : Nat) : Int := if jln i = e - p then oSm f p i (jtx i).length 0 else 0
theorem oSm_r {f : Int → Int} {p : Int} {i : Nat} : ∀ (k : Nat) (j : Int), oSm f p i k j = 0 ∨ oSm f p i k j = 1
  | 0, _ => Or.inr rfl
  | k + 1, j => by
    show (if f (p + j) = jch i j then oSm f p i k (j + 1) else 0) = 0 ∨ (if f (p + j) = jch i j then oSm f p i k (j + 1) else 0) = 1
    split
    · exact oSm_r k (j + 1)
    · exact Or.inl rfl
theorem oSd_r {f : Int → Int} {p e : Int} {i : Nat} : oSd f p e i = 0 ∨ oSd f p e i = 1 := by
  unfold oSd
  split
  · exact oSm_r _ _
  · exact Or.inl rfl
def oVf (f : Int → Int) (p e : Int) : Nat → Int
  | 0 => -1
  | k + 1 => if oSd f p e k = 0 then oVf f p e k else (k : Int)
theorem oSd_0 {f : Int → Int} {p e : Int} : oSd f p e 0 = if oC0 f p e then 1 else 0 := by
  have e0 : oSd f p e 0 = if (6 : Int) = e - p then (if f (p + 0) = 115 then (if f (p + 1) = 108 then (if f (p + 2) = 117 then (if f (p + 3) = 105 then (if f (p + 4) = 99 then (if f (p + 5) = 101 then 1 else 0) else 0) else 0) else 0) else 0) else 0) else 0 := rfl
  rw [e0, Int.add_zero]
  by_cases h : oC0 f p e
  · rw [if_pos h]
    unfold oC0 at h
    rw [if_pos (by omega), if_pos (by omega), if_pos (by omega), if_pos (by omega), if_pos (by omega), if_pos (by omega), if_pos (by omega)]
  · rw [if_neg h]
    unfold oC0 at h
    repeat' split
    all_goals first | rfl | omega
theorem oSd_1 {f : Int → Int} {p e : Int} : oSd f p e 1 = if oC1 f p e then 1 else 0 := by
  have e0 : oSd f p e 1 = if (4 : Int) = e - p then (if f (p + 0) = 111 then (if f (p + 1) = 112 then (if f (p + 2) = 101 then (if f (p + 3) = 110 then 1 else 0) else 0) else 0) else 0) else 0 := rfl
  rw [e0, Int.add_zero]
  by_cases h : oC1 f p e
  · rw [if_pos h]
    unfold oC1 at h
    rw [if_pos (by omega), if_pos (by omega), if_pos (by omega), if_pos (by omega), if_pos (by omega)]
  · rw [if_neg h]
    unfold oC1 at h
    repeat' split
    all_goals first | rfl | omega
theorem oSd_2 {f : Int → Int} {p e : Int} : oSd f p e 2 = if oC2 f p e then 1 else 0 := by
  have e0 : oSd f p e 2 = if (5 : Int) = e - p then (if f (p + 0) = 99 then (if f (p + 1) = 108 then (if f (p + 2) = 111 then (if f (p + 3) = 115 then (if f (p + 4) = 101 then 1 else 0) else 0) else 0) else 0) else 0) else 0 := rfl
  rw [e0, Int.add_zero]
  by_cases h : oC2 f p e
  · rw [if_pos h]
    unfold oC2 at h
    rw [if_pos (by omega), if_pos (by omega), if_pos (by omega), if_pos (by omega), if_pos (by omega), if_pos (by omega)]
  · rw [if_neg h]
    unfold oC2 at h
    repeat' split
    all_goals first | rfl | omega
theorem oSd_3 {f : Int → Int} {p e : Int} : oSd f p e 3 = if oC3 f p e then 1 else 0 := by
  have e0 : oSd f p e 3 = if (5 : Int) = e - p then (if f (p + 0) = 101 then (if f (p + 1) = 110 then (if f (p + 2) = 116 then (if f (p + 3) = 101 then (if f (p + 4) = 114 then 1 else 0) else 0) else 0) else 0) else 0) else 0 := rfl
  rw [e0, Int.add_zero]
  by_cases h : oC3 f p e
  · rw [if_pos h]
    unfold oC3 at h
    rw [if_pos (by omega), if_pos (by omega), if_pos (by omega), if_pos (by omega), if_pos (by omega), if_pos (by omega)]
  · rw [if_neg h]
    unfold oC3 at h
    repeat' split
    all_goals first | rfl | omega
theorem oSd_4 {f : Int → Int} {p e : Int} : oSd f p e 4 = if oC4 f p e then 1 else 0 := by
  have e0 : oSd f p e 4 = if (5 : Int) = e - p then (if f (p + 0) = 108 then (if f (p + 1) = 101 then (if f (p + 2) = 97 then (if f (p + 3) = 118 then (if f (p + 4) = 101 then 1 else 0) else 0) else 0) else 0) else 0) else 0 := rfl
  rw [e0, Int.add_zero]
  by_cases h : oC4 f p e
  · rw [if_pos h]
    unfold oC4 at h
    rw [if_pos (by omega), if_pos (by omega), if_pos (by omega), if_pos (by omega), if_pos (by omega), if_pos (by omega)]
  · rw [if_neg h]
    unfold oC4 at h
    repeat' split
    all_goals first | rfl | omega
theorem oSd_5 {f : Int → Int} {p e : Int} : oSd f p e 5 = if oC5 f p e then 1 else 0 := by
  have e0 : oSd f p e 5 = if (4 : Int) = e - p then (if f (p + 0) = 108 then (if f (p + 1) = 111 then (if f (p + 2) = 97 then (if f (p + 3) = 100 then 1 else 0) else 0) else 0) else 0) else 0 := rfl
  rw [e0, Int.add_zero]
  by_cases h : oC5 f p e
  · rw [if_pos h]
    unfold oC5 at h
    rw [if_pos (by omega), if_pos (by omega), if_pos (by omega), if_pos (by omega), if_pos (by omega)]
  · rw [if_neg h]
    unfold oC5 at h
    repeat' split
    all_goals first | rfl | omega
theorem oSd_6 {f : Int → Int} {p e : Int} : oSd f p e 6 = if oC6 f p e then 1 else 0 := by
  have e0 : oSd f p e 6 = if (4 : Int) = e - p then (if f (p + 0) = 112 then (if f (p + 1) = 117 then (if f (p + 2) = 109 then (if f (p + 3) = 112 then 1 else 0) else 0) else 0) else 0) else 0 := rfl
  rw [e0, Int.add_zero]
  by_cases h : oC6 f p e
  · rw [if_pos h]
    unfold oC6 at h
    rw [if_pos (by omega), if_pos (by omega), if_pos (by omega), if_pos (by omega), if_pos (by omega)]
  · rw [if_neg h]
    unfold oC6 at h
    repeat' split
    all_goals first | rfl | omega
theorem oVf_W {f : Int → Int} {p e : Int} : oVf f p e 7 = oW f p e := by
  have e0 : oVf f p e 7 = if oSd f p e 6 = 0 then (if oSd f p e 5 = 0 then (if oSd f p e 4 = 0 then (if oSd f p e 3 = 0 then (if oSd f p e 2 = 0 then (if oSd f p e 1 = 0 then (if oSd f p e 0 = 0 then -1 else 0) else 1) else 2) else 3) else 4) else 5) else 6 := rfl
  rw [e0, oSd_0, oSd_1, oSd_2, oSd_3, oSd_4, oSd_5, oSd_6]
  unfold oW
  by_cases h6 : oC6 f p e
  · rw [if_pos h6, if_neg (show ¬ (1 : Int) = 0 by decide), if_pos h6]
  rw [if_neg h6, if_pos (rfl : (0 : Int) = 0), if_neg h6]
  by_cases h5 : oC5 f p e
  · rw [if_pos h5, if_neg (show ¬ (1 : Int) = 0 by decide), if_pos h5]
  rw [if_neg h5, if_pos (rfl : (0 : Int) = 0), if_neg h5]
  by_cases h4 : oC4 f p e
  · rw [if_pos h4, if_neg (show ¬ (1 : Int) = 0 by decide), if_pos h4]
  rw [if_neg h4, if_pos (rfl : (0 : Int) = 0), if_neg h4]
  by_cases h3 : oC3 f p e
  · rw [if_pos h3, if_neg (show ¬ (1 : Int) = 0 by decide), if_pos h3]
  rw [if_neg h3, if_pos (rfl : (0 : Int) = 0), if_neg h3]
  by_cases h2 : oC2 f p e
  · rw [if_pos h2, if_neg (show ¬ (1 : Int) = 0 by decide), if_pos h2]
  rw [if_neg h2, if_pos (rfl : (0 : Int) = 0), if_neg h2]
  by_cases h1 : oC1 f p e
  · rw [if_pos h1, if_neg (show ¬ (1 : Int) = 0 by decide), if_pos h1]
  rw [if_neg h1, if_pos (rfl : (0 : Int) = 0), if_neg h1]
  by_cases h0 : oC0 f p e
  · rw [if_pos h0, if_neg (show ¬ (1 : Int) = 0 by decide), if_pos h0]
  rw [if_neg h0, if_pos (rfl : (0 : Int) = 0), if_neg h0]

theorem kX4_signAt {G : JG} {S : JS} {D : JD} {d : Nat} {o n : Int} {f : Int → Int} {i : Int} (hO : jOr S o) (hn : D o 1 = n) (hf : D (o + 1) = f) (n0 : 0 ≤ n) (n1 : n ≤ 60) (fr : ∀ z : Int, 0 ≤ f z ∧ f z ≤ 65535) (ri : i32 i) : JM G yX4_signAt cX4_signAt 2 (some .char) d (0, 0) S D [.inr (.inr (some o)), .inl i] (jr (.inl (if 0 ≤ i ∧ i < n then f i else 0)) S D) := by
  obtain ⟨ok, ot, tk, tl⟩ := id hO
  have fi := fr i
  show JX _ _ _ _ _ _ _ _ _ _ _ [_, _] _ _
  refine x_iload_n dX4_signAt_0 rfl ?_
  refine x_if_lt (tgt := 30) dX4_signAt_1 (by decide) ⟨by omega, by omega⟩ (fun hb1 => ?_) (fun hb1 => ?_)
  · refine x_iconst dX4_signAt_30 ?_
    exact x_ireturn dX4_signAt_31 rfl (jchar (by omega) (by omega)).1 ⟨Nat.le_refl _, Nat.le_refl _⟩ ⟨by first | rw [if_pos (by omega)] | rw [if_neg (by omega)], rfl, rfl⟩
  · refine x_iload_n dX4_signAt_4 rfl ?_
    refine x_aload_n dX4_signAt_5 rfl ?_
    refine gf_RX4_15 dX4_signAt_6 rfl (by assumption) ?_
    rw [hn]
    refine x_ic_ge (tgt := 30) dX4_signAt_9 (by decide) ⟨by omega, by omega⟩ ⟨by omega, by omega⟩ (fun hb9 => ?_) (fun hb9 => ?_)
    · refine x_iconst dX4_signAt_30 ?_
      exact x_ireturn dX4_signAt_31 rfl (jchar (by omega) (by omega)).1 ⟨Nat.le_refl _, Nat.le_refl _⟩ ⟨by first | rw [if_pos (by omega)] | rw [if_neg (by omega)], rfl, rfl⟩
    · refine x_iload_n dX4_signAt_12 rfl ?_
      refine x_aload_n dX4_signAt_13 rfl ?_
      refine gf_RX4_9 dX4_signAt_14 rfl (by assumption) ?_
      rw [ot]
      refine x_alen (c := 10) dX4_signAt_17 (by decide) (by assumption) ?_
      refine x_ic_ge (tgt := 30) dX4_signAt_18 (by decide) ⟨by omega, by omega⟩ ⟨by omega, by omega⟩ (fun h => absurd h (by omega)) (fun hb18 => ?_)
      refine x_aload_n dX4_signAt_21 rfl ?_
      refine gf_RX4_9 dX4_signAt_22 rfl (by assumption) ?_
      rw [ot]
      refine x_iload_n dX4_signAt_25 rfl ?_
      refine x_cald dX4_signAt_26 (by assumption) ⟨by omega, by omega⟩ ?_
      rw [hf]
      refine x_goto (tgt := 31) dX4_signAt_27 (by decide) ?_
      exact x_ireturn dX4_signAt_31 rfl (jchar (by omega) (by omega)).1 ⟨Nat.le_refl _, Nat.le_refl _⟩ ⟨by first | rw [if_pos (by omega)] | rw [if_neg (by omega)], rfl, rfl⟩
theorem kX4_hasMore {G : JG} {S : JS} {D : JD} {d : Nat} {o n : Int} {f : Int → Int} {p : Int} (hO : jOr S o) (hn : D o 1 = n) (hf : D (o + 1) = f) (n0 : 0 ≤ n) (n1 : n ≤ 60) (fr : ∀ z : Int, 0 ≤ f z ∧ f z ≤ 65535) (hp : D o 2 = p) (p0 : 0 ≤ p) (p1 : p ≤ n) : JM G yX4_hasMore cX4_hasMore 1 (some .boolean) d (0, 0) S D [.inr (.inr (some o))] (jr (.inl (if p < n then 1 else 0)) S D) := by
  obtain ⟨ok, ot, tk, tl⟩ := id hO
  show JX _ _ _ _ _ _ _ _ _ _ _ [_] _ _
  refine x_aload_n dX4_hasMore_0 rfl ?_
  refine gf_RX4_19 dX4_hasMore_1 rfl (by assumption) ?_
  rw [hp]
  refine x_aload_n dX4_hasMore_4 rfl ?_
  refine gf_RX4_15 dX4_hasMore_5 rfl (by assumption) ?_
  rw [hn]
  refine x_ic_ge (tgt := 15) dX4_hasMore_8 (by decide) ⟨by omega, by omega⟩ ⟨by omega, by omega⟩ (fun hb8 => ?_) (fun hb8 => ?_)
  · refine x_iconst dX4_hasMore_15 ?_
    exact x_ireturn dX4_hasMore_16 rfl (jbool (by first | exact Or.inl rfl | exact Or.inr rfl)).1 ⟨Nat.le_refl _, Nat.le_refl _⟩ ⟨by first | rw [if_pos (by omega)] | rw [if_neg (by omega)], rfl, rfl⟩
  · refine x_iconst dX4_hasMore_11 ?_
    refine x_goto (tgt := 16) dX4_hasMore_12 (by decide) ?_
    exact x_ireturn dX4_hasMore_16 rfl (jbool (by first | exact Or.inl rfl | exact Or.inr rfl)).1 ⟨Nat.le_refl _, Nat.le_refl _⟩ ⟨by first | rw [if_pos (by omega)] | rw [if_neg (by omega)], rfl, rfl⟩
theorem kX4_rewind {G : JG} {S : JS} {D : JD} {d : Nat} {o : Int} (hO : jOr S o) : JM G yX4_rewind cX4_rewind 1 none d (0, 0) S D [.inr (.inr (some o))] (jn S (jup D o 2 0)) := by
  obtain ⟨ok, ot, tk, tl⟩ := id hO
  show JX _ _ _ _ _ _ _ _ _ _ _ [_] _ _
  refine x_aload_n dX4_rewind_0 rfl ?_
  refine x_iconst dX4_rewind_1 ?_
  refine pf_RX4_19 dX4_rewind_2 rfl (by assumption) ?_
  exact x_return dX4_rewind_5 rfl ⟨Nat.le_refl _, Nat.le_refl _⟩ ⟨rfl, rfl, rfl⟩
theorem kX4_readSign {G : JG} {S : JS} {D : JD} {d : Nat} {o n : Int} {f : Int → Int} {p c : Int} (hO : jOr S o) (hn : D o 1 = n) (hf : D (o + 1) = f) (n0 : 0 ≤ n) (n1 : n ≤ 60) (fr : ∀ z : Int, 0 ≤ f z ∧ f z ≤ 65535) (hp : D o 2 = p) (p0 : 0 ≤ p) (p1 : p ≤ n) (rc : i32 c) : JM G yX4_readSign cX4_readSign 2 (some .boolean) (d + 1) (0, 0) S D [.inr (.inr (some o)), .inl c] (jrP S (fun w D2 => w = .inl (if p < n ∧ f p = c then 1 else 0) ∧ jPo D D2 o (if p < n ∧ f p = c then p + 1 else p))) := by
  obtain ⟨ok, ot, tk, tl⟩ := id hO
  have fi := fr p
  show JX _ _ _ _ _ _ _ _ _ _ _ [_, _] _ _
  refine x_aload_n dX4_readSign_0 rfl ?_
  refine c_RX4_39d dX4_readSign_1 rfl (kX4_hasMore hO hn hf n0 n1 fr hp p0 p1) (by assumption) (Nat.le_of_ble_eq_true rfl) (Nat.le_of_ble_eq_true rfl) ⟨Nat.le_refl _, Nat.le_refl _⟩ ?_
  refine x_if_eq (tgt := 19) dX4_readSign_4 (by decide) ⟨by split <;> omega, by split <;> omega⟩ (fun hb4 => ?_) (fun hb4 => ?_)
  · refine x_iconst dX4_readSign_19 ?_
    exact x_ireturn dX4_readSign_20 rfl (jbool (by first | exact Or.inl rfl | exact Or.inr rfl)).1 ⟨Nat.le_refl _, Nat.le_refl _⟩ ⟨rfl, _, rfl, by rw [if_neg (by omega)], by rw [if_neg (by omega)]; exact ⟨hp, fun _ _ _ => rfl⟩⟩
  · refine x_aload_n dX4_readSign_7 rfl ?_
    refine x_aload_n dX4_readSign_8 rfl ?_
    refine gf_RX4_19 dX4_readSign_9 rfl (by assumption) ?_
    rw [hp]
    refine c_RX4_73d dX4_readSign_12 rfl (kX4_signAt hO hn hf n0 n1 fr ⟨by omega, by omega⟩) (by assumption) (Nat.le_of_ble_eq_true rfl) (Nat.le_of_ble_eq_true rfl) ⟨Nat.le_refl _, Nat.le_refl _⟩ ?_
    refine x_iload_n dX4_readSign_15 rfl ?_
    refine x_ic_eq (tgt := 21) dX4_readSign_16 (by decide) ⟨by split <;> omega, by split <;> omega⟩ rc (fun hb16 => ?_) (fun hb16 => ?_)
    · refine x_aload_n dX4_readSign_21 rfl ?_
      refine x_dup dX4_readSign_22 (fun _ h => by cases h) ?_
      refine gf_RX4_19 dX4_readSign_23 rfl (by assumption) ?_
      rw [hp]
      refine x_iconst dX4_readSign_26 ?_
      refine x_iadd dX4_readSign_27 ?_
      refine pf_RX4_19 dX4_readSign_28 rfl (by assumption) ?_
      refine x_iconst dX4_readSign_31 ?_
      exact x_ireturn dX4_readSign_32 rfl (jbool (by first | exact Or.inl rfl | exact Or.inr rfl)).1 ⟨Nat.le_refl _, Nat.le_refl _⟩ ⟨rfl, _, rfl, by rw [if_pos (by omega)], by rw [if_pos (by omega)]; exact ⟨jup_eq, fun x k h => by by_cases q : x = o; rw [q, jup_nk (fun z => h ⟨q, z⟩)]; exact jup_ne q⟩⟩
    · refine x_iconst dX4_readSign_19 ?_
      exact x_ireturn dX4_readSign_20 rfl (jbool (by first | exact Or.inl rfl | exact Or.inr rfl)).1 ⟨Nat.le_refl _, Nat.le_refl _⟩ ⟨rfl, _, rfl, by rw [if_neg (by omega)], by rw [if_neg (by omega)]; exact ⟨hp, fun _ _ _ => rfl⟩⟩
theorem eot_loop {G : JG} {S : JS} {D : JD} {d : Nat} {o n : Int} {f : Int → Int} (hO : jOr S o) (hn : D o 1 = n) (hf : D (o + 1) = f) (n0 : 0 ≤ n) (n1 : n ≤ 60) (fr : ∀ z : Int, 0 ≤ f z ∧ f z ≤ 65535) : ∀ (k : Nat) (z : Int), z + (k : Int) = n → 0 ≤ z → JX G yX4_endOfToken cX4_endOfToken 2 (some .int) (d + 1) (0, 0) (0, 0) S D 5 [some (.inr (.inr (some o))), some (.inl z)] [] (jr (.inl (oEn f n k z)) S D) := by
  obtain ⟨ok, ot, tk, tl⟩ := id hO
  intro k
  induction k with
  | zero =>
    intro z hz z0
    refine x_iload_n dX4_endOfToken_5 rfl ?_
    refine x_aload_n dX4_endOfToken_6 rfl ?_
    refine gf_RX4_15 dX4_endOfToken_7 rfl (by assumption) ?_
    rw [hn]
    refine x_ic_ge (tgt := 39) dX4_endOfToken_10 (by decide) ⟨by omega, by omega⟩ ⟨by omega, by omega⟩ (fun hb10 => ?_) (fun h => (h (by omega)).elim)
    refine x_iload_n dX4_endOfToken_39 rfl ?_
    exact x_ireturn dX4_endOfToken_40 rfl rfl ⟨Nat.le_refl _, Nat.le_refl _⟩ ⟨rfl, rfl, rfl⟩
  | succ k ih =>
    intro z hz z0
    have fz := fr z
    rw [show oEn f n (k + 1) z = if n ≤ z ∨ f z = 32 ∨ f z = 59 then z else oEn f n k (z + 1) from rfl]
    refine x_iload_n dX4_endOfToken_5 rfl ?_
    refine x_aload_n dX4_endOfToken_6 rfl ?_
    refine gf_RX4_15 dX4_endOfToken_7 rfl (by assumption) ?_
    rw [hn]
    refine x_ic_ge (tgt := 39) dX4_endOfToken_10 (by decide) ⟨by omega, by omega⟩ ⟨by omega, by omega⟩ (fun h => absurd h (by omega)) (fun hb10 => ?_)
    refine x_aload_n dX4_endOfToken_13 rfl ?_
    refine x_iload_n dX4_endOfToken_14 rfl ?_
    refine c_RX4_73d dX4_endOfToken_15 rfl (kX4_signAt hO hn hf n0 n1 fr ⟨by omega, by omega⟩) (by assumption) (Nat.le_of_ble_eq_true rfl) (Nat.le_of_ble_eq_true rfl) ⟨Nat.le_refl _, Nat.le_refl _⟩ ?_
    refine x_bipush dX4_endOfToken_18 (by decide) ?_
    refine x_ic_eq (tgt := 39) dX4_endOfToken_20 (by decide) ⟨by split <;> omega, by split <;> omega⟩ ⟨by omega, by omega⟩ (fun hb20 => ?_) (fun hb20 => ?_)
    · refine x_iload_n dX4_endOfToken_39 rfl ?_
      exact x_ireturn dX4_endOfToken_40 rfl rfl ⟨Nat.le_refl _, Nat.le_refl _⟩ ⟨by rw [if_pos (by omega)], rfl, rfl⟩
    · refine x_aload_n dX4_endOfToken_23 rfl ?_
      refine x_iload_n dX4_endOfToken_24 rfl ?_
      refine c_RX4_73d dX4_endOfToken_25 rfl (kX4_signAt hO hn hf n0 n1 fr ⟨by omega, by omega⟩) (by assumption) (Nat.le_of_ble_eq_true rfl) (Nat.le_of_ble_eq_true rfl) ⟨Nat.le_refl _, Nat.le_refl _⟩ ?_
      refine x_bipush dX4_endOfToken_28 (by decide) ?_
      refine x_ic_eq (tgt := 39) dX4_endOfToken_30 (by decide) ⟨by split <;> omega, by split <;> omega⟩ ⟨by omega, by omega⟩ (fun hb30 => ?_) (fun hb30 => ?_)
      · refine x_iload_n dX4_endOfToken_39 rfl ?_
        exact x_ireturn dX4_endOfToken_40 rfl rfl ⟨Nat.le_refl _, Nat.le_refl _⟩ ⟨by rw [if_pos (by omega)], rfl, rfl⟩
      · refine x_iinc dX4_endOfToken_33 rfl (by decide) ?_
        show JX _ _ _ _ _ _ _ _ _ _ _ [_, _] _ _
        refine x_goto (tgt := 5) dX4_endOfToken_36 (by decide) ?_
        rw [if_neg (by omega)]
        exact ih (z + 1) (by omega) (by omega)
theorem kX4_endOfToken {G : JG} {S : JS} {D : JD} {d : Nat} {o n : Int} {f : Int → Int} {p : Int} (hO : jOr S o) (hn : D o 1 = n) (hf : D (o + 1) = f) (n0 : 0 ≤ n) (n1 : n ≤ 60) (fr : ∀ z : Int, 0 ≤ f z ∧ f z ≤ 65535) (hp : D o 2 = p) (p0 : 0 ≤ p) (p1 : p ≤ n) : JM G yX4_endOfToken cX4_endOfToken 2 (some .int) (d + 1) (0, 0) S D [.inr (.inr (some o))] (jr (.inl (oE f n p)) S D) := by
  obtain ⟨ok, ot, tk, tl⟩ := id hO
  show JX _ _ _ _ _ _ _ _ _ _ _ [_, _] _ _
  refine x_aload_n dX4_endOfToken_0 rfl ?_
  refine gf_RX4_19 dX4_endOfToken_1 rfl (by assumption) ?_
  rw [hp]
  refine x_istore_n dX4_endOfToken_4 (by decide) ?_
  show JX _ _ _ _ _ _ _ _ _ _ _ [_, _] _ _
  exact eot_loop hO hn hf n0 n1 fr (n - p).toNat p (by omega) p0
theorem kX4_wordOf_0 {G : JG} {S : JS} {D : JD} {d : Nat}   : JM G yX4_wordOf cX4_wordOf 1 (some (.object "java/lang/String")) d (0, 0) S D [.inl 0] (jr (.inr (.inr (some (gS G 0 : Int)))) S D) := by
  show JX _ _ _ _ _ _ _ _ _ _ _ [_] _ _
  refine x_iload_n dX4_wordOf_0 rfl ?_
  refine x_switch (tgt := 44) dX4_wordOf_1 ⟨by omega, by omega⟩ (by decide) (by decide) ?_
  refine x_ldcS (i := 0) dX4_wordOf_44 rfl rfl (by decide) ?_
  exact x_areturn dX4_wordOf_46 rfl (Or.inl ⟨_, rfl⟩) ⟨Nat.le_refl _, Nat.le_refl _⟩ ⟨rfl, rfl, rfl⟩
theorem kX4_wordOf_1 {G : JG} {S : JS} {D : JD} {d : Nat}   : JM G yX4_wordOf cX4_wordOf 1 (some (.object "java/lang/String")) d (0, 0) S D [.inl 1] (jr (.inr (.inr (some (gS G 1 : Int)))) S D) := by
  show JX _ _ _ _ _ _ _ _ _ _ _ [_] _ _
  refine x_iload_n dX4_wordOf_0 rfl ?_
  refine x_switch (tgt := 47) dX4_wordOf_1 ⟨by omega, by omega⟩ (by decide) (by decide) ?_
  refine x_ldcS (i := 1) dX4_wordOf_47 rfl rfl (by decide) ?_
  exact x_areturn dX4_wordOf_49 rfl (Or.inl ⟨_, rfl⟩) ⟨Nat.le_refl _, Nat.le_refl _⟩ ⟨rfl, rfl, rfl⟩
theorem kX4_wordOf_2 {G : JG} {S : JS} {D : JD} {d : Nat}   : JM G yX4_wordOf cX4_wordOf 1 (some (.object "java/lang/String")) d (0, 0) S D [.inl 2] (jr (.inr (.inr (some (gS G 2 : Int)))) S D) := by
  show JX _ _ _ _ _ _ _ _ _ _ _ [_] _ _
  refine x_iload_n dX4_wordOf_0 rfl ?_
  refine x_switch (tgt := 50) dX4_wordOf_1 ⟨by omega, by omega⟩ (by decide) (by decide) ?_
  refine x_ldcS (i := 2) dX4_wordOf_50 rfl rfl (by decide) ?_
  exact x_areturn dX4_wordOf_52 rfl (Or.inl ⟨_, rfl⟩) ⟨Nat.le_refl _, Nat.le_refl _⟩ ⟨rfl, rfl, rfl⟩
theorem kX4_wordOf_3 {G : JG} {S : JS} {D : JD} {d : Nat}   : JM G yX4_wordOf cX4_wordOf 1 (some (.object "java/lang/String")) d (0, 0) S D [.inl 3] (jr (.inr (.inr (some (gS G 3 : Int)))) S D) := by
  show JX _ _ _ _ _ _ _ _ _ _ _ [_] _ _
  refine x_iload_n dX4_wordOf_0 rfl ?_
  refine x_switch (tgt := 53) dX4_wordOf_1 ⟨by omega, by omega⟩ (by decide) (by decide) ?_
  refine x_ldcS (i := 3) dX4_wordOf_53 rfl rfl (by decide) ?_
  exact x_areturn dX4_wordOf_55 rfl (Or.inl ⟨_, rfl⟩) ⟨Nat.le_refl _, Nat.le_refl _⟩ ⟨rfl, rfl, rfl⟩
theorem kX4_wordOf_4 {G : JG} {S : JS} {D : JD} {d : Nat}   : JM G yX4_wordOf cX4_wordOf 1 (some (.object "java/lang/String")) d (0, 0) S D [.inl 4] (jr (.inr (.inr (some (gS G 4 : Int)))) S D) := by
  show JX _ _ _ _ _ _ _ _ _ _ _ [_] _ _
  refine x_iload_n dX4_wordOf_0 rfl ?_
  refine x_switch (tgt := 56) dX4_wordOf_1 ⟨by omega, by omega⟩ (by decide) (by decide) ?_
  refine x_ldcS (i := 4) dX4_wordOf_56 rfl rfl (by decide) ?_
  exact x_areturn dX4_wordOf_58 rfl (Or.inl ⟨_, rfl⟩) ⟨Nat.le_refl _, Nat.le_refl _⟩ ⟨rfl, rfl, rfl⟩
theorem kX4_wordOf_5 {G : JG} {S : JS} {D : JD} {d : Nat}   : JM G yX4_wordOf cX4_wordOf 1 (some (.object "java/lang/String")) d (0, 0) S D [.inl 5] (jr (.inr (.inr (some (gS G 5 : Int)))) S D) := by
  show JX _ _ _ _ _ _ _ _ _ _ _ [_] _ _
  refine x_iload_n dX4_wordOf_0 rfl ?_
  refine x_switch (tgt := 59) dX4_wordOf_1 ⟨by omega, by omega⟩ (by decide) (by decide) ?_
  refine x_ldcS (i := 5) dX4_wordOf_59 rfl rfl (by decide) ?_
  exact x_areturn dX4_wordOf_61 rfl (Or.inl ⟨_, rfl⟩) ⟨Nat.le_refl _, Nat.le_refl _⟩ ⟨rfl, rfl, rfl⟩
theorem kX4_wordOf_6 {G : JG} {S : JS} {D : JD} {d : Nat}   : JM G yX4_wordOf cX4_wordOf 1 (some (.object "java/lang/String")) d (0, 0) S D [.inl 6] (jr (.inr (.inr (some (gS G 6 : Int)))) S D) := by
  show JX _ _ _ _ _ _ _ _ _ _ _ [_] _ _
  refine x_iload_n dX4_wordOf_0 rfl ?_
  refine x_switch (tgt := 62) dX4_wordOf_1 ⟨by omega, by omega⟩ (by decide) (by decide) ?_
  refine x_ldcS (i := 6) dX4_wordOf_62 rfl rfl (by decide) ?_
  exact x_areturn dX4_wordOf_64 rfl (Or.inl ⟨_, rfl⟩) ⟨Nat.le_refl _, Nat.le_refl _⟩ ⟨rfl, rfl, rfl⟩
theorem kX4_wordOf {G : JG} {S : JS} {D : JD} {d : Nat} {k : Nat} (hk : k < 7) : JM G yX4_wordOf cX4_wordOf 1 (some (.object "java/lang/String")) d (0, 0) S D [.inl (k : Int)] (jr (.inr (.inr (some (gS G k : Int)))) S D) := by
  match k, hk with
  | 0, _ => exact kX4_wordOf_0
  | 1, _ => exact kX4_wordOf_1
  | 2, _ => exact kX4_wordOf_2
  | 3, _ => exact kX4_wordOf_3
  | 4, _ => exact kX4_wordOf_4
  | 5, _ => exact kX4_wordOf_5
  | 6, _ => exact kX4_wordOf_6
  | n + 7, h => omega
theorem stands_loop {G : JG} {S : JS} {D : JD} {d : Nat} {o n : Int} {f : Int → Int} {p e : Int} {i : Nat} (hO : jOr S o) (hn : D o 1 = n) (hf : D (o + 1) = f) (n0 : 0 ≤ n) (n1 : n ≤ 60) (fr : ∀ z : Int, 0 ≤ f z ∧ f z ≤ 65535) (hp : D o 2 = p) (p0 : 0 ≤ p) (hi : i < 8) (hl : jln i = e - p) (he : e ≤ n) : ∀ (k : Nat) (j : Int), j + (k : Int) = jln i → 0 ≤ j → JX G yX4_stands cX4_stands 4 (some .boolean) (d + 6) (0, 0) (0, 0) S D 17 [some (.inr (.inr (some o))), some (.inr (.inr (some (gS G i : Int)))), some (.inl e), some (.inl j)] [] (jr (.inl (oSm f p i k j)) S D) := by
  obtain ⟨ok, ot, tk, tl⟩ := id hO
  have jn6 : jln i ≤ 6 := by have := (jtx_all i hi).2.1; unfold jln; omega
  intro k
  induction k with
  | zero =>
    intro j hj j0
    refine x_iload_n dX4_stands_17 rfl ?_
    refine x_aload_n dX4_stands_18 rfl ?_
    refine s_RX4_81 hi dX4_stands_19 rfl (kJ0_length hi) (Nat.le_of_ble_eq_true rfl) (Nat.le_of_ble_eq_true rfl) ⟨Nat.le_refl _, Nat.le_refl _⟩ ?_
    refine x_ic_ge (tgt := 51) dX4_stands_22 (by decide) ⟨by omega, by omega⟩ ⟨by omega, by omega⟩ (fun hb22 => ?_) (fun h => (h (by omega)).elim)
    refine x_iconst dX4_stands_51 ?_
    exact x_ireturn dX4_stands_52 rfl (jbool (by first | exact Or.inl rfl | exact Or.inr rfl)).1 ⟨Nat.le_refl _, Nat.le_refl _⟩ ⟨rfl, rfl, rfl⟩
  | succ k ih =>
    intro j hj j0
    have fz := fr (p + j)
    have jc := jch_r hi j0 (show j < jln i by omega)
    rw [show oSm f p i (k + 1) j = if f (p + j) = jch i j then oSm f p i k (j + 1) else 0 from rfl]
    refine x_iload_n dX4_stands_17 rfl ?_
    refine x_aload_n dX4_stands_18 rfl ?_
    refine s_RX4_81 hi dX4_stands_19 rfl (kJ0_length hi) (Nat.le_of_ble_eq_true rfl) (Nat.le_of_ble_eq_true rfl) ⟨Nat.le_refl _, Nat.le_refl _⟩ ?_
    refine x_ic_ge (tgt := 51) dX4_stands_22 (by decide) ⟨by omega, by omega⟩ ⟨by omega, by omega⟩ (fun h => absurd h (by omega)) (fun hb22 => ?_)
    refine x_aload_n dX4_stands_25 rfl ?_
    refine x_aload_n dX4_stands_26 rfl ?_
    refine gf_RX4_19 dX4_stands_27 rfl (by assumption) ?_
    rw [hp]
    refine x_iload_n dX4_stands_30 rfl ?_
    refine x_iadd dX4_stands_31 ?_
    refine c_RX4_73d dX4_stands_32 rfl (kX4_signAt hO hn hf n0 n1 fr ⟨by omega, by omega⟩) (by assumption) (Nat.le_of_ble_eq_true rfl) (Nat.le_of_ble_eq_true rfl) ⟨Nat.le_refl _, Nat.le_refl _⟩ ?_
    refine x_aload_n dX4_stands_35 rfl ?_
    refine x_iload_n dX4_stands_36 rfl ?_
    refine s_RX4_85 hi dX4_stands_37 rfl (kJ0_charAt hi j0 (by omega)) (Nat.le_of_ble_eq_true rfl) (Nat.le_of_ble_eq_true rfl) ⟨Nat.le_refl _, Nat.le_refl _⟩ ?_
    refine x_ic_eq (tgt := 45) dX4_stands_40 (by decide) ⟨by split <;> omega, by split <;> omega⟩ ⟨by omega, by omega⟩ (fun hb40 => ?_) (fun hb40 => ?_)
    · refine x_iinc dX4_stands_45 rfl (by decide) ?_
      show JX _ _ _ _ _ _ _ _ _ _ _ [_, _, _, _] _ _
      refine x_goto (tgt := 17) dX4_stands_48 (by decide) ?_
      rw [if_pos (by omega)]
      exact ih (j + 1) (by omega) (by omega)
    · refine x_iconst dX4_stands_43 ?_
      exact x_ireturn dX4_stands_44 rfl (jbool (by first | exact Or.inl rfl | exact Or.inr rfl)).1 ⟨Nat.le_refl _, Nat.le_refl _⟩ ⟨by rw [if_neg (by omega)], rfl, rfl⟩
theorem kX4_stands {G : JG} {S : JS} {D : JD} {d : Nat} {o n : Int} {f : Int → Int} {p e : Int} {i : Nat} (hO : jOr S o) (hn : D o 1 = n) (hf : D (o + 1) = f) (n0 : 0 ≤ n) (n1 : n ≤ 60) (fr : ∀ z : Int, 0 ≤ f z ∧ f z ≤ 65535) (hp : D o 2 = p) (p0 : 0 ≤ p) (hi : i < 8) (he : e ≤ n) (pe : p ≤ e) : JM G yX4_stands cX4_stands 4 (some .boolean) (d + 6) (0, 0) S D [.inr (.inr (some o)), .inr (.inr (some (gS G i : Int))), .inl e] (jr (.inl (oSd f p e i)) S D) := by
  obtain ⟨ok, ot, tk, tl⟩ := id hO
  have jn6 : 0 ≤ jln i ∧ jln i ≤ 6 := by have := (jtx_all i hi).2.1; unfold jln; omega
  unfold oSd
  show JX _ _ _ _ _ _ _ _ _ _ _ [_, _, _, _] _ _
  refine x_aload_n dX4_stands_0 rfl ?_
  refine s_RX4_81 hi dX4_stands_1 rfl (kJ0_length hi) (Nat.le_of_ble_eq_true rfl) (Nat.le_of_ble_eq_true rfl) ⟨Nat.le_refl _, Nat.le_refl _⟩ ?_
  refine x_iload_n dX4_stands_4 rfl ?_
  refine x_aload_n dX4_stands_5 rfl ?_
  refine gf_RX4_19 dX4_stands_6 rfl (by assumption) ?_
  rw [hp]
  refine x_isub dX4_stands_9 ?_
  refine x_ic_eq (tgt := 15) dX4_stands_10 (by decide) ⟨by omega, by omega⟩ ⟨by omega, by omega⟩ (fun hb10 => ?_) (fun hb10 => ?_)
  · rw [if_pos hb10]
    refine x_iconst dX4_stands_15 ?_
    refine x_istore_n dX4_stands_16 (by decide) ?_
    show JX _ _ _ _ _ _ _ _ _ _ _ [_, _, _, _] _ _
    exact stands_loop hO hn hf n0 n1 fr hp p0 hi hb10 he (jtx i).length 0 (by unfold jln; omega) (by omega)
  · refine x_iconst dX4_stands_13 ?_
    exact x_ireturn dX4_stands_14 rfl (jbool (by first | exact Or.inl rfl | exact Or.inr rfl)).1 ⟨Nat.le_refl _, Nat.le_refl _⟩ ⟨by rw [if_neg (by omega)], rfl, rfl⟩
theorem verb_loop {G : JG} {S : JS} {D0 : JD} {d : Nat} {o n : Int} {f : Int → Int} {p : Int} (hO : jOr S o) (hn0 : D0 o 1 = n) (hf0 : D0 (o + 1) = f) (n0 : 0 ≤ n) (n1 : n ≤ 60) (fr : ∀ z : Int, 0 ≤ f z ∧ f z ≤ 65535) (hp0 : D0 o 2 = p) (p0 : 0 ≤ p) (p1 : p ≤ n) : ∀ (m k : Nat) (D : JD), (k : Int) + m = 7 → D o 3 = oVf f p (oE f n p) k → (∀ x z : Int, ¬ (x = o ∧ z = 3) → D x z = D0 x z) → JX G yX4_readVerb cX4_readVerb 3 none (d + 7) (0, 0) (0, 0) S D 12 [some (.inr (.inr (some o))), some (.inl (oE f n p)), some (.inl k)] [] (jnP S (fun D2 => D2 o 3 = oW f p (oE f n p) ∧ D2 o 2 = (if oW f p (oE f n p) = -1 then p else oE f n p) ∧ ∀ x k : Int, ¬ (x = o ∧ (k = 2 ∨ k = 3)) → D2 x k = D0 x k)) := by
  obtain ⟨ok, ot, tk, tl⟩ := id hO
  have eb := oE_b (f := f) p1
  intro m
  induction m with
  | zero =>
    intro k D hk h3 hX
    have ek : k = 7 := by omega
    subst ek
    rw [oVf_W] at h3
    have wr := oW_r f p (oE f n p)
    refine x_iload_n dX4_readVerb_12 rfl ?_
    refine x_bipush dX4_readVerb_13 (by decide) ?_
    refine x_ic_ge (tgt := 41) dX4_readVerb_15 (by decide) ⟨by omega, by omega⟩ ⟨by omega, by omega⟩ (fun hb15 => ?_) (fun h => (h (by omega)).elim)
    refine x_aload_n dX4_readVerb_41 rfl ?_
    refine gf_RX4_22 dX4_readVerb_42 rfl (by assumption) ?_
    rw [h3]
    refine x_iconst dX4_readVerb_45 ?_
    refine x_ic_eq (tgt := 54) dX4_readVerb_46 (by decide) ⟨by omega, by omega⟩ ⟨by omega, by omega⟩ (fun hb46 => ?_) (fun hb46 => ?_)
    · exact x_return dX4_readVerb_54 rfl ⟨Nat.le_refl _, Nat.le_refl _⟩ ⟨rfl, rfl, by first | exact h3 | (rw [jup_nk (by omega)]; exact h3), by first | (rw [if_pos (by omega), hX o 2 (by omega)]; exact hp0) | (rw [if_neg (by omega), jup_eq]), fun x z h => by first | exact hX x z (fun q => h ⟨q.1, Or.inr q.2⟩) | (by_cases q : x = o; rw [q, jup_nk (fun w => h ⟨q, Or.inl w⟩)]; exact hX o z (fun w => h ⟨q, Or.inr w.2⟩); rw [jup_ne q]; exact hX x z (fun w => q w.1))⟩
    · refine x_aload_n dX4_readVerb_49 rfl ?_
      refine x_iload_n dX4_readVerb_50 rfl ?_
      refine pf_RX4_19 dX4_readVerb_51 rfl (by assumption) ?_
      exact x_return dX4_readVerb_54 rfl ⟨Nat.le_refl _, Nat.le_refl _⟩ ⟨rfl, rfl, by first | exact h3 | (rw [jup_nk (by omega)]; exact h3), by first | (rw [if_pos (by omega), hX o 2 (by omega)]; exact hp0) | (rw [if_neg (by omega), jup_eq]), fun x z h => by first | exact hX x z (fun q => h ⟨q.1, Or.inr q.2⟩) | (by_cases q : x = o; rw [q, jup_nk (fun w => h ⟨q, Or.inl w⟩)]; exact hX o z (fun w => h ⟨q, Or.inr w.2⟩); rw [jup_ne q]; exact hX x z (fun w => q w.1))⟩
  | succ m ih =>
    intro k D hk h3 hX
    have hn : D o 1 = n := by rw [hX o 1 (by omega)]; exact hn0
    have hf : D (o + 1) = f := by rw [← hf0]; funext z; exact hX _ z (by omega)
    have hp : D o 2 = p := by rw [hX o 2 (by omega)]; exact hp0
    have sr := oSd_r (f := f) (p := p) (e := oE f n p) (i := k)
    refine x_iload_n dX4_readVerb_12 rfl ?_
    refine x_bipush dX4_readVerb_13 (by decide) ?_
    refine x_ic_ge (tgt := 41) dX4_readVerb_15 (by decide) ⟨by omega, by omega⟩ ⟨by omega, by omega⟩ (fun h => absurd h (by omega)) (fun hb15 => ?_)
    refine x_aload_n dX4_readVerb_18 rfl ?_
    refine x_iload_n dX4_readVerb_19 rfl ?_
    refine c_RX4_61d dX4_readVerb_20 rfl (kX4_wordOf (by omega)) (Nat.le_of_ble_eq_true rfl) (Nat.le_of_ble_eq_true rfl) ⟨Nat.le_refl _, Nat.le_refl _⟩ ?_
    refine x_iload_n dX4_readVerb_23 rfl ?_
    refine c_RX4_65d dX4_readVerb_24 rfl (kX4_stands hO hn hf n0 n1 fr hp p0 (by omega) eb.2 eb.1) (by assumption) (Nat.le_of_ble_eq_true rfl) (Nat.le_of_ble_eq_true rfl) ⟨Nat.le_refl _, Nat.le_refl _⟩ ?_
    refine x_if_eq (tgt := 35) dX4_readVerb_27 (by decide) ⟨by omega, by omega⟩ (fun hb27 => ?_) (fun hb27 => ?_)
    · refine x_iinc dX4_readVerb_35 rfl (by decide) ?_
      show JX _ _ _ _ _ _ _ _ _ _ _ [_, _, _] _ _
      refine x_goto (tgt := 12) dX4_readVerb_38 (by decide) ?_
      first
        | exact ih (k + 1) _ (by omega) (by show D o 3 = if oSd f p (oE f n p) k = 0 then oVf f p (oE f n p) k else (k : Int); rw [if_pos (by omega)]; exact h3) hX
        | exact ih (k + 1) _ (by omega) (by rw [jup_eq]; show (k : Int) = if oSd f p (oE f n p) k = 0 then oVf f p (oE f n p) k else (k : Int); rw [if_neg (by omega)]) (fun x z h => by
            by_cases q : x = o
            · rw [q, jup_nk (fun w => h ⟨q, w⟩)]; exact hX o z (fun w => h ⟨q, w.2⟩)
            · rw [jup_ne q]; exact hX x z h)
    · refine x_aload_n dX4_readVerb_30 rfl ?_
      refine x_iload_n dX4_readVerb_31 rfl ?_
      refine pf_RX4_22 dX4_readVerb_32 rfl (by assumption) ?_
      refine x_iinc dX4_readVerb_35 rfl (by decide) ?_
      show JX _ _ _ _ _ _ _ _ _ _ _ [_, _, _] _ _
      refine x_goto (tgt := 12) dX4_readVerb_38 (by decide) ?_
      first
        | exact ih (k + 1) _ (by omega) (by show D o 3 = if oSd f p (oE f n p) k = 0 then oVf f p (oE f n p) k else (k : Int); rw [if_pos (by omega)]; exact h3) hX
        | exact ih (k + 1) _ (by omega) (by rw [jup_eq]; show (k : Int) = if oSd f p (oE f n p) k = 0 then oVf f p (oE f n p) k else (k : Int); rw [if_neg (by omega)]) (fun x z h => by
            by_cases q : x = o
            · rw [q, jup_nk (fun w => h ⟨q, w⟩)]; exact hX o z (fun w => h ⟨q, w.2⟩)
            · rw [jup_ne q]; exact hX x z h)
theorem kX4_readVerb {G : JG} {S : JS} {D : JD} {d : Nat} {o n : Int} {f : Int → Int} {p : Int} (hO : jOr S o) (hn : D o 1 = n) (hf : D (o + 1) = f) (n0 : 0 ≤ n) (n1 : n ≤ 60) (fr : ∀ z : Int, 0 ≤ f z ∧ f z ≤ 65535) (hp : D o 2 = p) (p0 : 0 ≤ p) (p1 : p ≤ n) : JM G yX4_readVerb cX4_readVerb 3 none (d + 7) (0, 0) S D [.inr (.inr (some o))] (jnP S (fun D2 => D2 o 3 = oW f p (oE f n p) ∧ D2 o 2 = (if oW f p (oE f n p) = -1 then p else oE f n p) ∧ ∀ x k : Int, ¬ (x = o ∧ (k = 2 ∨ k = 3)) → D2 x k = D x k)) := by
  obtain ⟨ok, ot, tk, tl⟩ := id hO
  show JX _ _ _ _ _ _ _ _ _ _ _ [_, _, _] _ _
  refine x_aload_n dX4_readVerb_0 rfl ?_
  refine c_RX4_57d dX4_readVerb_1 rfl (kX4_endOfToken hO hn hf n0 n1 fr hp p0 p1) (by assumption) (Nat.le_of_ble_eq_true rfl) (Nat.le_of_ble_eq_true rfl) ⟨Nat.le_refl _, Nat.le_refl _⟩ ?_
  refine x_istore_n dX4_readVerb_4 (by decide) ?_
  show JX _ _ _ _ _ _ _ _ _ _ _ [_, _, _] _ _
  refine x_aload_n dX4_readVerb_5 rfl ?_
  refine x_iconst dX4_readVerb_6 ?_
  refine pf_RX4_22 dX4_readVerb_7 rfl (by assumption) ?_
  refine x_iconst dX4_readVerb_10 ?_
  refine x_istore_n dX4_readVerb_11 (by decide) ?_
  show JX _ _ _ _ _ _ _ _ _ _ _ [_, _, _] _ _
  refine (verb_loop (D0 := jup D o 3 (-1)) hO (by rw [jup_nk (by omega)]; exact hn) (by rw [jup_off (by omega)]; exact hf) n0 n1 fr (by rw [jup_nk (by omega)]; exact hp) p0 p1 7 0 _ (by omega) jup_eq (fun _ _ _ => rfl)).mono ?_
  rintro v S2 D2 ⟨rfl, rfl, g1, g2, g3⟩
  refine ⟨rfl, rfl, g1, g2, fun x k h => ?_⟩
  rw [g3 x k h]
  by_cases q : x = o
  · rw [q, jup_nk (fun w => h ⟨q, Or.inr w⟩)]
  · exact jup_ne q
