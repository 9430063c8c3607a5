/-! THE REFERENCE: its parser -/
theorem oW_none {f : Int → Int} {p e : Int} (h0 : ¬ oC0 f p e) (h1 : ¬ oC1 f p e) (h2 : ¬ oC2 f p e) (h3 : ¬ oC3 f p e) (h4 : ¬ oC4 f p e) (h5 : ¬ oC5 f p e) (h6 : ¬ oC6 f p e) : oW f p e = -1 := by
  unfold oW
  rw [if_neg h6, if_neg h5, if_neg h4, if_neg h3, if_neg h2, if_neg h1, if_neg h0]
theorem oW_0 {f : Int → Int} {p e : Int} (h : oC0 f p e) : oW f p e = 0 := by
  have h2 := h
  unfold oC0 at h2
  unfold oW
  rw [if_neg (fun z : oC6 f p e => by unfold oC6 at z; omega), if_neg (fun z : oC5 f p e => by unfold oC5 at z; omega), if_neg (fun z : oC4 f p e => by unfold oC4 at z; omega), if_neg (fun z : oC3 f p e => by unfold oC3 at z; omega), if_neg (fun z : oC2 f p e => by unfold oC2 at z; omega), if_neg (fun z : oC1 f p e => by unfold oC1 at z; omega), if_pos h]
theorem oW_1 {f : Int → Int} {p e : Int} (h : oC1 f p e) : oW f p e = 1 := by
  have h2 := h
  unfold oC1 at h2
  unfold oW
  rw [if_neg (fun z : oC6 f p e => by unfold oC6 at z; omega), if_neg (fun z : oC5 f p e => by unfold oC5 at z; omega), if_neg (fun z : oC4 f p e => by unfold oC4 at z; omega), if_neg (fun z : oC3 f p e => by unfold oC3 at z; omega), if_neg (fun z : oC2 f p e => by unfold oC2 at z; omega), if_pos h]
theorem oW_2 {f : Int → Int} {p e : Int} (h : oC2 f p e) : oW f p e = 2 := by
  have h2 := h
  unfold oC2 at h2
  unfold oW
  rw [if_neg (fun z : oC6 f p e => by unfold oC6 at z; omega), if_neg (fun z : oC5 f p e => by unfold oC5 at z; omega), if_neg (fun z : oC4 f p e => by unfold oC4 at z; omega), if_neg (fun z : oC3 f p e => by unfold oC3 at z; omega), if_pos h]
theorem oW_3 {f : Int → Int} {p e : Int} (h : oC3 f p e) : oW f p e = 3 := by
  have h2 := h
  unfold oC3 at h2
  unfold oW
  rw [if_neg (fun z : oC6 f p e => by unfold oC6 at z; omega), if_neg (fun z : oC5 f p e => by unfold oC5 at z; omega), if_neg (fun z : oC4 f p e => by unfold oC4 at z; omega), if_pos h]
theorem oW_4 {f : Int → Int} {p e : Int} (h : oC4 f p e) : oW f p e = 4 := by
  have h2 := h
  unfold oC4 at h2
  unfold oW
  rw [if_neg (fun z : oC6 f p e => by unfold oC6 at z; omega), if_neg (fun z : oC5 f p e => by unfold oC5 at z; omega), if_pos h]
theorem oW_5 {f : Int → Int} {p e : Int} (h : oC5 f p e) : oW f p e = 5 := by
  have h2 := h
  unfold oC5 at h2
  unfold oW
  rw [if_neg (fun z : oC6 f p e => by unfold oC6 at z; omega), if_pos h]
theorem oW_6 {f : Int → Int} {p e : Int} (h : oC6 f p e) : oW f p e = 6 := by
  have h2 := h
  unfold oC6 at h2
  unfold oW
  rw [if_pos h]
def jDm (D D2 : JD) (M s e l m : Int) (r : Option Int) (w : JV) : Prop := match r with
  | some v => if l ≤ v ∧ v ≤ m then w = .inl v ∧ D2 = jup D M 9 e else (∃ u, w = .inl u) ∧ D2 = jup (jup D M 10 s) M 9 e
  | none => (∃ u, w = .inl u) ∧ D2 = jup (jup D M 10 s) M 9 e
def jNm (D D2 : JD) (M n : Int) (x : Option Int × Int) (w : JV) : Prop := (∀ y k : Int, ¬ (y = M ∧ (k = 9 ∨ k = 10)) → D2 y k = D y k) ∧ (0 ≤ D2 M 9 ∧ D2 M 9 ≤ n) ∧ match x.1 with
  | some v => w = .inl v ∧ D2 M 9 = x.2 ∧ D2 M 10 = D M 10
  | none => (∃ u, w = .inl u) ∧ D2 M 10 = x.2
theorem jup_o {D : JD} {a k v y z : Int} (h : ¬ (y = a ∧ z = k)) : jup D a k v y z = D y z := by
  by_cases q : y = a
  · rw [q]; exact jup_nk (fun w => h ⟨q, w⟩)
  · exact jup_ne q