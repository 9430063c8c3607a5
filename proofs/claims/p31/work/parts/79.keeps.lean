/-! WHAT THE LAW'S ACTS KEEP: water and ballast are together what came -/
def pIn (e : Int) (r : Int → Int) : Prop := sTot r = r 4 + r 5 ∧ 1 ≤ r 1 ∧ r 1 ≤ 3 ∧ 1 ≤ r 2 ∧ r 4 ≤ 20000 * e ∧ r 5 ≤ 300000 + 200000 * e
theorem pIn.mono {e e2 : Int} {r : Int → Int} (h : pIn e r) (he : e ≤ e2) : pIn e2 r := by
  obtain ⟨a, b, c, d, f, g⟩ := h
  exact ⟨a, b, c, d, by omega, by omega⟩
/-- what no sum of water and ballast is made of -/
def pOff (r r2 : Int → Int) : Prop := r2 0 = r 0 ∧ r2 1 = r 1 ∧ r2 2 = r 2 ∧ r2 4 = r 4 ∧ r2 5 = r 5 ∧ (∀ i : Int, 0 ≤ i → i < 5 → r2 (8 + 3 * i) = r (8 + 3 * i)) ∧ (∀ c : Int, 0 ≤ c → c < 4 → r2 (23 + 11 * c) = r (23 + 11 * c)) ∧ (∀ b : Int, 0 ≤ b → b < 12 → r2 (70 + 8 * b) = r (70 + 8 * b))
theorem pOff.tot {t : Int} {r r2 : Int → Int} (hI : rIn t r) (h : pOff r r2) : sTot r2 = sTot r := by
  have b1 := hI.1
  obtain ⟨h0, h1, h2, -, -, a, b, c⟩ := h
  unfold sTot
  rw [h0, h1, h2, jsum_congr (f := fun i => r2 (8 + 3 * i)) (g := fun i => r (8 + 3 * i)) (fun k x y => a k x (by omega)), jsum_congr (f := fun k => r2 (23 + 11 * k)) (g := fun k => r (23 + 11 * k)) (fun k x y => b k x (by omega)), jsum_congr (f := fun k => r2 (70 + 8 * k)) (g := fun k => r (70 + 8 * k)) (fun k x y => c k x (by omega))]
theorem pIn.off {t e : Int} {r r2 : Int → Int} (hI : rIn t r) (h : pIn e r) (o : pOff r r2) : pIn e r2 := by
  obtain ⟨a, b, c, d, f, g⟩ := h
  have ht := o.tot hI
  obtain ⟨h0, h1, h2, h4, h5, -, -, -⟩ := o
  exact ⟨by omega, by omega, by omega, by omega, by omega, by omega⟩
theorem pOff.one {r : Int → Int} {k v : Int} (h0 : k = 3 ∨ 24 ≤ k) (h1 : ∀ c : Int, 0 ≤ c → c < 4 → k ≠ 23 + 11 * c) (h2 : ∀ b : Int, 0 ≤ b → b < 12 → k ≠ 70 + 8 * b) : pOff r (rup r k v) :=
  ⟨rup_ne (by omega), rup_ne (by omega), rup_ne (by omega), rup_ne (by omega), rup_ne (by omega), fun i x y => rup_ne (by omega), fun c x y => rup_ne (fun e => h1 c x y e.symm), fun b x y => rup_ne (fun e => h2 b x y e.symm)⟩
theorem sTot_allN {t : Int} {r : Int → Int} (hI : rIn t r) : ∀ k : Nat, (k : Int) ≤ r 1 → sTot (sAllN r k) = sTot r
  | 0, _ => rfl
  | k + 1, hk => by
    have b1 := hI.1
    have ih := sTot_allN hI k (by omega)
    have hk2 := hI.allN k (by omega)
    have e29 := sAllN_keep (r := r) k (29 + 11 * k) (by omega) (fun i _ _ => by omega) (fun c _ _ => by omega) (fun c x y => hI.gates c x (by omega))
    have e1 := sAllN_keep (r := r) k 1 (by omega) (fun i _ _ => by omega) (fun c _ _ => by omega) (fun c x y => hI.gates c x (by omega))
    have g := hI.gates k (by omega) (by omega)
    show sTot (if 0 ≤ sAllN r k (29 + 11 * k) then sSh (sAllN r k) k (sAllN r k (29 + 11 * k)) else sAllN r k) = sTot r
    rw [e29]
    split
    · rw [sTot_sh hk2 (by omega) (by omega) (by omega)]
      exact ih
    · exact ih
theorem pIn.all {t e : Int} {r : Int → Int} (hI : rIn t r) (h : pIn e r) : pIn e (sAll r) := by
  have b1 := hI.1
  obtain ⟨a, b, c, d, f, g⟩ := h
  have ht : sTot (sAll r) = sTot r := sTot_allN hI _ (by omega)
  have k1 : sAll r 1 = r 1 := hI.keep (by omega)
  have k2 : sAll r 2 = r 2 := hI.keep (by omega)
  have k4 : sAll r 4 = r 4 := hI.keep (by omega)
  have k5 : sAll r 5 = r 5 := hI.keep (by omega)
  exact ⟨by omega, by omega, by omega, by omega, by omega, by omega⟩
/-- a chamber's own numbers stay when all share -/
theorem rIn.keepC {t : Int} {r : Int → Int} (hI : rIn t r) {c z : Int} (h0 : 0 ≤ c ∧ c < 4) (hz : 3 ≤ z ∧ z < 11) {j : Int} (hj : j = 21 + 11 * c + z) : sAll r j = r j := by
  have b1 := hI.1
  subst hj
  exact sAllN_keep _ _ (by omega) (fun i _ _ => by omega) (fun c _ _ => by omega) (fun c x y => hI.gates c x (by omega))
theorem pIn.share {t e c g : Int} {r : Int → Int} (hI : rIn t r) (hc : 0 ≤ c ∧ c < r 1) (hg : g = 0 ∨ g = 1) (h : pIn e r) : pIn e (sSh r c g) := by
  have b1 := hI.1
  obtain ⟨a, b, cc, d, f, gg⟩ := h
  have ht := sTot_sh hI hc.1 hc.2 hg
  have o : ∀ j : Int, j < 8 → sSh r c g j = r j := fun j hj => by
    unfold sSh
    rw [rup_ne (by omega), rup_ne (by omega)]
  have k1 := o 1 (by omega)
  have k2 := o 2 (by omega)
  have k4 := o 4 (by omega)
  have k5 := o 5 (by omega)
  exact ⟨by omega, by omega, by omega, by omega, by omega, by omega⟩
theorem pIn.supply {t e i v : Int} {r : Int → Int} (hI : rIn t r) (hi : 0 ≤ i ∧ i < r 0) (hv : v ≤ 20000) (h : pIn e r) : pIn (e + 1) (rSupply i v r) := by
  have b1 := hI.1
  obtain ⟨a, b, cc, d, f, gg⟩ := h
  have hw : wA i + 2 = 8 + 3 * i := by rw [wA_r (by omega)]; omega
  have ht := sTot_wat (p := i) (x := r (8 + 3 * i) + v) (Or.inl hi) hI
  rw [hw] at ht
  have o : ∀ j : Int, j < 8 → j ≠ 4 → rSupply i v r j = r j := fun j hj h4 => by
    unfold rSupply
    rw [rup_ne h4, rup_ne (by omega)]
  have k0 := o 0 (by omega) (by omega)
  have k1 := o 1 (by omega) (by omega)
  have k2 := o 2 (by omega) (by omega)
  have k5 := o 5 (by omega) (by omega)
  have k4 : rSupply i v r 4 = r 4 + v := rup_eq
  have e1 : sTot (rSupply i v r) = sTot (rup r (8 + 3 * i) (r (8 + 3 * i) + v)) := by
    have q : ∀ j : Int, j ≠ 4 → rSupply i v r j = rup r (8 + 3 * i) (r (8 + 3 * i) + v) j := fun j hj => rup_ne hj
    unfold sTot
    rw [q 0 (by omega), q 1 (by omega), q 2 (by omega), jsum_congr (f := fun k => rSupply i v r (8 + 3 * k)) (g := fun k => rup r (8 + 3 * i) (r (8 + 3 * i) + v) (8 + 3 * k)) (fun k x y => q _ (by omega)), jsum_congr (f := fun k => rSupply i v r (23 + 11 * k)) (g := fun k => rup r (8 + 3 * i) (r (8 + 3 * i) + v) (23 + 11 * k)) (fun k x y => q _ (by omega)), jsum_congr (f := fun k => rSupply i v r (70 + 8 * k)) (g := fun k => rup r (8 + 3 * i) (r (8 + 3 * i) + v) (70 + 8 * k)) (fun k x y => q _ (by omega))]
  exact ⟨by omega, by omega, by omega, by omega, by omega, by omega⟩
theorem pIn.load {t e k v : Int} {r : Int → Int} (hI : rIn t r) (hk : 0 ≤ k ∧ k < r 2) (h : pIn e r) : pIn e (rLoad k v r) := by
  have b1 := hI.1
  exact h.off hI (pOff.one (by omega) (fun c _ _ => by omega) (fun b _ _ => by omega))
theorem pIn.pump {t e k v : Int} {r : Int → Int} (hI : rIn t r) (hk : 0 ≤ k ∧ k < r 2) (hv : -1000 ≤ v) (hw : v ≤ r (wA (r (71 + 8 * k)) + 2)) (h : pIn e r) : pIn e (rPump k v r) := by
  have b1 := hI.1
  obtain ⟨a, b, cc, d, f, gg⟩ := h
  have bp := (hI.bw hk.1 hk.2).1
  have tw := bp.two hI 0
  have T := hI.2.2.2.2.1
  have ht := sTot_wat (x := r (wA (r (71 + 8 * k)) + 2) - v) bp hI
  have hA := hI.wat1 (t2 := t + 1) (x := r (wA (r (71 + 8 * k)) + 2) - v) bp (by omega) (by omega) (by omega)
  have hlt : wA (r (71 + 8 * k)) + 2 < 60 ∧ 8 ≤ wA (r (71 + 8 * k)) + 2 := by
    rcases tw with ⟨_, _, _, q, _⟩ | ⟨c, _, _, _, _, q, _⟩ <;> omega
  have e2 : rup r (wA (r (71 + 8 * k)) + 2) (r (wA (r (71 + 8 * k)) + 2) - v) 2 = r 2 := rup_ne (by omega)
  have e70 : rup r (wA (r (71 + 8 * k)) + 2) (r (wA (r (71 + 8 * k)) + 2) - v) (70 + 8 * k) = r (70 + 8 * k) := rup_ne (by omega)
  have hp := sTot_put1 (v := v) hA hk.1 (by rw [e2]; exact hk.2)
  rw [e70] at hp
  have hs : sTot (rPump k v r) = sTot r := by
    unfold rPump
    rw [hp, ht]
    omega
  have o : ∀ j : Int, j < 8 → rPump k v r j = r j := fun j hj => by
    unfold rPump
    rw [rup_ne (by omega), rup_ne (by omega)]
  have k1 := o 1 (by omega)
  have k2 := o 2 (by omega)
  have k4 := o 4 (by omega)
  have k5 := o 5 (by omega)
  exact ⟨by omega, by omega, by omega, by omega, by omega, by omega⟩
theorem pOff.psd {r r2 : Int → Int} {c g k : Int} (hc : 0 ≤ c) (hg : g = 0 ∨ g = 1) (hc4 : c < 4) (hk : 0 ≤ k) (h : rPsd r r2 c g k) : pOff r r2 := by
  have q : ∀ j : Int, j < 8 → r2 j = r j := fun j hj => h j (by omega) (by omega) (by omega) (by omega) (by omega)
  exact ⟨q 0 (by omega), q 1 (by omega), q 2 (by omega), q 4 (by omega), q 5 (by omega), fun i x y => h _ (by omega) (by omega) (by omega) (by omega) (by omega), fun c2 x y => h _ (by omega) (by omega) (by omega) (by omega) (by omega), fun b x y => h _ (by omega) (by omega) (by omega) (by omega) (by omega)⟩
theorem pIn.addB {t e p l w i hh : Int} {r : Int → Int} (hI : rIn t r) (h : pIn e r) : pIn e (rAddB p l w i hh r) := by
  have b1 := hI.1
  obtain ⟨a, b, c, d, f, g⟩ := h
  have o : ∀ j : Int, j ≠ 2 → (j < 65 + 8 * r 2 ∨ 73 + 8 * r 2 ≤ j) → rAddB p l w i hh r j = r j := fun j h2 hj => rAddB_o h2 hj
  obtain ⟨n2, -, -, -, -, -, n70, -, -⟩ := rAddB_n (p := p) (l := l) (w := w) (i := i) (h := hh) (r := r) (by omega)
  have ht : sTot (rAddB p l w i hh r) = sTot r := by
    unfold sTot
    rw [o 0 (by omega) (by omega), o 1 (by omega) (by omega), n2, jsum_succ (by omega), n70, jsum_congr (f := fun i2 => rAddB p l w i hh r (8 + 3 * i2)) (g := fun i => r (8 + 3 * i)) (fun k _ _ => o _ (by omega) (by omega)), jsum_congr (f := fun k => rAddB p l w i hh r (23 + 11 * k)) (g := fun k => r (23 + 11 * k)) (fun k _ _ => o _ (by omega) (by omega)), jsum_congr (f := fun k => rAddB p l w i hh r (70 + 8 * k)) (g := fun k => r (70 + 8 * k)) (fun k _ _ => o _ (by omega) (by omega))]
    omega
  have k1 := o 1 (by omega) (by omega)
  have k4 := o 4 (by omega) (by omega)
  have k5 := o 5 (by omega) (by omega)
  exact ⟨by omega, by omega, by omega, by omega, by omega, by omega⟩
theorem sTot_addR {a f w : Int} {r : Int → Int} (b0 : 0 ≤ r 0 ∧ r 0 ≤ 4) (b1 : 0 ≤ r 1 ∧ r 1 ≤ 4) : sTot (rPutR a f w r) = sTot r + w := by
  have o : ∀ j : Int, j ≠ 0 → j ≠ 5 → (j < 6 + 3 * r 0 ∨ 9 + 3 * r 0 ≤ j) → rPutR a f w r j = r j := fun j h0 h5 hj => rPutR_o h0 h5 hj
  obtain ⟨n0, -, -, -, n8⟩ := rPutR_n (a := a) (f := f) (w := w) (r := r) (by omega)
  unfold sTot
  rw [n0, o 1 (by omega) (by omega) (by omega), o 2 (by omega) (by omega) (by omega), jsum_succ (by omega), n8, jsum_congr (f := fun i => rPutR a f w r (8 + 3 * i)) (g := fun i => r (8 + 3 * i)) (fun k _ _ => o _ (by omega) (by omega) (by omega)), jsum_congr (f := fun k => rPutR a f w r (23 + 11 * k)) (g := fun k => r (23 + 11 * k)) (fun k _ _ => o _ (by omega) (by omega) (by omega)), jsum_congr (f := fun k => rPutR a f w r (70 + 8 * k)) (g := fun k => r (70 + 8 * k)) (fun k _ _ => o _ (by omega) (by omega) (by omega))]
  omega
theorem sTot_addC {a l f : Int} {r : Int → Int} (b0 : 0 ≤ r 0 ∧ r 0 ≤ 5) (b1 : 0 ≤ r 1 ∧ r 1 ≤ 3) (b2 : 0 ≤ r 2 ∧ r 2 ≤ 12) : sTot (rPutC a l f r) = sTot r := by
  have o : ∀ j : Int, j ≠ 1 → j ≠ 161 + 13 * r 1 → (j < 21 + 11 * r 1 ∨ 32 + 11 * r 1 ≤ j) → rPutC a l f r j = r j := fun j h0 h5 hj => rPutC_o h0 h5 hj
  obtain ⟨n1, -, -, -, n23, -⟩ := rPutC_n (a := a) (f := f) (l := l) (r := r) (by omega)
  unfold sTot
  rw [n1, o 0 (by omega) (by omega) (by omega), o 2 (by omega) (by omega) (by omega), jsum_succ (by omega), n23, jsum_congr (f := fun i => rPutC a l f r (8 + 3 * i)) (g := fun i => r (8 + 3 * i)) (fun k _ _ => o _ (by omega) (by omega) (by omega)), jsum_congr (f := fun k => rPutC a l f r (23 + 11 * k)) (g := fun k => r (23 + 11 * k)) (fun k _ _ => o _ (by omega) (by omega) (by omega)), jsum_congr (f := fun k => rPutC a l f r (70 + 8 * k)) (g := fun k => r (70 + 8 * k)) (fun k _ _ => o _ (by omega) (by omega) (by omega))]
  omega
theorem addC_nums {a l f a2 f2 w2 : Int} {r : Int → Int} (b0 : 0 ≤ r 0 ∧ r 0 ≤ 4) (b1 : 0 ≤ r 1 ∧ r 1 ≤ 3) (b2 : 0 ≤ r 2 ∧ r 2 ≤ 12) : sTot (rAddC a l f a2 f2 w2 r) = sTot r + w2 ∧ rAddC a l f a2 f2 w2 r 1 = r 1 + 1 ∧ rAddC a l f a2 f2 w2 r 2 = r 2 ∧ rAddC a l f a2 f2 w2 r 4 = r 4 ∧ rAddC a l f a2 f2 w2 r 5 = r 5 + w2 := by
  have o : ∀ j : Int, j ≠ 1 → j ≠ 161 + 13 * r 1 → (j < 21 + 11 * r 1 ∨ 32 + 11 * r 1 ≤ j) → rPutC a l f r j = r j := fun j h0 h5 hj => rPutC_o h0 h5 hj
  have n1 : rPutC a l f r 1 = r 1 + 1 := (rPutC_n (a := a) (f := f) (l := l) (r := r) (by omega)).1
  have c0 := o 0 (by omega) (by omega) (by omega)
  have c2 := o 2 (by omega) (by omega) (by omega)
  have c4 := o 4 (by omega) (by omega) (by omega)
  have c5 := o 5 (by omega) (by omega) (by omega)
  have t1 := sTot_addR (a := a2) (f := f2) (w := w2) (r := rPutC a l f r) (by omega) (by omega)
  have t2 := sTot_addC (a := a) (l := l) (f := f) (r := r) ⟨by omega, by omega⟩ b1 b2
  have o2 : ∀ j : Int, j ≠ 0 → j ≠ 5 → j < 6 → rPutR a2 f2 w2 (rPutC a l f r) j = rPutC a l f r j := fun j h0 h5 hj => rPutR_o h0 h5 (by omega)
  have m5 := (rPutR_n (a := a2) (f := f2) (w := w2) (r := rPutC a l f r) (by omega)).2.1
  unfold rAddC
  refine ⟨by omega, ?_, ?_, ?_, by omega⟩
  · rw [o2 1 (by omega) (by omega) (by omega), n1]
  · rw [o2 2 (by omega) (by omega) (by omega), c2]
  · rw [o2 4 (by omega) (by omega) (by omega), c4]
theorem pIn.addC {t e a l f a2 f2 w2 : Int} {r : Int → Int} (hI : rIn t r) (h : pIn e r) (h2 : r 1 ≤ 2) (hw : w2 ≤ 200000) : pIn (e + 1) (rAddC a l f a2 f2 w2 r) := by
  have b1 := hI.1
  obtain ⟨q, b, c, d, f9, g⟩ := h
  obtain ⟨n, n1, n2, n4, n5⟩ := addC_nums (a := a) (l := l) (f := f) (a2 := a2) (f2 := f2) (w2 := w2) (r := r) ⟨by omega, by omega⟩ ⟨by omega, by omega⟩ ⟨by omega, by omega⟩
  exact ⟨by omega, by omega, by omega, by omega, by omega, by omega⟩
/-- all gates are closed: nothing is shared -/
theorem sAllN_closed {r : Int → Int} : ∀ k : Nat, (∀ c : Int, 0 ≤ c → c < k → r (29 + 11 * c) < 0) → sAllN r k = r
  | 0, _ => rfl
  | k + 1, h => by
    have ih := sAllN_closed (r := r) k (fun c x y => h c x (by omega))
    show (if 0 ≤ sAllN r k (29 + 11 * k) then sSh (sAllN r k) k (sAllN r k (29 + 11 * k)) else sAllN r k) = r
    rw [ih, if_neg (by have := h k (by omega) (by omega); omega)]
theorem closed_all {r : Int → Int} (h0 : jsum (wO r) (r 1).toNat = 0) : ∀ c : Int, 0 ≤ c → c < r 1 → r (29 + 11 * c) < 0 := fun c x y => by
  have h := jsum_mem (f := wO r) (i := c) (n := (r 1).toNat) (fun k _ _ => by unfold wO; split <;> omega) x (by omega)
  rw [h0] at h
  unfold wO at h
  split at h <;> omega
theorem open_some {r : Int → Int} {c : Int} (hc : 0 ≤ c ∧ c < r 1) (h0 : 0 ≤ r (29 + 11 * c)) : jsum (wO r) (r 1).toNat ≠ 0 := fun h => by
  have := closed_all h c hc.1 hc.2
  omega
/-- to share once more changes nothing -/
theorem sh_nums {t : Int} {r : Int → Int} (hI : rIn t r) {c g : Int} (hc : 0 ≤ c ∧ c < r 1) (hg : g = 0 ∨ g = 1) : sSh r c g (23 + 11 * c) = sShd r c g ∧ sSh r c g (8 + 3 * (c + g)) = r (23 + 11 * c) + r (8 + 3 * (c + g)) - sShd r c g ∧ sShd (sSh r c g) c g = sShd r c g := by
  have b1 := hI.1
  have e1 : sSh r c g (23 + 11 * c) = sShd r c g := rup_eq
  have e2 : sSh r c g (8 + 3 * (c + g)) = r (23 + 11 * c) + r (8 + 3 * (c + g)) - sShd r c g := by
    unfold sSh
    rw [rup_ne (by omega), rup_eq]
  have ws := sSh_ws (r := r) (c := c) (g := g) ⟨hc.1, by omega⟩ hg
  have o : ∀ j : Int, j ≠ 8 + 3 * (c + g) → j ≠ 23 + 11 * c → sSh r c g j = r j := fun j h1 h2 => by
    unfold sSh
    rw [rup_ne h2, rup_ne h1]
  have hs := ws.same
  refine ⟨e1, e2, ?_⟩
  have eh : sHt (sSh r c g) c g = sHt r c g := by
    unfold sHt
    rw [sFl_same hs, sFl_same hs, e1, e2, o (21 + 11 * c) (by omega) (by omega), o (22 + 11 * c) (by omega) (by omega), o (6 + 3 * (c + g)) (by omega) (by omega), o (7 + 3 * (c + g)) (by omega) (by omega), show sShd r c g + (r (23 + 11 * c) + r (8 + 3 * (c + g)) - sShd r c g) = r (23 + 11 * c) + r (8 + 3 * (c + g)) by omega]
  show min (max (sSh r c g (21 + 11 * c) * (sHt (sSh r c g) c g - sSh r c g (22 + 11 * c)) / 100 - sFl (sSh r c g) (100 + c)) 0) (sSh r c g (23 + 11 * c) + sSh r c g (8 + 3 * (c + g))) = _
  rw [eh, sFl_same hs, e1, e2, o (21 + 11 * c) (by omega) (by omega), o (22 + 11 * c) (by omega) (by omega), show sShd r c g + (r (23 + 11 * c) + r (8 + 3 * (c + g)) - sShd r c g) = r (23 + 11 * c) + r (8 + 3 * (c + g)) by omega]
  rfl

