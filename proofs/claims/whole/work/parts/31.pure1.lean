/-! readValues and what stands on it -/
/-- value i of the row r -/
def VR (st : zS) (r i : Nat) : Int32 := if st (r + 16) (i / 16) = M1 then st (r + 32) (i / 16) else st 3 ((st (r + 16) (i / 16)).toNatClampNeg * 16 + i % 16)
/-- a leaf's place is none, or one of the 512 -/
abbrev okp (x : Int32) : Prop := x = M1 ∨ ∃ p : Nat, p < 512 ∧ x = nI p
theorem VR_upA {st : zS} {r T i : Nat} {g : Nat → Int32} (h1 : r + 16 ≠ T) (h2 : r + 32 ≠ T) (h3 : 3 ≠ T) : VR (upA st T g) r i = VR st r i := by
  unfold VR
  rw [upA_n h1, upA_n h2, upA_n h3]
theorem f_read {n p o T a c : Nat} {st : zS} (hp : p < 512) (ho : o + c ≤ 16) (hT : al T ≤ 8192) (ha : a + c ≤ al T) : fX0_read n (nI p) (nI o) T (nI a) (nI c) st = some (.inl (), upA st T (fun j => if a ≤ j ∧ j < a + c then st 3 (p * 16 + o + (j - a)) else st T j)) := by
  unfold fX0_read
  have h3 := al_3
  rw [if_pos ?_]
  · simp (disch := omega) only [li16, nml, nad, ncl, zl_s]
    rfl
  · unfold cpok
    simp (disch := omega) only [li16, li0, nml, nad, ncl, nlt]
    omega
theorem rv_loop {n r T f t a : Nat} {X : zS → zF Unit} (hr : isRow r) (hT : T = 6 ∨ T = 7) (hft : f ≤ t) (ht : t ≤ 4096) (ha : a + (t - f) ≤ 4096) (hn : 8192 < n) : ∀ (k i : Nat) (st : zS), f / 16 ≤ i → 257 - i < k → i ≤ 256 → (∀ q, q < lf t → okp (st (r + 16) q)) →
    fX2_readValues_6 n X k r (nI f) (nI t) T (nI a) (nI i) st = X (upA st T (fun j => if a + ((if f < i * 16 then i * 16 else f) - f) ≤ j ∧ j < a + (t - f) then VR st r (f + (j - a)) else st T j)) := by
  have hT1 : r + 16 ≠ T := by omega
  have hT2 : r + 32 ≠ T := by omega
  have hT3 : 3 ≠ T := by omega
  have haT : al T = 4096 := by rcases hT with rfl | rfl <;> rfl
  intro k
  induction k with
  | zero => intro i st _ h; omega
  | succ k ih =>
    intro i st h1 h2 h3 hp
    rw [fX2_readValues_6, f_leavesFor (by omega), zb_s]
    have hlf : lf t ≤ 256 := by unfold lf; omega
    simp (disch := omega) only [nle]
    by_cases h : lf t ≤ i
    · rw [if_pos h]
      congr 1
      have hz : t ≤ i * 16 := by unfold lf at h; omega
      rw [show (fun j => if a + ((if f < i * 16 then i * 16 else f) - f) ≤ j ∧ j < a + (t - f) then VR st r (f + (j - a)) else st T j) = st T from funext fun j => if_neg (by split <;> omega), upA_id]
    · have hz : i * 16 < t := by unfold lf at h; omega
      have hz2 : f < (i + 1) * 16 := by omega
      have h256 : i < 256 := by omega
      rw [if_neg h]
      simp (disch := omega) only [nib, ncl, li16, li1, lim, nad, nml, nlt, nit]
      rw [if_pos (by rw [al_p hr]; exact h256)]
      obtain ⟨L, eL, hL1, hL2, hL3⟩ : ∃ L, (if f < i * 16 then i * 16 else f) = L ∧ f ≤ L ∧ i * 16 ≤ L ∧ L ≤ t ∧ L < (i + 1) * 16 := ⟨_, rfl, by split <;> omega, by split <;> omega, by split <;> omega, by split <;> omega⟩
      obtain ⟨E, eE, hE1, hE2, hE3⟩ : ∃ E, (if (i + 1) * 16 < t then (i + 1) * 16 else t) = E ∧ L ≤ E ∧ E ≤ t ∧ E ≤ (i + 1) * 16 ∧ (if f < (i + 1) * 16 then (i + 1) * 16 else f) = (i + 1) * 16 ∧ (E = (i + 1) * 16 ∨ E = t) := ⟨_, rfl, by split <;> omega, by split <;> omega, by split <;> omega, by rw [if_pos hz2], by split <;> omega⟩
      rw [eL, eE]
      obtain ⟨hE3, hE4, hE5⟩ := hE3
      -- behind this leaf
      have fin : ∀ g : Nat → Int32, (∀ j, g j = if a + (L - f) ≤ j ∧ j < a + (E - f) then VR st r (f + (j - a)) else st T j) → fX2_readValues_6 n X k r (nI f) (nI t) T (nI a) (nI (i + 1)) (upA st T g) = X (upA st T (fun j => if a + (L - f) ≤ j ∧ j < a + (t - f) then VR st r (f + (j - a)) else st T j)) := by
        intro g hg
        rw [ih (i + 1) _ (by omega) (by omega) (by omega) (fun q hq => by rw [upA_n hT1]; exact hp q hq), upA_uu, hE4]
        congr 1
        apply upA_c
        intro j
        rw [upA_s, VR_upA hT1 hT2 hT3, hg j]
        by_cases c1 : a + ((i + 1) * 16 - f) ≤ j ∧ j < a + (t - f)
        · rw [if_pos c1, if_pos (by omega)]
        · rw [if_neg c1]
          by_cases c2 : a + (L - f) ≤ j ∧ j < a + (E - f)
          · rw [if_pos c2, if_pos (by omega)]
          · rw [if_neg c2, if_neg (by omega)]
      rcases hp i (by omega) with e1 | ⟨p, hp1, e1⟩
      · rw [if_pos e1, if_pos (by rw [al_n hr]; exact h256)]
        simp (disch := omega) only [nsb, nad]
        rw [f_fill (by omega) (by omega) (by omega) hn, zb_s]
        apply fin
        intro j
        have eq1 : (a + L - f = a + (L - f)) := by omega
        have eq2 : (a + L - f + E - L = a + (E - f)) := by omega
        rw [eq1] at eq2 ⊢
        rw [eq2]
        by_cases c2 : a + (L - f) ≤ j ∧ j < a + (E - f)
        · rw [if_pos c2, if_pos c2]
          unfold VR
          rw [show (f + (j - a)) / 16 = i by omega, if_pos e1]
        · rw [if_neg c2, if_neg c2]
      · rw [e1, if_neg (nI_m1 (by omega))]
        simp (disch := omega) only [nrm, nsb, nad]
        rw [f_read hp1 (by omega) (by omega) (by omega), zb_s]
        apply fin
        intro j
        have eq1 : (a + L - f = a + (L - f)) := by omega
        rw [eq1, show a + (L - f) + (E - L) = a + (E - f) by omega]
        by_cases c2 : a + (L - f) ≤ j ∧ j < a + (E - f)
        · rw [if_pos c2, if_pos c2]
          unfold VR
          rw [show (f + (j - a)) / 16 = i by omega, e1, if_neg (nI_m1 (by omega)), ncl (by omega)]
          congr 1
          omega
        · rw [if_neg c2, if_neg c2]
theorem f_readValues {n r T f t a : Nat} {st : zS} (hr : isRow r) (hT : T = 6 ∨ T = 7) (hft : f ≤ t) (ht : t ≤ 4096) (ha : a + (t - f) ≤ 4096) (hn : 8192 < n) (hp : ∀ q, q < lf t → okp (st (r + 16) q)) :
    fX2_readValues n r (nI f) (nI t) T (nI a) st = some (.inl (), upA st T (fun j => if a ≤ j ∧ j < a + (t - f) then VR st r (f + (j - a)) else st T j)) := by
  unfold fX2_readValues
  simp (disch := omega) only [li16, ndv]
  rw [rv_loop hr hT hft ht ha hn n (f / 16) st (Nat.le_refl _) (by omega) (by omega) hp]
  have e : (if f < f / 16 * 16 then f / 16 * 16 else f) = f := by split <;> omega
  rw [e, Nat.sub_self, Nat.add_zero]
