/-! the reference: change -/
def planR (rt : zS) (w : Nat → Int32) (a m k : Nat) : Nat := if sam (fun i => rt 3 (a * 4096 + i)) w k m then 0 else if pl w k m then 1 else if rt 4 (a * 256 + k) ≠ M1 ∧ cnt (fR rt) (rt 4 (a * 256 + k)) 4096 = 1 then 2 else 3
theorem planR_le {rt : zS} {w : Nat → Int32} {a m k : Nat} : planR rt w a m k ≤ 3 := by unfold planR; split <;> (try split) <;> (try split) <;> omega
/-- the first j values of leaf k -/
abbrev smf (v w : Nat → Int32) (k j : Nat) : Prop := ∀ i, i < j → v (k * 16 + i) = w (k * 16 + i)
abbrev plf (w : Nat → Int32) (k j : Nat) : Prop := ∀ i, i < j → w (k * 16 + i) = w (k * 16)
theorem smf_sam {v w : Nat → Int32} {k m : Nat} : smf v w k (vin m k) ↔ sam v w k m := by
  constructor
  · intro h i hi him
    exact h i (by unfold vin; split <;> omega)
  · intro h i hi
    have := vin_lt hi
    exact h i this.1 this.2
theorem plf_pl {w : Nat → Int32} {k m : Nat} : plf w k (vin m k) ↔ pl w k m := by
  constructor
  · intro h i hi him
    exact h i (by unfold vin; split <;> omega)
  · intro h i hi
    have := vin_lt hi
    exact h i this.1 this.2
theorem smf_s {v w : Nat → Int32} {k j : Nat} : smf v w k (j + 1) ↔ smf v w k j ∧ v (k * 16 + j) = w (k * 16 + j) := by
  constructor
  · exact fun h => ⟨fun i hi => h i (by omega), h j (by omega)⟩
  · intro h i hi
    by_cases e : i = j
    · rw [e]; exact h.2
    · exact h.1 i (by omega)
theorem plf_s {w : Nat → Int32} {k j : Nat} : plf w k (j + 1) ↔ plf w k j ∧ w (k * 16 + j) = w (k * 16) := by
  constructor
  · exact fun h => ⟨fun i hi => h i (by omega), h j (by omega)⟩
  · intro h i hi
    by_cases e : i = j
    · rw [e]; exact h.2
    · exact h.1 i (by omega)
/-- a flag -/
def fl (P : Prop) [Decidable P] : Int32 := if P then nI 1 else nI 0
theorem fl_0 {P : Prop} [Decidable P] : (fl P = 0) = ¬ P := by
  unfold fl
  apply propext
  split
  · rename_i h; exact ⟨fun q => absurd q (by decide), fun q => absurd h q⟩
  · rename_i h; exact ⟨fun _ => h, fun _ => li0.symm⟩
theorem fl_t {P : Prop} [Decidable P] (h : P) : (1 : Int32) = fl P := by unfold fl; rw [if_pos h, li1]
theorem fl_f {P : Prop} [Decidable P] (h : ¬ P) : (0 : Int32) = fl P := by unfold fl; rw [if_neg h, li0]
theorem fl_c {P Q : Prop} [Decidable P] [Decidable Q] (h : P ↔ Q) : fl P = fl Q := by
  unfold fl
  by_cases c : Q
  · rw [if_pos c, if_pos (h.mpr c)]
  · rw [if_neg c, if_neg (fun q => c (h.mp q))]
set_option maxRecDepth 100000 in
theorem sp_loop {n a m k : Nat} {i2 i3 i4 : Int32} {X : Int32 → Int32 → Int32 → Int32 → Int32 → Int32 → Int32 → zS → zF Unit} {rt : zS} (ha : a < 16) (hm : m ≤ 4096) (hk : k * 16 < m) : ∀ (q j : Nat), j ≤ vin m k → 17 - j < q →
    fX3_change_59 n X q (nI a) i2 i3 i4 (nI k) (nI (vin m k)) (fl (smf (fun i => rt 3 (a * 4096 + i)) (rt 6) k j)) (fl (plf (rt 6) k j)) (nI (k * 16 + j)) rt = X (nI a) i2 i3 i4 (nI k) (fl (sam (fun i => rt 3 (a * 4096 + i)) (rt 6) k m)) (fl (pl (rt 6) k m)) rt := by
  have h3 := ml_3
  have h6 := ml_6
  have hv : vin m k ≤ 16 := vin_le
  intro q
  induction q with
  | zero => intro j _ h; omega
  | succ q ih =>
    intro j hj hq
    rw [fX3_change_59, li16, nml, nad]
    by_cases c : vin m k ≤ j
    · have e : j = vin m k := by omega
      subst e
      rw [if_pos (by rw [nle (by omega) (by omega)]; omega), fl_c smf_sam, fl_c plf_pl]
    · have hv2 := vin_lt (show j < vin m k by omega)
      rw [if_neg (by rw [nle (by omega) (by omega)]; omega)]
      -- the second flag, and on
      have hp : ∀ s : Int32, s = fl (smf (fun i => rt 3 (a * 4096 + i)) (rt 6) k (j + 1)) → fX3_change_105 n (fun (i1 : Int32) (i2 : Int32) (i3 : Int32) (i4 : Int32) (i5 : Int32) (i6 : Int32) (i7 : Int32) (i8 : Int32) (i9 : Int32) (st : zS) => fX3_change_59 n X q i1 i2 i3 i4 i5 i6 i7 i8 i9 st) (nI a) i2 i3 i4 (nI k) (nI (vin m k)) (fl (plf (rt 6) k j)) (nI (k * 16 + j)) s rt = X (nI a) i2 i3 i4 (nI k) (fl (sam (fun i => rt 3 (a * 4096 + i)) (rt 6) k m)) (fl (pl (rt 6) k m)) rt := by
        intro s hs
        have goon : ∀ p : Int32, p = fl (plf (rt 6) k (j + 1)) → fX3_change_59 n X q (nI a) i2 i3 i4 (nI k) (nI (vin m k)) s p (nI (k * 16 + j) + (1 : Int32)) rt = X (nI a) i2 i3 i4 (nI k) (fl (sam (fun i => rt 3 (a * 4096 + i)) (rt 6) k m)) (fl (pl (rt 6) k m)) rt := by
          intro p hpp
          rw [hs, hpp, li1, nad, Nat.add_assoc]
          exact ih (j + 1) (by omega) (by omega)
        unfold fX3_change_105
        by_cases c2 : plf (rt 6) k j
        · rw [if_neg (by rw [fl_0]; exact fun q => q c2), if_pos ((inb_nI (by omega)).mpr (by omega)), li16, nml, if_pos ((inb_nI (by omega)).mpr (by omega)), ncl (by omega), ncl (by omega), show 16 * k = k * 16 by omega]
          by_cases c3 : rt 6 (k * 16 + j) = rt 6 (k * 16)
          · rw [if_pos c3]
            exact goon _ (fl_t (plf_s.mpr ⟨c2, c3⟩))
          · rw [if_neg c3]
            exact goon _ (fl_f (fun q => c3 (plf_s.mp q).2))
        · rw [if_pos (by rw [fl_0]; exact c2)]
          exact goon _ (fl_f (fun q => c2 (plf_s.mp q).1))
      by_cases c2 : smf (fun i => rt 3 (a * 4096 + i)) (rt 6) k j
      · rw [if_neg (by rw [fl_0]; exact fun q => q c2), if_pos ((inb_nI (by omega)).mpr (by omega)), li4096, nml, nad, if_pos ((inb_nI (by omega)).mpr (by omega)), ncl (by omega), ncl (by omega)]
        have e9 : rt 3 (4096 * a + (k * 16 + j)) = (fun i => rt 3 (a * 4096 + i)) (k * 16 + j) := by show _ = rt 3 (a * 4096 + (k * 16 + j)); congr 1; omega
        rw [e9]
        by_cases c3 : rt 6 (k * 16 + j) = (fun i => rt 3 (a * 4096 + i)) (k * 16 + j)
        · rw [if_pos c3]
          exact hp _ (fl_t (smf_s.mpr ⟨c2, c3.symm⟩))
        · rw [if_neg c3]
          unfold fX3_change_104
          exact hp _ (fl_f (fun q => c3 (smf_s.mp q).2.symm))
      · rw [if_pos (by rw [fl_0]; exact c2)]
        unfold fX3_change_104
        exact hp _ (fl_f (fun q => c2 (smf_s.mp q).1))
theorem f_inLeaf {n m k : Nat} {st : zS} (hm : m ≤ 4096) (hk : k * 16 < m) : fX3_inLeaf n (nI m) (nI k) st = some (.inl (nI (vin m k)), st) := by
  unfold fX3_inLeaf vin
  simp (disch := omega) only [li16, nml, show 16 * k = k * 16 by omega, nsb, nle]
  by_cases c : 16 ≤ m - k * 16
  · rw [if_pos c, if_neg (by omega)]
  · rw [if_neg c, if_pos (by omega)]
