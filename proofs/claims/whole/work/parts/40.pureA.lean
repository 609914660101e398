/-! an array is CHANGED: all its leaves, values W -/
def Chg8 (st st' : zS) (w : Nat → Int32) (a m : Nat) : Prop :=
  (∀ t, t < 4096 → (∀ k, k < lf m → t ≠ a * 256 + k) → fC st' t = fC st t ∧ ∀ j, j < 16 → LV st' t j = LV st t j) ∧
  (∀ k, k < lf m → 
    (plan st w a m k = 0 → fC st' (a * 256 + k) = fC st (a * 256 + k) ∧ ∀ j, j < 16 → LV st' (a * 256 + k) j = LV st (a * 256 + k) j) ∧
    (plan st w a m k = 1 → fC st' (a * 256 + k) = M1 ∧ ∀ j, j < 16 → LV st' (a * 256 + k) j = w (k * 16)) ∧
    (plan st w a m k = 2 → fC st' (a * 256 + k) = fC st (a * 256 + k) ∧ ∀ j, j < vin m k → LV st' (a * 256 + k) j = w (k * 16 + j)) ∧
    (plan st w a m k = 3 → fC st' (a * 256 + k) ≠ M1 ∧ lone st' (a * 256 + k) ∧ ∀ j, j < vin m k → LV st' (a * 256 + k) j = w (k * 16 + j))) ∧
  (∀ x, 9 ≤ x ∧ x < 25 → st' x = st x)
theorem plan_congr {st : zS} {w w' : Nat → Int32} {a m k : Nat} (hk : k * 16 < m) (h : ∀ i, i < 16 → k * 16 + i < m → w' (k * 16 + i) = w (k * 16 + i)) : plan st w' a m k = plan st w a m k := by
  have h0 : w' (k * 16) = w (k * 16) := h 0 (by omega) (by omega)
  have e1 : sam (VR st (9 + a)) w' k m ↔ sam (VR st (9 + a)) w k m := ⟨fun q i hi hm => (q i hi hm).trans (h i hi hm), fun q i hi hm => (q i hi hm).trans (h i hi hm).symm⟩
  have e2 : pl w' k m ↔ pl w k m := ⟨fun q i hi hm => by rw [← h i hi hm, ← h0]; exact q i hi hm, fun q i hi hm => by rw [h i hi hm, h0]; exact q i hi hm⟩
  unfold plan
  by_cases c1 : sam (VR st (9 + a)) w k m
  · rw [if_pos c1, if_pos (e1.mpr c1)]
  · rw [if_neg c1, if_neg (fun q => c1 (e1.mp q))]
    by_cases c2 : pl w k m
    · rw [if_pos c2, if_pos (e2.mpr c2)]
    · rw [if_neg c2, if_neg (fun q => c2 (e2.mp q))]
theorem plan_same {st : zS} {w : Nat → Int32} {a m k : Nat} (h : sam (VR st (9 + a)) w k m) : plan st w a m k = 0 := by unfold plan; rw [if_pos h]
theorem LV_8 {st : zS} {g : Nat → Int32} {t i : Nat} (ht : t < 4096) : LV (upA st 8 g) t i = LV st t i := by
  unfold LV
  rw [fC_8 ht, upA_n (by omega), upA_n (by omega)]
theorem wn_ext {st st' : zS} {w w' : Nat → Int32} {a m : Nat} : ∀ e, (∀ k, k < e → plan st w a m k = plan st' w' a m k) → wn st w a m e = wn st' w' a m e := fun e h => sm_congr e (fun i hi => by rw [h i hi])
theorem vin_lt {m k j : Nat} (h : j < vin m k) : j < 16 ∧ k * 16 + j < m := by unfold vin at h; split at h <;> omega
theorem f_change {n fc a m lo e : Nat} {st : zS} {W : Nat → Int32} (P : PI st fc) (ha : a < 16) (hm : m ≤ 4096) (em : st (9 + a) 3 = nI m) (hlo : lo ≤ e) (he : e ≤ lf m) (hn : 8192 < n)
    (hW1 : ∀ i, i < m → lo * 16 ≤ i → i < e * 16 → W i = st 6 i) (hW2 : ∀ i, i < m → i < lo * 16 ∨ e * 16 ≤ i → W i = VR st (9 + a) i) :
    (fc < wn st W a m (lf m) → ∃ g, fX2_changeLeaves n (9 + a) (nI lo) (nI e) st = some (.inr false, upA st 8 g)) ∧
    (wn st W a m (lf m) ≤ fc → ∃ st' fc', fX2_changeLeaves n (9 + a) (nI lo) (nI e) st = some (.inl (), st') ∧ Chg8 st st' W a m ∧ PI st' fc' ∧ st' 2 4 = st 2 4 + nI (wn st W a m (lf m))) := by
  have hl : lf m ≤ 256 := by unfold lf; omega
  have hfc := P.fc_le
  have hk16 : ∀ k, k < lf m → k * 16 < m := fun k hk => by unfold lf at hk; omega
  have hin : ∀ k, lo ≤ k → k < e → plan st W a m k = plan st (st 6) a m k := fun k h1 h2 => plan_congr (hk16 k (by omega)) (fun i hi him => hW1 _ him (by omega) (by omega))
  have hout : ∀ k, k < lf m → k < lo ∨ e ≤ k → plan st W a m k = 0 := fun k h1 h2 => plan_same (fun i hi him => (hW2 _ him (by omega)).symm)
  -- the sums
  have z1 : ∀ j, j ≤ lo → wn st W a m j = 0 := by
    intro j
    induction j with
    | zero => intro _; rfl
    | succ j ih => intro h; rw [wn_s, ih (by omega), hout j (by omega) (by omega), if_neg (by decide)]
  have z2 : ∀ j, lo ≤ j → j ≤ e → wn st W a m j = wn st (st 6) a m j - wn st (st 6) a m lo := by
    intro j
    induction j with
    | zero => intro h1 _; rw [z1 0 (by omega), show lo = 0 by omega, Nat.sub_self]
    | succ j ih =>
      intro h1 h2
      by_cases c : lo = j + 1
      · rw [c, Nat.sub_self, ← c, z1 lo (Nat.le_refl _)]
      · have hmo : wn st (st 6) a m lo ≤ wn st (st 6) a m j := sm_mono (by omega)
        rw [wn_s, wn_s, ih (by omega) (by omega), hin j (by omega) (by omega)]
        omega
  have z3 : ∀ j, e ≤ j → j ≤ lf m → wn st W a m j = wn st W a m e := by
    intro j
    induction j with
    | zero => intro h1 _; rw [show e = 0 by omega]
    | succ j ih =>
      intro h1 h2
      by_cases c : e = j + 1
      · rw [c]
      · rw [wn_s, ih (by omega) (by omega), hout j (by omega) (by omega), if_neg (by decide), Nat.add_zero]
  have tot : wn st W a m (lf m) = wn st (st 6) a m e - wn st (st 6) a m lo := by rw [z3 _ he (Nat.le_refl _), z2 e hlo (Nat.le_refl _)]
  have tle : wn st W a m (lf m) ≤ 256 := Nat.le_trans (sm_le (fun i => by split <;> omega) (lf m)) hl
  have start : fX2_changeLeaves n (9 + a) (nI lo) (nI e) st = zb (fX2_checkRoom n (nI (wn st W a m (lf m))) (upA st 8 (fun k => if lo ≤ k ∧ k < e then nI (plan st (st 6) a m k) else st 8 k))) (fun v9 u8 => fX2_changeLeaves_55 n (fun (st : zS) => some (.inl (), st)) n (9 + a) (nI e) (nI lo) u8) := by
    unfold fX2_changeLeaves
    have h := plan_loop (n := n) (lo := lo) (X := fun (r1 : Nat) (i2 : Int32) (i3 : Int32) (i4 : Int32) (st : zS) => (zb (fX2_checkRoom n i4 st) (fun (v9 : Unit) (u8 : zS) => fX2_changeLeaves_55 n (fun (st : zS) => some (.inl (), st)) n r1 i3 i2 u8))) P ha hm em he hn n lo 0 (st 8) hlo (by omega) (Nat.zero_le _)
    rw [upA_id, ← li0] at h
    rw [h, Nat.zero_add, tot]
  obtain ⟨g, hg⟩ : ∃ g, g = (fun k => if lo ≤ k ∧ k < e then nI (plan st (st 6) a m k) else st 8 k) := ⟨_, rfl⟩
  rw [← hg] at start
  have hroom : upA st 8 g 2 3 = nI fc := by rw [upA_n (by decide)]; exact P.1
  refine ⟨fun h => ⟨g, ?_⟩, fun h => ?_⟩
  · rw [start]
    unfold fX2_checkRoom
    rw [hroom, if_neg (by rw [nle (by omega) (by omega)]; omega), zb_t]
  · have P8 : PI (upA st 8 g) fc := PI_8 P
    have k6 : upA st 8 g 6 = st 6 := upA_n (by decide)
    have hp8 : ∀ k, k < 256 → plan (upA st 8 g) (st 6) a m k = plan st (st 6) a m k := fun k hk => plan_8 ha hk
    have hw8 : ∀ j, j ≤ 256 → wn (upA st 8 g) (st 6) a m j = wn st (st 6) a m j := fun j hj => wn_ext j (fun k hk => hp8 k (by omega))
    obtain ⟨st', fc', r1, r2, r3, r4⟩ := carry_loop (n := n) (lo := lo) (X := fun (st : zS) => some (.inl (), st)) P8 ha hm (by rw [upA_n (by omega)]; exact em) he (fun k q1 q2 => by rw [upA_s, k6, hp8 k (by omega), hg]; show (if lo ≤ k ∧ k < e then _ else _) = _; rw [if_pos ⟨q1, q2⟩]) n lo fc (upA st 8 g) (Nat.le_refl _) hlo (by omega) Chg.refl P8 (by rw [k6, hw8 e (by omega), hw8 lo (by omega), ← tot]; exact h) (by rw [Nat.sub_self]; show _ = _ + nI 0; rw [← li0, Int32.add_zero])
    refine ⟨st', fc', ?_, ⟨fun t ht hne => ?_, fun k hk => ?_, fun x hx => (r2.2.2 x (by omega)).trans (upA_n (by omega))⟩, r3, ?_⟩
    · rw [start]
      unfold fX2_checkRoom
      rw [hroom, if_pos (by rw [nle (by omega) (by omega)]; omega), zb_s, r1]
    · obtain ⟨u1, u2⟩ := r2.1 t ht (fun k q1 q2 => hne k (by omega))
      exact ⟨u1.trans (fC_8 ht), fun j hj => (u2 j hj).trans (LV_8 ht)⟩
    · have htk : a * 256 + k < 4096 := by omega
      by_cases hr : lo ≤ k ∧ k < e
      · obtain ⟨c0, c1, c2, c3⟩ := r2.2.1 k hr.1 hr.2
        rw [k6, hp8 k (by omega), ← hin k hr.1 hr.2] at c0 c1 c2 c3
        have hw0 : W (k * 16) = st 6 (k * 16) := hW1 _ (hk16 k hk) (by omega) (by omega)
        have hwj : ∀ j, j < vin m k → W (k * 16 + j) = st 6 (k * 16 + j) := fun j hj => by have := vin_lt hj; exact hW1 _ this.2 (by omega) (by omega)
        rw [fC_8 htk] at c0 c2
        refine ⟨fun p => ⟨(c0 p).1, fun j hj => ((c0 p).2 j hj).trans (LV_8 htk)⟩, fun p => ⟨(c1 p).1, fun j hj => by rw [hw0]; exact (c1 p).2 j hj⟩, fun p => ⟨(c2 p).1, fun j hj => by rw [hwj j hj]; exact (c2 p).2 j hj⟩, fun p => ⟨(c3 p).1, (c3 p).2.1, fun j hj => by rw [hwj j hj]; exact (c3 p).2.2 j hj⟩⟩
      · have hp0 := hout k hk (by omega)
        obtain ⟨u1, u2⟩ := r2.1 (a * 256 + k) htk (fun k' q1 q2 => by omega)
        exact ⟨fun _ => ⟨u1.trans (fC_8 htk), fun j hj => (u2 j hj).trans (LV_8 htk)⟩, fun q => by omega, fun q => by omega, fun q => by omega⟩
    · rw [r4, k6, hw8 e (by omega), hw8 lo (by omega), ← tot, upA_n (by decide)]
