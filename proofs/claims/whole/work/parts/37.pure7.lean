/-! one leaf changes: t0; all others stay, in place and in value -/
def LV (st : zS) (t i : Nat) : Int32 := if fC st t = M1 then st (9 + t / 256 + 32) (t % 256) else st 3 ((fC st t).toNatClampNeg * 16 + i)
theorem VR_LV {st : zS} {a i : Nat} (hi : i < 4096) : VR st (9 + a) i = LV st (a * 256 + i / 16) (i % 16) := by
  unfold VR LV
  rw [fC_at (show i / 16 < 256 by omega), show (a * 256 + i / 16) / 256 = a by omega, show (a * 256 + i / 16) % 256 = i / 16 by omega]
theorem LV_VR {st : zS} {a k i : Nat} (hk : k < 256) (hi : i < 16) : LV st (a * 256 + k) i = VR st (9 + a) (k * 16 + i) := by
  rw [VR_LV (by omega), show (k * 16 + i) / 16 = k by omega, show (k * 16 + i) % 16 = i by omega]
def Lst (st st' : zS) (t0 : Nat) : Prop := (∀ t, t < 4096 → t ≠ t0 → fC st' t = fC st t ∧ ∀ i, i < 16 → LV st' t i = LV st t i) ∧ (∀ x, 6 ≤ x ∧ x < 25 → st' x = st x)
def lone (st : zS) (t : Nat) : Prop := ∀ t', t' < 4096 → t' ≠ t → fC st t' ≠ fC st t
/-- leaf t keeps its values where its place's and its number's do -/
theorem LV_keep {st st' : zS} {t i : Nat} (hf : fC st' t = fC st t) (hn : fC st t = M1 → st' (9 + t / 256 + 32) (t % 256) = st (9 + t / 256 + 32) (t % 256)) (hv : fC st t ≠ M1 → st' 3 ((fC st t).toNatClampNeg * 16 + i) = st 3 ((fC st t).toNatClampNeg * 16 + i)) : LV st' t i = LV st t i := by
  unfold LV
  rw [hf]
  by_cases c : fC st t = M1
  · rw [if_pos c, if_pos c]; exact hn c
  · rw [if_neg c, if_neg c]; exact hv c
theorem step_const {n fc a k : Nat} {v : Int32} {st : zS} (P : PI st fc) (ha : a < 16) (hk : k < 256) : ∃ st' fc', fX2_setConstant n (9 + a) (nI k) v st = some (.inl (), st') ∧ PI st' fc' ∧ fc ≤ fc' ∧ Lst st st' (a * 256 + k) ∧ fC st' (a * 256 + k) = M1 ∧ (∀ i, LV st' (a * 256 + k) i = v) ∧ st' 2 4 = st 2 4 := by
  obtain ⟨st', fc', h1, h2, h3, h4, h5, h6, h7⟩ := f_setConstant (n := n) (v := v) P ha hk
  have hf := fC_fup (st := st) (st' := st') (y := M1) hk h4 (fun b hb hne => h7 _ (by omega) (by omega) (by omega) (by omega) (by omega))
  have h0 : fC st' (a * 256 + k) = M1 := (hf _ (by omega)).trans (if_pos rfl)
  refine ⟨st', fc', h1, h2, h3, ⟨fun t ht hne => ?_, fun x hx => h7 x (by omega) (by omega) (by omega) (by omega) (by omega)⟩, h0, fun i => ?_, h6⟩
  · have e : fC st' t = fC st t := (hf t ht).trans (if_neg hne)
    refine ⟨e, fun i hi => LV_keep e (fun _ => ?_) (fun _ => by rw [h7 3 (by omega) (by omega) (by omega) (by omega) (by omega)])⟩
    by_cases c : t / 256 = a
    · rw [c, h5]
      unfold upd
      rw [if_neg (by omega)]
    · rw [h7 _ (by omega) (by omega) (by omega) (by omega) (by omega)]
  · unfold LV
    rw [if_pos h0, show (a * 256 + k) / 256 = a by omega, show (a * 256 + k) % 256 = k by omega, h5]
    unfold upd
    rw [if_pos rfl]
theorem step_own {n fc a k m : Nat} {st : zS} (P : PI st fc) (ha : a < 16) (hk : k * 16 < m) (hm : m ≤ 4096) (e : st (9 + a) 3 = nI m) (h0 : 0 < fc) :
    ∃ st' fc', fX2_setOwn n (9 + a) (nI k) st = some (.inl (), st') ∧ PI st' fc' ∧ fc - 1 ≤ fc' ∧ Lst st st' (a * 256 + k) ∧ fC st' (a * 256 + k) ≠ M1 ∧ lone st' (a * 256 + k) ∧ (∀ i, i < vin m k → LV st' (a * 256 + k) i = st 6 (k * 16 + i)) ∧ st' 2 4 = st 2 4 + 1 := by
  obtain ⟨st', fc', p, h1, h2, h3, hp, hc, h4, h5, h6, h7⟩ := f_setOwn (n := n) P ha hk hm e h0
  have hk2 : k < 256 := by omega
  have hv : vin m k ≤ 16 := vin_le
  have hf := fC_fup (st := st) (st' := st') (y := nI p) hk2 h4 (fun b hb hne => h7 _ (by omega) (by omega) (by omega) (by omega) (by omega))
  have g0 : fC st' (a * 256 + k) = nI p := (hf _ (by omega)).trans (if_pos rfl)
  have ho : ∀ t, t < 4096 → t ≠ a * 256 + k → fC st' t = fC st t := fun t ht hne => (hf t ht).trans (if_neg hne)
  refine ⟨st', fc', h1, h2, h3, ⟨fun t ht hne => ⟨ho t ht hne, fun i hi => ?_⟩, fun x hx => h7 x (by omega) (by omega) (by omega) (by omega) (by omega)⟩, by rw [g0]; exact nI_m1 (by omega), fun t ht hne => ?_, fun i hi => ?_, h6⟩
  · refine LV_keep (ho t ht hne) (fun _ => by rw [h7 _ (by omega) (by omega) (by omega) (by omega) (by omega)]) (fun hq => ?_)
    rcases P.2.1 t ht with z | ⟨q, hq1, z⟩
    · exact absurd z hq
    · rw [z, ncl (by omega), h5]
      have hpq : q ≠ p := fun w => cnt_zero hc ht (by rw [z, w])
      rw [if_neg (by omega)]
  · rw [ho t ht hne, g0]
    exact cnt_zero hc ht
  · unfold LV
    rw [g0, if_neg (nI_m1 (by omega)), ncl (by omega), h5, if_pos (by omega)]
    congr 1
    omega
theorem step_self {n fc a k m p : Nat} {st : zS} (P : PI st fc) (ha : a < 16) (hk : k * 16 < m) (hm : m ≤ 4096) (hp : p < 512) (e1 : fC st (a * 256 + k) = nI p) (hu : lone st (a * 256 + k)) :
    ∃ st', fX0_write n (nI p) 6 (nI (k * 16)) (nI (vin m k)) st = some (.inl (), st') ∧ PI st' fc ∧ Lst st st' (a * 256 + k) ∧ fC st' (a * 256 + k) = fC st (a * 256 + k) ∧ (∀ i, i < vin m k → LV st' (a * 256 + k) i = st 6 (k * 16 + i)) ∧ st' 2 4 = st 2 4 := by
  have hv : vin m k ≤ 16 := vin_le
  have hv2 : k * 16 + vin m k ≤ 4096 := by unfold vin; split <;> omega
  refine ⟨_, f_write hp hv2 hv, ⟨by rw [upA_n (by decide)]; exact P.1, ?_⟩, ⟨fun t ht hne => ?_, fun x hx => upA_n (by omega)⟩, ?_, fun i hi => ?_, by rw [upA_n (by decide)]⟩
  · rw [upA_n (show 4 ≠ 3 by decide), upA_n (show 5 ≠ 3 by decide)]
    exact P.2.congr (fun t ht => fC_keep (fun b hb => upA_n (by omega)) ht) (fun _ _ => rfl) (fun _ _ => rfl)
  · have e : fC (upA st 3 (fun q => if p * 16 ≤ q ∧ q < p * 16 + vin m k then st 6 (k * 16 + (q - p * 16)) else st 3 q)) t = fC st t := fC_keep (fun b hb => upA_n (by omega)) ht
    refine ⟨e, fun i hi => LV_keep e (fun _ => by rw [upA_n (by omega)]) (fun hq => ?_)⟩
    rcases P.2.1 t ht with z | ⟨q, hq1, z⟩
    · exact absurd z hq
    · rw [z, ncl (by omega), upA_s]
      have hpq : q ≠ p := fun w => hu t ht hne (by rw [z, e1, w])
      rw [if_neg (by omega)]
  · exact fC_keep (fun b hb => upA_n (by omega)) (by omega)
  · unfold LV
    rw [fC_keep (fun b hb => upA_n (by omega)) (show a * 256 + k < 4096 by omega), e1, if_neg (nI_m1 (by omega)), ncl (by omega), upA_s, if_pos (by omega)]
    congr 1
    omega
