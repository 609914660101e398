theorem f_drop0 {n p fc : Nat} {st : zS} (hp : p < 512) (e : st 4 p = nI (0 + 1)) (hf : st 2 3 = nI fc) (hl : fc < 512) :
    fX0_dropHolder n (nI p) st = some (.inl (), upA (upA (upA st 4 (upd (st 4) p (nI 0))) 5 (upd (st 5) fc (nI p))) 2 (upd (st 2) 3 (nI (fc + 1)))) := by
  unfold fX0_dropHolder
  have h4 := al_4
  have h5 := al_5
  simp (disch := omega) only [nib, ncl, zl_s]
  rw [if_pos (by omega), if_pos (by omega), if_pos (by omega), upA_s, e]
  have e1 : nI (0 + 1) - 1 = nI 0 := by rw [li1, nsb (by omega)]
  rw [e1, if_pos (show upd (st 4) p (nI 0) p = 0 by unfold upd; rw [if_pos rfl]; exact li0.symm)]
  have e2 : upA st 4 (upd (st 4) p (nI 0)) 2 = st 2 := upA_n (by decide)
  have e3 : upA st 4 (upd (st 4) p (nI 0)) 5 = st 5 := upA_n (by decide)
  have e4 : ∀ g, upA (upA st 4 (upd (st 4) p (nI 0))) 5 g 2 = st 2 := fun g => (upA_n (by decide)).trans e2
  rw [e2, hf, ncl (by omega), e3, e4, hf, if_pos ((inb_nI (by omega)).mpr (by omega)), li1, nad]
theorem f_drop1 {n p c : Nat} {st : zS} (hp : p < 512) (e : st 4 p = nI (c + 1)) (hc : c ≠ 0) (hl : c < 4096) :
    fX0_dropHolder n (nI p) st = some (.inl (), upA st 4 (upd (st 4) p (nI c))) := by
  unfold fX0_dropHolder
  have h4 := al_4
  simp (disch := omega) only [nib, ncl, zl_s]
  rw [if_pos (by omega), if_pos (by omega), if_pos (by omega), upA_s, e]
  have e1 : nI (c + 1) - 1 = nI c := by rw [li1, nsb (by omega)]; congr 1
  rw [e1, if_neg]
  unfold upd
  rw [if_pos rfl, li0, neq (by omega) (by omega)]
  exact hc
theorem fup_same {f : Nat → Int32} {t0 : Nat} {y : Int32} (e : f t0 = y) (t : Nat) : fup f t0 y t = f t := by
  show (if t = t0 then y else f t) = f t
  split
  · rename_i q; rw [q, e]
  · rfl
theorem f_letGo0 {n : Nat} {st : zS} : fX2_letGo n M1 st = some (.inl (), st) := if_pos rfl
theorem f_letGo1 {n p : Nat} {st u : zS} (hp : p < 512) (h : fX0_dropHolder n (nI p) st = some (.inl (), u)) : fX2_letGo n (nI p) st = some (.inl (), u) := by
  unfold fX2_letGo
  rw [M1e, if_neg (nI_m1 (by omega)), h, zb_s]
/-- a leaf lets its place go (its own number still there) -/
theorem f_letGo {n fc t0 : Nat} {st : zS} (P : PI st fc) (ht : t0 < 4096) : ∃ st1 fc', fX2_letGo n (fC st t0) st = some (.inl (), st1) ∧ st1 2 3 = nI fc' ∧ PIx (fup (fC st) t0 M1) (st1 4) (st1 5) fc' ∧ fc ≤ fc' ∧ st1 2 4 = st 2 4 ∧ (∀ x, x ≠ 2 → x ≠ 4 → x ≠ 5 → st1 x = st x) := by
  obtain ⟨P0, P1⟩ := P
  rcases P1.1 t0 ht with e | ⟨p, hp, e⟩
  · rw [e, f_letGo0]
    exact ⟨st, fc, rfl, P0, P1.congr (fun t _ => fup_same e t) (fun _ _ => rfl) (fun _ _ => rfl), Nat.le_refl _, rfl, fun _ _ _ _ => rfl⟩
  · obtain ⟨c, hc1, hc2, hc3, hA, hB⟩ := P1.drop ht hp e
    rw [e]
    by_cases c0 : c = 0
    · subst c0
      obtain ⟨hlt, A⟩ := hA rfl
      refine ⟨_, fc + 1, f_letGo1 hp (f_drop0 hp hc3 P0 hlt), ?_, ?_, by omega, ?_, fun x h2 h4 h5 => ?_⟩
      · rw [upA_s]; unfold upd; rw [if_pos rfl]
      · have e4 : upA (upA (upA st 4 (upd (st 4) p (nI 0))) 5 (upd (st 5) fc (nI p))) 2 (upd (st 2) 3 (nI (fc + 1))) 4 = upd (st 4) p (nI 0) := by rw [upA_n (by decide), upA_n (by decide), upA_s]
        have e5 : upA (upA (upA st 4 (upd (st 4) p (nI 0))) 5 (upd (st 5) fc (nI p))) 2 (upd (st 2) 3 (nI (fc + 1))) 5 = upd (st 5) fc (nI p) := by rw [upA_n (by decide), upA_s]
        rw [e4, e5]
        exact A
      · rw [upA_s]; unfold upd; rw [if_neg (by decide)]
      · rw [upA_n h2, upA_n h5, upA_n h4]
    · refine ⟨_, fc, f_letGo1 hp (f_drop1 hp hc3 c0 hc2), ?_, ?_, Nat.le_refl _, ?_, fun x h2 h4 h5 => ?_⟩
      · rw [upA_n (by decide)]; exact P0
      · rw [upA_s, upA_n (by decide)]; exact hB c0
      · rw [upA_n (by decide)]
      · rw [upA_n h4]
theorem f_setConstant {n fc a k : Nat} {v : Int32} {st : zS} (P : PI st fc) (ha : a < 16) (hk : k < 256) : ∃ st' fc', fX2_setConstant n (9 + a) (nI k) v st = some (.inl (), st') ∧ PI st' fc' ∧ fc ≤ fc' ∧ st' (9 + a + 16) = upd (st (9 + a + 16)) k M1 ∧ st' (9 + a + 32) = upd (st (9 + a + 32)) k v ∧ st' 2 4 = st 2 4 ∧ (∀ x, x ≠ 2 → x ≠ 4 → x ≠ 5 → x ≠ 9 + a + 16 → x ≠ 9 + a + 32 → st' x = st x) := by
  have hr : isRow (9 + a) := by omega
  obtain ⟨st1, fc', h1, h2, h3, h4, h5, h6⟩ := f_letGo (n := n) P (show a * 256 + k < 4096 by omega)
  rw [fC_at hk] at h1
  have e16 : st1 (9 + a + 16) = st (9 + a + 16) := h6 _ (by omega) (by omega) (by omega)
  have e32 : st1 (9 + a + 32) = st (9 + a + 32) := h6 _ (by omega) (by omega) (by omega)
  refine ⟨upA (upA st1 (9 + a + 16) (upd (st1 (9 + a + 16)) k M1)) (9 + a + 32) (upd (st1 (9 + a + 32)) k v), fc', ?_, ⟨?_, ?_⟩, h4, ?_, ?_, ?_, ?_⟩
  · unfold fX2_setConstant
    simp (disch := omega) only [nib, ncl, zl_s]
    rw [al_p hr, al_n hr, if_pos hk, h1, zb_s, if_pos hk, if_pos hk, upA_n (show 9 + a + 32 ≠ 9 + a + 16 by omega), M1e]
  · rw [upA_n (by omega), upA_n (by omega)]; exact h2
  · rw [upA_n (show 4 ≠ 9 + a + 32 by omega), upA_n (show 4 ≠ 9 + a + 16 by omega), upA_n (show 5 ≠ 9 + a + 32 by omega), upA_n (show 5 ≠ 9 + a + 16 by omega)]
    refine h3.congr (fC_fup (st := st) hk ?_ (fun b hb1 hb => ?_)) (fun _ _ => rfl) (fun _ _ => rfl)
    · rw [upA_n (by omega), upA_s, e16]
    · rw [upA_n (by omega), upA_n (by omega)]
      exact h6 _ (by omega) (by omega) (by omega)
  · rw [upA_n (by omega), upA_s, e16]
  · rw [upA_s, e32]
  · rw [upA_n (by omega), upA_n (by omega)]; exact h5
  · intro x x2 x4 x5 x16 x32
    rw [upA_n x32, upA_n x16]
    exact h6 x x2 x4 x5
