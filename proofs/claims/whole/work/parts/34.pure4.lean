theorem PIx.congr {f f' h h' fr fr' : Nat → Int32} {fc : Nat} (P : PIx f h fr fc) (hf : ∀ t, t < 4096 → f' t = f t) (hh : ∀ p, p < 512 → h' p = h p) (hr : ∀ j, j < fc → fr' j = fr j) : PIx f' h' fr' fc := by
  obtain ⟨P1, P2, P3, P4, P5⟩ := P
  have hc : ∀ x, cnt f' x 4096 = cnt f x 4096 := fun x => cnt_congr 4096 (fun t ht => by rw [hf t ht])
  refine ⟨fun t ht => by rw [hf t ht]; exact P1 t ht, fun p hp => by rw [hh p hp, hc]; exact P2 p hp, by rw [P3]; exact nz_same (fun p _ => by rw [hc]), fun j hj => ?_, fun i j hi hj q => P5 i j hi hj (by rw [← hr i hi, ← hr j hj]; exact q)⟩
  obtain ⟨p, h1, h2, h3⟩ := P4 j hj
  exact ⟨p, h1, by rw [hr j hj]; exact h2, by rw [hc]; exact h3⟩
/-- a leaf with a place becomes one with the last free place; its old place is let go -/
theorem PIx.own {f h fr : Nat → Int32} {fc t0 q : Nat} (P : PIx f h fr fc) (ht : t0 < 4096) (hq : q < 512) (e : f t0 = nI q) (h0 : 0 < fc) :
    ∃ p c, p < 512 ∧ p ≠ q ∧ fr (fc - 1) = nI p ∧ cnt f (nI p) 4096 = 0 ∧ c < 4096 ∧ h q = nI (c + 1) ∧ (c = 0 → PIx (fup f t0 (nI p)) (upd (upd h p (nI 1)) q (nI 0)) (upd fr (fc - 1) (nI q)) fc) ∧ (c ≠ 0 → PIx (fup f t0 (nI p)) (upd (upd h p (nI 1)) q (nI c)) fr (fc - 1)) := by
  obtain ⟨p, hp, e1, c0⟩ := P.2.2.2.1 (fc - 1) (by omega)
  have hpq : p ≠ q := fun z => by
    have := cnt_pos 4096 ht e
    rw [← z, c0] at this
    omega
  have hmM : ∀ x : Int32, fup (fup f t0 M1) t0 x = fup f t0 x := fun x => by
    funext t
    show (if t = t0 then x else if t = t0 then M1 else f t) = if t = t0 then x else f t
    split <;> rfl
  obtain ⟨c, hc1, hc2, hc3, hA, hB⟩ := P.drop ht hq e
  have hhx : ∀ z : Int32, ∀ i, i < 512 → upd (upd h p (nI 1)) q z i = upd (upd h q z) p (nI 1) i := fun z i _ => by
    unfold upd
    by_cases i1 : i = q
    · subst i1
      rw [if_pos rfl, if_neg (fun w => hpq w.symm), if_pos rfl]
    · rw [if_neg i1, if_neg i1]
  refine ⟨p, c, hp, hpq, e1, c0, hc2, hc3, fun z => ?_, fun z => ?_⟩
  · obtain ⟨hlt, A1, A2, A3, A4, A5⟩ := hA z
    have hfr : ∀ j, j < fc + 1 → (j < fc - 1 → (fun j => if j = fc - 1 then nI q else if j = fc then nI p else fr j) j = fr j) := fun j _ hj => by
      show (if j = fc - 1 then nI q else if j = fc then nI p else fr j) = fr j
      rw [if_neg (by omega), if_neg (by omega)]
    have hold : ∀ j, j < fc → upd fr fc (nI q) j = fr j := fun j hj => by unfold upd; rw [if_neg (by omega)]
    have hlast : upd fr fc (nI q) fc = nI q := by unfold upd; rw [if_pos rfl]
    have Q : PIx (fup f t0 M1) (upd h q (nI 0)) (fun j => if j = fc - 1 then nI q else if j = fc then nI p else fr j) (fc + 1) := by
      refine ⟨A1, A2, A3, fun j hj => ?_, fun i j hi hj eij => ?_⟩
      · show ∃ p9, p9 < 512 ∧ (if j = fc - 1 then nI q else if j = fc then nI p else fr j) = nI p9 ∧ _
        by_cases j1 : j = fc - 1
        · rw [if_pos j1]
          obtain ⟨x, x1, x2, x3⟩ := A4 fc (by omega)
          rw [hlast] at x2
          exact ⟨x, x1, x2, x3⟩
        · rw [if_neg j1]
          by_cases j2 : j = fc
          · rw [if_pos j2]
            obtain ⟨x, x1, x2, x3⟩ := A4 (fc - 1) (by omega)
            rw [hold _ (by omega), e1] at x2
            exact ⟨x, x1, x2, x3⟩
          · rw [if_neg j2]
            obtain ⟨x, x1, x2, x3⟩ := A4 j (by omega)
            rw [hold _ (by omega)] at x2
            exact ⟨x, x1, x2, x3⟩
      · have hS : ∀ i, i < fc + 1 → (fun j => if j = fc - 1 then nI q else if j = fc then nI p else fr j) i = upd fr fc (nI q) (if i = fc - 1 then fc else if i = fc then fc - 1 else i) := by
          intro i hi
          show (if i = fc - 1 then nI q else if i = fc then nI p else fr i) = _
          by_cases j1 : i = fc - 1
          · rw [if_pos j1, if_pos j1, hlast]
          · rw [if_neg j1, if_neg j1]
            by_cases j2 : i = fc
            · rw [if_pos j2, if_pos j2, hold _ (by omega), e1]
            · rw [if_neg j2, if_neg j2, hold _ (by omega)]
        rw [hS i hi, hS j hj] at eij
        have := A5 _ _ (by split <;> (try split) <;> omega) (by split <;> (try split) <;> omega) eij
        split at this <;> split at this <;> (try split at this) <;> (try split at this) <;> omega
    obtain ⟨p', hp', e', -, R⟩ := Q.take ht (show fup f t0 M1 t0 = M1 from if_pos rfl) (by omega)
    have ep : p' = p := by
      have e2 : (if fc + 1 - 1 = fc - 1 then nI q else if fc + 1 - 1 = fc then nI p else fr (fc + 1 - 1)) = nI p' := e'
      rw [if_neg (by omega), if_pos (by omega)] at e2
      exact (nI_inj hp hp' e2).symm
    subst ep
    rw [hmM] at R
    refine PIx.congr R (fun _ _ => rfl) (hhx _) (fun j hj => ?_)
    show upd fr (fc - 1) (nI q) j = if j = fc - 1 then nI q else if j = fc then nI p' else fr j
    unfold upd
    by_cases j1 : j = fc - 1
    · rw [if_pos j1, if_pos j1]
    · rw [if_neg j1, if_neg j1, if_neg (by omega)]
  · obtain ⟨p', hp', e', -, R⟩ := (hB z).take ht (show fup f t0 M1 t0 = M1 from if_pos rfl) h0
    have ep : p' = p := (nI_inj hp hp' (e1.symm.trans e')).symm
    subst ep
    rw [hmM] at R
    exact PIx.congr R (fun _ _ => rfl) (hhx _) (fun j hj => rfl)
/-! the class's contents -/
def fC (st : zS) (t : Nat) : Int32 := st (9 + t / 256 + 16) (t % 256)
def PI (st : zS) (fc : Nat) : Prop := st 2 3 = nI fc ∧ PIx (fC st) (st 4) (st 5) fc
theorem PI.fc_le {st : zS} {fc : Nat} (P : PI st fc) : fc ≤ 512 := by rw [P.2.2.2.1]; exact nz_le
theorem fC_at {st : zS} {a k : Nat} (hk : k < 256) : fC st (a * 256 + k) = st (9 + a + 16) k := by
  unfold fC
  rw [show (a * 256 + k) / 256 = a by omega, show (a * 256 + k) % 256 = k by omega]
theorem fC_fup {st st' : zS} {a k : Nat} {y : Int32} (hk : k < 256) (h1 : st' (9 + a + 16) = upd (st (9 + a + 16)) k y) (h2 : ∀ b, b < 16 → b ≠ a → st' (9 + b + 16) = st (9 + b + 16)) : ∀ t, t < 4096 → fC st' t = fup (fC st) (a * 256 + k) y t := by
  intro t ht
  show st' (9 + t / 256 + 16) (t % 256) = if t = a * 256 + k then y else st (9 + t / 256 + 16) (t % 256)
  by_cases c : t / 256 = a
  · rw [c, h1]
    unfold upd
    by_cases d : t % 256 = k
    · rw [if_pos d, if_pos (by omega)]
    · rw [if_neg d, if_neg (by omega)]
  · rw [h2 _ (by omega) c, if_neg (by omega)]
theorem fC_keep {st st' : zS} (h : ∀ b, b < 16 → st' (9 + b + 16) = st (9 + b + 16)) {t : Nat} (ht : t < 4096) : fC st' t = fC st t := by
  unfold fC
  rw [h (t / 256) (by omega)]
