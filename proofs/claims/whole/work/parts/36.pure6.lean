theorem f_take {n fc p : Nat} {st : zS} (hf : st 2 3 = nI fc) (h0 : 0 < fc) (hl : fc ≤ 512) (hp : p < 512) (e : st 5 (fc - 1) = nI p) :
    fX0_take n st = some (.inl (nI p), upA (upA st 2 (upd (upd (st 2) 3 (nI (fc - 1))) 4 (st 2 4 + 1))) 4 (upd (st 4) p (nI 1))) := by
  unfold fX0_take
  have h4 := al_4
  have h5 := al_5
  rw [hf, show nI fc - 1 = nI (fc - 1) by rw [li1, nsb (by omega)]]
  simp only [zl_s]
  have a1 : upA st 2 (upd (st 2) 3 (nI (fc - 1))) 2 = upd (st 2) 3 (nI (fc - 1)) := upA_s
  have a2 : upd (st 2) 3 (nI (fc - 1)) 4 = st 2 4 := by unfold upd; rw [if_neg (by decide)]
  rw [a1, a2, upA_uu, upA_s]
  have a3 : upd (upd (st 2) 3 (nI (fc - 1))) 4 (st 2 4 + 1) 3 = nI (fc - 1) := by unfold upd; rw [if_neg (by decide), if_pos rfl]
  have a4 : upA st 2 (upd (upd (st 2) 3 (nI (fc - 1))) 4 (st 2 4 + 1)) 5 = st 5 := upA_n (by decide)
  have a5 : upA st 2 (upd (upd (st 2) 3 (nI (fc - 1))) 4 (st 2 4 + 1)) 4 = st 4 := upA_n (by decide)
  rw [a3, a4, a5, ncl (by omega), e, ncl (by omega), if_pos ((inb_nI (by omega)).mpr (by omega)), if_pos ((inb_nI (by omega)).mpr (by omega)), li1]
theorem f_write {n p o c : Nat} {st : zS} (hp : p < 512) (ho : o + c ≤ 4096) (hc : c ≤ 16) : fX0_write n (nI p) 6 (nI o) (nI c) st = some (.inl (), upA st 3 (fun q => if p * 16 ≤ q ∧ q < p * 16 + c then st 6 (o + (q - p * 16)) else st 3 q)) := by
  unfold fX0_write
  have h3 := al_3
  have h6 := al_6
  rw [if_pos ?_]
  · simp (disch := omega) only [li16, nml, nad, ncl, zl_s]
    rfl
  · unfold cpok
    simp (disch := omega) only [li16, li0, nml, nad, ncl, nlt]
    omega
/-- values in leaf k of m values -/
def vin (m k : Nat) : Nat := if m - k * 16 < 16 then m - k * 16 else 16
theorem vin_le {m k : Nat} : vin m k ≤ 16 := by unfold vin; split <;> omega
theorem f_setOwn {n fc a k m : Nat} {st : zS} (P : PI st fc) (ha : a < 16) (hk : k * 16 < m) (hm : m ≤ 4096) (e : st (9 + a) 3 = nI m) (h0 : 0 < fc) :
    ∃ st' fc' p, fX2_setOwn n (9 + a) (nI k) st = some (.inl (), st') ∧ PI st' fc' ∧ fc - 1 ≤ fc' ∧ p < 512 ∧ cnt (fC st) (nI p) 4096 = 0 ∧ st' (9 + a + 16) = upd (st (9 + a + 16)) k (nI p) ∧ (∀ q, st' 3 q = if p * 16 ≤ q ∧ q < p * 16 + vin m k then st 6 (k * 16 + (q - p * 16)) else st 3 q) ∧ st' 2 4 = st 2 4 + 1 ∧ (∀ x, x ≠ 2 → x ≠ 3 → x ≠ 4 → x ≠ 5 → x ≠ 9 + a + 16 → st' x = st x) := by
  have hr : isRow (9 + a) := by omega
  have hk2 : k < 256 := by omega
  have hfc := P.fc_le
  obtain ⟨P0, P1⟩ := P
  have ht : a * 256 + k < 4096 := by omega
  have hv : vin m k ≤ 16 := vin_le
  have hv2 : k * 16 + vin m k ≤ 4096 := by unfold vin; split <;> omega
  -- what stands behind take and write
  have body : ∀ p, p < 512 → st 5 (fc - 1) = nI p → ∃ st3 : zS, (∀ u, fX2_letGo n (st (9 + a + 16) k) st3 = some (.inl (), u) → fX2_setOwn n (9 + a) (nI k) st = some (.inl (), upA u (9 + a + 16) (upd (u (9 + a + 16)) k (nI p)))) ∧ st3 2 3 = nI (fc - 1) ∧ st3 2 4 = st 2 4 + 1 ∧ st3 4 = upd (st 4) p (nI 1) ∧ (∀ q, st3 3 q = if p * 16 ≤ q ∧ q < p * 16 + vin m k then st 6 (k * 16 + (q - p * 16)) else st 3 q) ∧ (∀ x, x ≠ 2 → x ≠ 3 → x ≠ 4 → st3 x = st x) := by
    intro p hp e5
    obtain ⟨st1, es1⟩ : ∃ st1, st1 = upA (upA st 2 (upd (upd (st 2) 3 (nI (fc - 1))) 4 (st 2 4 + 1))) 4 (upd (st 4) p (nI 1)) := ⟨_, rfl⟩
    have q3 : st1 (9 + a) = st (9 + a) := by rw [es1, upA_n (by omega), upA_n (by omega)]
    have q6 : st1 6 = st 6 := by rw [es1, upA_n (by omega), upA_n (by omega)]
    have q33 : st1 3 = st 3 := by rw [es1, upA_n (by omega), upA_n (by omega)]
    refine ⟨upA st1 3 (fun q => if p * 16 ≤ q ∧ q < p * 16 + vin m k then st1 6 (k * 16 + (q - p * 16)) else st1 3 q), ?_, ?_, ?_, ?_, ?_, ?_⟩
    · intro u hu
      unfold fX2_setOwn
      have hpt : upA st1 3 (fun q => if p * 16 ≤ q ∧ q < p * 16 + vin m k then st1 6 (k * 16 + (q - p * 16)) else st1 3 q) (9 + a + 16) = st (9 + a + 16) := by rw [upA_n (by omega), es1, upA_n (by omega), upA_n (by omega)]
      have hu16 : inb (nI k) (al (9 + a + 16)) := (inb_nI (by omega)).mpr (by rw [al_p hr]; exact hk2)
      rw [f_take P0 h0 hfc hp e5, zb_s, ← es1, f_valuesIn (m := m) (by omega) (by rw [q3]; exact e) (by omega), zb_s, li16, nml, show (nI (if m - k * 16 < 16 then m - k * 16 else 16)) = nI (vin m k) from rfl, f_write hp hv2 hv, zb_s, if_pos hu16, hpt, ncl (by omega), hu, zb_s, if_pos hu16]
      rfl
    · rw [upA_n (by decide), es1, upA_n (by decide), upA_s]; unfold upd; rw [if_neg (by decide), if_pos rfl]
    · rw [upA_n (by decide), es1, upA_n (by decide), upA_s]; unfold upd; rw [if_pos rfl]
    · rw [upA_n (by decide), es1, upA_s]
    · intro q; rw [upA_s, q6, q33]
    · intro x x2 x3 x4; rw [upA_n x3, es1, upA_n x4, upA_n x2]
  rcases P1.1 _ ht with e1 | ⟨q, hq, e1⟩
  · obtain ⟨p, hp, e5, c0, R⟩ := P1.take ht e1 h0
    rw [fC_at hk2] at e1
    obtain ⟨st3, b1, b2, b3, b4, b5, b6⟩ := body p hp e5
    refine ⟨_, fc - 1, p, b1 st3 (by rw [e1]; exact f_letGo0), ⟨?_, ?_⟩, Nat.le_refl _, hp, c0, ?_, ?_, ?_, ?_⟩
    · rw [upA_n (by omega)]; exact b2
    · rw [upA_n (show 4 ≠ 9 + a + 16 by omega), upA_n (show 5 ≠ 9 + a + 16 by omega), b4, b6 5 (by decide) (by decide) (by decide)]
      refine R.congr (fC_fup (st := st) hk2 ?_ (fun b hb1 hb => ?_)) (fun _ _ => rfl) (fun _ _ => rfl)
      · rw [upA_s, b6 _ (by omega) (by omega) (by omega)]
      · rw [upA_n (by omega), b6 _ (by omega) (by omega) (by omega)]
    · rw [upA_s, b6 _ (by omega) (by omega) (by omega)]
    · intro z; rw [upA_n (by omega)]; exact b5 z
    · rw [upA_n (by omega)]; exact b3
    · intro x x2 x3 x4 x5 x16; rw [upA_n x16]; exact b6 x x2 x3 x4
  · obtain ⟨p, c, hp, hpq, e5, c0, hc2, hc3, hA, hB⟩ := P1.own ht hq e1 h0
    rw [fC_at hk2] at e1
    obtain ⟨st3, b1, b2, b3, b4, b5, b6⟩ := body p hp e5
    have b4q : st3 4 q = nI (c + 1) := by rw [b4]; unfold upd; rw [if_neg (fun z => hpq z.symm)]; exact hc3
    by_cases z : c = 0
    · subst z
      have hd := f_letGo1 hq (f_drop0 (n := n) hq b4q b2 (by omega))
      refine ⟨_, fc, p, b1 _ (by rw [e1]; exact hd), ⟨?_, ?_⟩, by omega, hp, c0, ?_, ?_, ?_, ?_⟩
      · rw [upA_n (by omega), upA_s]; unfold upd; rw [if_pos rfl]; congr 1; omega
      · rw [upA_n (show 4 ≠ 9 + a + 16 by omega), upA_n (show 5 ≠ 9 + a + 16 by omega)]
        have g4 : upA (upA (upA st3 4 (upd (st3 4) q (nI 0))) 5 (upd (st3 5) (fc - 1) (nI q))) 2 (upd (st3 2) 3 (nI (fc - 1 + 1))) 4 = upd (upd (st 4) p (nI 1)) q (nI 0) := by rw [upA_n (by decide), upA_n (by decide), upA_s, b4]
        have g5 : upA (upA (upA st3 4 (upd (st3 4) q (nI 0))) 5 (upd (st3 5) (fc - 1) (nI q))) 2 (upd (st3 2) 3 (nI (fc - 1 + 1))) 5 = upd (st 5) (fc - 1) (nI q) := by rw [upA_n (by decide), upA_s, b6 5 (by decide) (by decide) (by decide)]
        rw [g4, g5]
        refine (hA rfl).congr (fC_fup (st := st) hk2 ?_ (fun b hb1 hb => ?_)) (fun _ _ => rfl) (fun _ _ => rfl)
        · rw [upA_s, upA_n (by omega), upA_n (by omega), upA_n (by omega), b6 _ (by omega) (by omega) (by omega)]
        · rw [upA_n (by omega), upA_n (by omega), upA_n (by omega), upA_n (by omega), b6 _ (by omega) (by omega) (by omega)]
      · rw [upA_s, upA_n (by omega), upA_n (by omega), upA_n (by omega), b6 _ (by omega) (by omega) (by omega)]
      · intro w; rw [upA_n (by omega), upA_n (by omega), upA_n (by omega), upA_n (by omega)]; exact b5 w
      · rw [upA_n (by omega), upA_s]; unfold upd; rw [if_neg (by decide)]; exact b3
      · intro x x2 x3 x4 x5 x16; rw [upA_n x16, upA_n x2, upA_n x5, upA_n x4]; exact b6 x x2 x3 x4
    · have hd := f_letGo1 hq (f_drop1 (n := n) hq b4q z hc2)
      refine ⟨_, fc - 1, p, b1 _ (by rw [e1]; exact hd), ⟨?_, ?_⟩, Nat.le_refl _, hp, c0, ?_, ?_, ?_, ?_⟩
      · rw [upA_n (by omega), upA_n (by omega)]; exact b2
      · rw [upA_n (show 4 ≠ 9 + a + 16 by omega), upA_n (show 5 ≠ 9 + a + 16 by omega), upA_s, upA_n (show 5 ≠ 4 by decide), b4, b6 5 (by decide) (by decide) (by decide)]
        refine (hB z).congr (fC_fup (st := st) hk2 ?_ (fun b hb1 hb => ?_)) (fun _ _ => rfl) (fun _ _ => rfl)
        · rw [upA_s, upA_n (by omega), b6 _ (by omega) (by omega) (by omega)]
        · rw [upA_n (by omega), upA_n (by omega), b6 _ (by omega) (by omega) (by omega)]
      · rw [upA_s, upA_n (by omega), b6 _ (by omega) (by omega) (by omega)]
      · intro w; rw [upA_n (by omega), upA_n (by omega)]; exact b5 w
      · rw [upA_n (by omega), upA_n (by omega)]; exact b3
      · intro x x2 x3 x4 x5 x16; rw [upA_n x16, upA_n x4]; exact b6 x x2 x3 x4
