/-! changeLeaves -/
def plan (st : zS) (w : Nat → Int32) (a m k : Nat) : Nat := if sam (VR st (9 + a)) w k m then 0 else if pl w k m then 1 else if fC st (a * 256 + k) ≠ M1 ∧ cnt (fC st) (fC st (a * 256 + k)) 4096 = 1 then 2 else 3
theorem plan_le {st : zS} {w : Nat → Int32} {a m k : Nat} : plan st w a m k ≤ 3 := by unfold plan; split <;> (try split) <;> (try split) <;> omega
theorem f_planFor {n fc a k m : Nat} {st : zS} (P : PI st fc) (ha : a < 16) (hk : k * 16 < m) (hm : m ≤ 4096) (e : st (9 + a) 3 = nI m) (hn : 8192 < n) : fX2_planFor n (9 + a) (nI k) st = some (.inl (nI (plan st (st 6) a m k)), st) := by
  have hr : isRow (9 + a) := by omega
  have hk2 : k < 256 := by omega
  have ht : a * 256 + k < 4096 := by omega
  have hp := P.2.1 _ ht
  have hat := fC_at (st := st) (a := a) hk2
  have h4 := al_4
  unfold fX2_planFor plan
  rw [f_isLeafAs hr e hm hk (by rw [← hat]; exact hp) hn, zb_s]
  by_cases c1 : sam (VR st (9 + a)) (st 6) k m
  · rw [if_pos c1, if_pos c1, if_neg (by rw [li0, neq (by omega) (by omega)]; omega), li0]
  · rw [if_neg c1, if_neg c1, if_pos li0.symm, e, f_isOne hm hk hn, zb_s]
    by_cases c2 : pl (st 6) k m
    · rw [if_pos c2, if_pos c2, if_neg (by rw [li0, neq (by omega) (by omega)]; omega), li1]
    · rw [if_neg c2, if_neg c2, if_pos li0.symm, if_pos ((inb_nI (by omega)).mpr (by rw [al_p hr]; exact hk2)), ncl (by omega), M1e, ← hat]
      rcases hp with z | ⟨p, hp1, z⟩
      · rw [if_pos z, if_pos rfl, if_neg (fun q => q.1 z), li3]
      · have hc := cnt_pos 4096 ht z
        have hl := cnt_le (f := fC st) (x := nI p) 4096
        rw [z, if_neg (nI_m1 (by omega))]
        unfold fX0_isShared
        rw [if_pos ((inb_nI (by omega)).mpr (by omega)), ncl (by omega), P.2.2.1 p hp1]
        by_cases c3 : cnt (fC st) (nI p) 4096 = 1
        · rw [if_pos (by rw [li1, nle (by omega) (by omega)]; omega), zb_s, if_pos rfl, if_neg (by decide), if_pos ⟨nI_m1 (by omega), c3⟩, li2]
        · rw [if_neg (by rw [li1, nle (by omega) (by omega)]; omega), zb_s, if_neg (by decide), if_pos rfl, if_neg (fun q => c3 q.2), li3]
theorem fC_8 {st : zS} {g : Nat → Int32} {t : Nat} (ht : t < 4096) : fC (upA st 8 g) t = fC st t := fC_keep (fun b hb => upA_n (by omega)) ht
theorem PI_8 {st : zS} {g : Nat → Int32} {fc : Nat} (P : PI st fc) : PI (upA st 8 g) fc := by
  refine ⟨by rw [upA_n (by decide)]; exact P.1, ?_⟩
  rw [upA_n (show 4 ≠ 8 by decide), upA_n (show 5 ≠ 8 by decide)]
  exact P.2.congr (fun t ht => fC_8 ht) (fun _ _ => rfl) (fun _ _ => rfl)
theorem plan_8 {st : zS} {g w : Nat → Int32} {a m k : Nat} (ha : a < 16) (hk : k < 256) : plan (upA st 8 g) w a m k = plan st w a m k := by
  unfold plan
  have e1 : VR (upA st 8 g) (9 + a) = VR st (9 + a) := funext fun i => VR_upA (by omega) (by omega) (by omega)
  have e2 : cnt (fC (upA st 8 g)) (fC st (a * 256 + k)) 4096 = cnt (fC st) (fC st (a * 256 + k)) 4096 := cnt_congr 4096 (fun t ht => by rw [fC_8 ht])
  rw [e1, fC_8 (show a * 256 + k < 4096 by omega), e2]
/-- NEW leaves among those below i -/
def wn (st : zS) (w : Nat → Int32) (a m : Nat) : Nat → Nat := sm (fun k => if plan st w a m k = 3 then 1 else 0)
theorem wn_s {st : zS} {w : Nat → Int32} {a m i : Nat} : wn st w a m (i + 1) = wn st w a m i + (if plan st w a m i = 3 then 1 else 0) := rfl
theorem plan_loop {n fc a m lo e : Nat} {X : Nat → Int32 → Int32 → Int32 → zS → zF Unit} {st : zS} (P : PI st fc) (ha : a < 16) (hm : m ≤ 4096) (em : st (9 + a) 3 = nI m) (he : e ≤ lf m) (hn : 8192 < n) : ∀ (q i c : Nat) (g : Nat → Int32), i ≤ e → e - i < q → c ≤ i →
    fX2_changeLeaves_6 n X q (9 + a) (nI lo) (nI e) (nI c) (nI i) (upA st 8 g) = X (9 + a) (nI lo) (nI e) (nI (c + (wn st (st 6) a m e - wn st (st 6) a m i))) (upA st 8 (fun k => if i ≤ k ∧ k < e then nI (plan st (st 6) a m k) else g k)) := by
  have hl : lf m ≤ 256 := by unfold lf; omega
  have h8 := al_8
  intro q
  induction q with
  | zero => intro i c g _ h; omega
  | succ q ih =>
    intro i c g h1 h2 h3
    rw [fX2_changeLeaves_6]
    simp (disch := omega) only [nle]
    by_cases h : e ≤ i
    · rw [if_pos h, show i = e by omega, Nat.sub_self, Nat.add_zero]
      congr 1
      apply upA_c
      intro j
      rw [if_neg (by omega)]
    · have hi : i * 16 < m := by unfold lf at he; omega
      have hpl := plan_le (st := st) (w := st 6) (a := a) (m := m) (k := i)
      have hmo : wn st (st 6) a m (i + 1) ≤ wn st (st 6) a m e := sm_mono (by omega)
      have h66 : upA st 8 g 6 = st 6 := upA_n (by decide)
      rw [if_neg h, f_planFor (PI_8 P) ha hi hm (by rw [upA_n (by omega)]; exact em) hn, zb_s, h66, plan_8 ha (by omega)]
      simp (disch := omega) only [nib, ncl, zl_s, upA_s, upA_uu]
      rw [if_pos (by omega), if_pos (by omega)]
      have hun : ∀ j, (if i + 1 ≤ j ∧ j < e then nI (plan st (st 6) a m j) else upd g i (nI (plan st (st 6) a m i)) j) = (if i ≤ j ∧ j < e then nI (plan st (st 6) a m j) else g j) := by
        intro j
        unfold upd
        by_cases j1 : j = i
        · subst j1
          rw [if_neg (by omega), if_pos rfl, if_pos (by omega)]
        · rw [if_neg j1]
          by_cases j2 : i ≤ j ∧ j < e
          · rw [if_pos (by omega), if_pos j2]
          · rw [if_neg (by omega), if_neg j2]
      have hui : upd g i (nI (plan st (st 6) a m i)) i = nI (plan st (st 6) a m i) := by unfold upd; rw [if_pos rfl]
      rw [hui]
      by_cases c3 : plan st (st 6) a m i = 3
      · rw [if_pos (by rw [c3, li3]), li1, nad, nad, ih (i + 1) (c + 1) _ (by omega) (by omega) (by omega), upA_c hun]
        congr 2
        rw [wn_s, if_pos c3] at hmo ⊢
        omega
      · rw [if_neg (by rw [li3, neq (by omega) (by omega)]; exact c3), li1, nad, ih (i + 1) c _ (by omega) (by omega) (by omega), upA_c hun]
        congr 2
        rw [wn_s, if_neg c3, Nat.add_zero]
/-- behind carryOut of the leaves lo .. i - 1 of array a: contents st' out of st, values w -/
def Chg (st st' : zS) (w : Nat → Int32) (a m lo i : Nat) : Prop :=
  (∀ t, t < 4096 → (∀ k, lo ≤ k → k < i → t ≠ a * 256 + k) → fC st' t = fC st t ∧ ∀ j, j < 16 → LV st' t j = LV st t j) ∧
  (∀ k, lo ≤ k → k < i → 
    (plan st w a m k = 0 → fC st' (a * 256 + k) = fC st (a * 256 + k) ∧ ∀ j, j < 16 → LV st' (a * 256 + k) j = LV st (a * 256 + k) j) ∧
    (plan st w a m k = 1 → fC st' (a * 256 + k) = M1 ∧ ∀ j, j < 16 → LV st' (a * 256 + k) j = w (k * 16)) ∧
    (plan st w a m k = 2 → fC st' (a * 256 + k) = fC st (a * 256 + k) ∧ ∀ j, j < vin m k → LV st' (a * 256 + k) j = w (k * 16 + j)) ∧
    (plan st w a m k = 3 → fC st' (a * 256 + k) ≠ M1 ∧ lone st' (a * 256 + k) ∧ ∀ j, j < vin m k → LV st' (a * 256 + k) j = w (k * 16 + j))) ∧
  (∀ x, 6 ≤ x ∧ x < 25 → st' x = st x)
theorem Chg.refl {st : zS} {w : Nat → Int32} {a m lo : Nat} : Chg st st w a m lo lo := ⟨fun _ _ _ => ⟨rfl, fun _ _ => rfl⟩, fun k h1 h2 => by omega, fun _ _ => rfl⟩
/-- one leaf more -/
theorem Chg.step {st st1 st' : zS} {w : Nat → Int32} {a m lo i : Nat} (hi : i < 256) (ha : a < 16) (C : Chg st st1 w a m lo i) (hlo : lo ≤ i) (S : Lst st1 st' (a * 256 + i))
    (h0 : plan st w a m i = 0 → fC st' (a * 256 + i) = fC st1 (a * 256 + i) ∧ ∀ j, j < 16 → LV st' (a * 256 + i) j = LV st1 (a * 256 + i) j)
    (h1 : plan st w a m i = 1 → fC st' (a * 256 + i) = M1 ∧ ∀ j, j < 16 → LV st' (a * 256 + i) j = w (i * 16))
    (h2 : plan st w a m i = 2 → fC st' (a * 256 + i) = fC st1 (a * 256 + i) ∧ ∀ j, j < vin m i → LV st' (a * 256 + i) j = w (i * 16 + j))
    (h3 : plan st w a m i = 3 → fC st' (a * 256 + i) ≠ M1 ∧ lone st' (a * 256 + i) ∧ ∀ j, j < vin m i → LV st' (a * 256 + i) j = w (i * 16 + j)) : Chg st st' w a m lo (i + 1) := by
  obtain ⟨C1, C2, C3⟩ := C
  obtain ⟨S1, S2⟩ := S
  have hbase := C1 (a * 256 + i) (by omega) (fun k h1 h2 => by omega)
  have hal : fC st' (a * 256 + i) = fC st1 (a * 256 + i) ∨ fC st' (a * 256 + i) = M1 ∨ lone st' (a * 256 + i) := by
    have hp := plan_le (st := st) (w := w) (a := a) (m := m) (k := i)
    rcases (show plan st w a m i = 0 ∨ plan st w a m i = 1 ∨ plan st w a m i = 2 ∨ plan st w a m i = 3 by omega) with p | p | p | p
    · exact Or.inl (h0 p).1
    · exact Or.inr (Or.inl (h1 p).1)
    · exact Or.inl (h2 p).1
    · exact Or.inr (Or.inr (h3 p).2.1)
  refine ⟨fun t ht hne => ?_, fun k hk1 hk2 => ?_, fun x hx => (S2 x hx).trans (C3 x hx)⟩
  · obtain ⟨u1, u2⟩ := S1 t ht (hne i hlo (by omega))
    obtain ⟨v1, v2⟩ := C1 t ht (fun k h1 h2 => hne k h1 (by omega))
    exact ⟨u1.trans v1, fun j hj => (u2 j hj).trans (v2 j hj)⟩
  · by_cases e : k = i
    · subst e
      refine ⟨fun p => ⟨(h0 p).1.trans hbase.1, fun j hj => ((h0 p).2 j hj).trans (hbase.2 j hj)⟩, h1, fun p => ⟨(h2 p).1.trans hbase.1, (h2 p).2⟩, h3⟩
    · obtain ⟨c0, c1, c2, c3⟩ := C2 k hk1 (by omega)
      obtain ⟨u1, u2⟩ := S1 (a * 256 + k) (by omega) (by omega)
      have hv : vin m k ≤ 16 := vin_le
      refine ⟨fun p => ⟨u1.trans (c0 p).1, fun j hj => (u2 j hj).trans ((c0 p).2 j hj)⟩, fun p => ⟨u1.trans (c1 p).1, fun j hj => (u2 j hj).trans ((c1 p).2 j hj)⟩, fun p => ⟨u1.trans (c2 p).1, fun j hj => (u2 j (by omega)).trans ((c2 p).2 j hj)⟩, fun p => ⟨by rw [u1]; exact (c3 p).1, fun t ht hne => ?_, fun j hj => (u2 j (by omega)).trans ((c3 p).2.2 j hj)⟩⟩
      rw [u1]
      by_cases et : t = a * 256 + i
      · subst et
        rcases hal with z | z | z
        · rw [z]; exact (c3 p).2.1 _ ht hne
        · rw [z]; exact fun q => (c3 p).1 q.symm
        · rw [← u1]; exact fun q => z (a * 256 + k) (by omega) (by omega) q.symm
      · rw [(S1 t ht et).1]
        exact (c3 p).2.1 t ht hne
