/-! leaves in next: one number, as before, how many OWN -/
/-- leaf k of m values w is one number -/
abbrev pl (w : Nat → Int32) (k m : Nat) : Prop := ∀ i, i < 16 → k * 16 + i < m → w (k * 16 + i) = w (k * 16)
/-- leaf k of m values is alike in v and w -/
abbrev sam (v w : Nat → Int32) (k m : Nat) : Prop := ∀ i, i < 16 → k * 16 + i < m → v (k * 16 + i) = w (k * 16 + i)
def sm (f : Nat → Nat) : Nat → Nat
  | 0 => 0
  | j + 1 => sm f j + f j
theorem sm_mono {f : Nat → Nat} {a b : Nat} (h : a ≤ b) : sm f a ≤ sm f b := by
  induction b with
  | zero => rw [Nat.le_zero.mp h]; exact Nat.le_refl _
  | succ b ih =>
    by_cases e : a = b + 1
    · rw [e]; exact Nat.le_refl _
    · exact Nat.le_trans (ih (by omega)) (Nat.le_add_right _ _)
theorem sm_le {f : Nat → Nat} (h : ∀ i, f i ≤ 1) : ∀ b, sm f b ≤ b := by
  intro b
  induction b with
  | zero => exact Nat.le_refl _
  | succ b ih => have := h b; show sm f b + f b ≤ b + 1; omega
theorem sm_congr {f g : Nat → Nat} : ∀ b, (∀ i, i < b → f i = g i) → sm f b = sm g b := by
  intro b
  induction b with
  | zero => intro _; rfl
  | succ b ih => intro h; show sm f b + f b = sm g b + g b; rw [ih (fun i hi => h i (by omega)), h b (by omega)]
theorem one_loop {n k m s e : Nat} {X51 X43 : zS → zF Int32} {st : zS} (hs : s = k * 16) (he : e = if k * 16 + 16 < m then k * 16 + 16 else m) (hm : m ≤ 4096) (hk : k * 16 < m) : ∀ (q i : Nat), s + 1 ≤ i → i ≤ e → e - i < q → (∀ j, s < j → j < i → st 6 j = st 6 s) →
    fX2_isOneNumberInNext_20 n X51 X43 q (nI s) (nI e) (nI i) st = if pl (st 6) k m then X51 st else X43 st := by
  have h6 := al_6
  have he1 : e ≤ m := by rw [he]; split <;> omega
  have he2 : e ≤ k * 16 + 16 := by rw [he]; split <;> omega
  have he3 : e = k * 16 + 16 ∨ e = m := by rw [he]; split <;> omega
  intro q
  induction q with
  | zero => intro i _ _ h; omega
  | succ q ih =>
    intro i h1 h2 h3 h4
    rw [fX2_isOneNumberInNext_20]
    simp (disch := omega) only [nle, nib, ncl, li1, nad]
    by_cases h : e ≤ i
    · have hi : pl (st 6) k m := by
        intro j hj hjm
        by_cases j0 : j = 0
        · rw [j0, Nat.add_zero]
        · rw [← hs]
          exact h4 (s + j) (by omega) (by omega)
      rw [if_pos h, if_pos hi]
    · rw [if_neg h, if_pos (by omega), if_pos (by omega)]
      by_cases c : st 6 i = st 6 s
      · rw [if_pos c]
        refine ih (i + 1) (by omega) (by omega) (by omega) (fun j hj1 hj2 => ?_)
        by_cases e9 : j = i
        · rw [e9]; exact c
        · exact h4 j hj1 (by omega)
      · rw [if_neg c, if_neg]
        intro hp
        have := hp (i - k * 16) (by omega) (by omega)
        rw [show k * 16 + (i - k * 16) = i by omega, ← hs] at this
        exact c this
theorem f_isOne {n k m : Nat} {st : zS} (hm : m ≤ 4096) (hk : k * 16 < m) (hn : 8192 < n) : fX2_isOneNumberInNext n (nI k) (nI m) st = some (.inl (if pl (st 6) k m then nI 1 else nI 0), st) := by
  unfold fX2_isOneNumberInNext
  simp (disch := omega) only [li16, li1, li0, nml, nad, nlt, nit]
  rw [one_loop rfl rfl hm hk n (k * 16 + 1) (Nat.le_refl _) (by split <;> omega) (by split <;> omega) (fun j h1 h2 => by omega)]
  split <;> rfl
/-- OWN leaves that k < .. would be: 1 or 0 -/
def own1 (w : Nat → Int32) (m k : Nat) : Nat := if pl w k m then 0 else 1
theorem own1_le {w : Nat → Int32} {m : Nat} (k : Nat) : own1 w m k ≤ 1 := by unfold own1; split <;> omega
theorem co_loop {n m : Nat} {X : Int32 → zS → zF Int32} {st : zS} (hm : m ≤ 4096) (hn : 8192 < n) : ∀ (q i c : Nat), i ≤ lf m → lf m - i < q → c ≤ i → fX2_countOwnInNext_5 n X q (nI m) (nI c) (nI i) st = X (nI (c + (sm (own1 (st 6) m) (lf m) - sm (own1 (st 6) m) i))) st := by
  have hl : lf m ≤ 256 := by unfold lf; omega
  intro q
  induction q with
  | zero => intro i c _ h; omega
  | succ q ih =>
    intro i c h1 h2 h3
    rw [fX2_countOwnInNext_5, f_leavesFor (by omega), zb_s]
    simp (disch := omega) only [nle]
    by_cases h : lf m ≤ i
    · rw [if_pos h, show i = lf m by omega, Nat.sub_self, Nat.add_zero]
    · have hi : i * 16 < m := by unfold lf at h; omega
      have h5 := sm_mono (f := own1 (st 6) m) (show i + 1 ≤ lf m by omega)
      have h6 : sm (own1 (st 6) m) (i + 1) = sm (own1 (st 6) m) i + own1 (st 6) m i := rfl
      rw [if_neg h, f_isOne hm hi hn, zb_s]
      simp (disch := omega) only [li1, nad]
      by_cases hp : pl (st 6) i m
      · have h7 : own1 (st 6) m i = 0 := if_pos hp
        rw [if_pos hp, if_neg (by rw [li0, neq (by omega) (by omega)]; omega), ih (i + 1) c (by omega) (by omega) (by omega)]
        congr 2
        omega
      · have h7 : own1 (st 6) m i = 1 := if_neg hp
        rw [if_neg hp, if_pos li0.symm, ih (i + 1) (c + 1) (by omega) (by omega) (by omega)]
        congr 2
        omega
theorem f_countOwn {n m i : Nat} {st : zS} (hm : m ≤ 4096) (hi : i ≤ lf m) (hn : 8192 < n) : fX2_countOwnInNext n (nI i) (nI m) st = some (.inl (nI (sm (own1 (st 6) m) (lf m) - sm (own1 (st 6) m) i)), st) := by
  unfold fX2_countOwnInNext
  have hl : lf m ≤ 256 := by unfold lf; omega
  rw [li0, co_loop hm hn n i 0 hi (by omega) (Nat.zero_le _), Nat.zero_add]
theorem f_valueAt {n p i : Nat} {st : zS} (hp : p < 512) (hi : i < 16) : fX0_valueAt n (nI p) (nI i) st = some (.inl (st 3 (p * 16 + i)), st) := by
  unfold fX0_valueAt
  have h3 := al_3
  simp (disch := omega) only [li16, nml, nad, nib, ncl]
  rw [if_pos (by omega)]
theorem as_loop {n r k m : Nat} {X76 X68 : zS → zF Int32} {st : zS} (hr : isRow r) (e : st r 3 = nI m) (hm : m ≤ 4096) (hk : k * 16 < m) (hp : okp (st (r + 16) k)) : ∀ (q i : Nat), i ≤ 16 → k * 16 + i ≤ m → 17 - i < q → (∀ j, j < i → VR st r (k * 16 + j) = st 6 (k * 16 + j)) →
    fX2_isLeafAsInNext_16 n X76 X68 q r (nI k) (nI (k * 16)) (st (r + 16) k) (nI i) st = if sam (VR st r) (st 6) k m then X76 st else X68 st := by
  have h6 := al_6
  intro q
  induction q with
  | zero => intro i _ _ h; omega
  | succ q ih =>
    intro i h1 h2 h3 h4
    rw [fX2_isLeafAsInNext_16, f_valuesIn (by omega) e (by omega), zb_s]
    have go : i < 16 → k * 16 + i < m → ∀ x : Int32, x = VR st r (k * 16 + i) → fX2_isLeafAsInNext_52 n (fun (r1 : Nat) (i2 : Int32) (i3 : Int32) (i4 : Int32) (i5 : Int32) (st : zS) => fX2_isLeafAsInNext_16 n X76 X68 q r1 i2 i3 i4 i5 st) X68 r (nI k) (nI (k * 16)) (st (r + 16) k) (nI i) x st = if sam (VR st r) (st 6) k m then X76 st else X68 st := by
      intro g1 g2 x hx
      unfold fX2_isLeafAsInNext_52
      simp (disch := omega) only [li1, nad, nib, ncl]
      rw [if_pos (by omega), hx]
      by_cases c : VR st r (k * 16 + i) = st 6 (k * 16 + i)
      · rw [if_pos c]
        refine ih (i + 1) (by omega) (by omega) (by omega) (fun j hj => ?_)
        by_cases e9 : j = i
        · rw [e9]; exact c
        · exact h4 j (by omega)
      · rw [if_neg c, if_neg]
        exact fun hs => c (hs i g1 g2)
    by_cases h : (if m - k * 16 < 16 then m - k * 16 else 16) ≤ i
    · have hs : sam (VR st r) (st 6) k m := fun j hj hjm => h4 j (by split at h <;> omega)
      rw [if_pos ((nI_leI (by split <;> omega) (by omega)).mpr h), if_pos hs]
    · have g1 : i < 16 := by split at h <;> omega
      have g2 : k * 16 + i < m := by split at h <;> omega
      rw [if_neg (fun q => h ((nI_leI (by split <;> omega) (by omega)).mp q))]
      have hv : VR st r (k * 16 + i) = if st (r + 16) k = M1 then st (r + 32) k else st 3 ((st (r + 16) k).toNatClampNeg * 16 + i) := by
        unfold VR
        rw [show (k * 16 + i) / 16 = k by omega, show (k * 16 + i) % 16 = i by omega]
      have hkl : k < 256 := by omega
      rcases hp with e1 | ⟨p, hp1, e1⟩
      · rw [if_pos e1] at hv
        rw [M1e, if_pos e1, if_pos (by rw [inb_nI (by omega), al_n hr]; exact hkl), ncl (by omega)]
        exact go g1 g2 _ hv.symm
      · rw [e1, if_neg (nI_m1 (by omega)), ncl (by omega)] at hv
        rw [M1e, if_neg (by rw [e1]; exact nI_m1 (by omega))]
        have e2 : fX0_valueAt n (st (r + 16) k) (nI i) st = some (.inl (VR st r (k * 16 + i)), st) := by rw [e1, f_valueAt hp1 g1, hv]
        rw [e2, zb_s]
        exact go g1 g2 _ rfl
theorem f_isLeafAs {n r k m : Nat} {st : zS} (hr : isRow r) (e : st r 3 = nI m) (hm : m ≤ 4096) (hk : k * 16 < m) (hp : okp (st (r + 16) k)) (hn : 8192 < n) : fX2_isLeafAsInNext n r (nI k) st = some (.inl (if sam (VR st r) (st 6) k m then nI 1 else nI 0), st) := by
  unfold fX2_isLeafAsInNext
  simp (disch := omega) only [li16, li1, li0, nml, nib, ncl]
  rw [if_pos (by rw [al_p hr]; omega), as_loop hr e hm hk hp n 0 (by omega) (by omega) (by omega) (fun j h => by omega)]
  split <;> rfl
