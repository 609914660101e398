theorem f_merge {n lo mid hi : Nat} {st : zS} (h1 : lo < mid) (h2 : mid < hi) (h3 : hi ≤ 4096) (S1 : Rng (st 6) lo mid) (S2 : Rng (st 6) mid hi) (hn : 200000 ≤ n) :
    ∃ st', fX2_mergeInNext n (nI lo) (nI mid) (nI hi) st = some (.inl (), st') ∧ (∀ x, x ≠ 6 → x ≠ 7 → st' x = st x) ∧ Rng (st' 6) lo hi ∧ (∀ x, sg (st' 6) x lo (hi - lo) = sg (st 6) x lo (hi - lo)) ∧ ∀ j, j < lo ∨ hi ≤ j → st' 6 j = st 6 j := by
  have h6 := al_6
  have h7 := al_7
  unfold fX2_mergeInNext
  rw [li1, nsb (by omega), if_pos ((inb_nI (by omega)).mpr (by omega)), if_pos ((inb_nI (by omega)).mpr (by omega)), ncl (by omega), ncl (by omega)]
  by_cases c : st 6 mid < st 6 (mid - 1)
  · rw [if_pos c, if_pos ?_]
    · rw [zl_s, nsb (by omega), ncl (by omega), ncl (by omega)]
      have es : va_cpy (st 6) (st 7) lo lo (mid - lo) = fun j => if lo ≤ j ∧ j < lo + (mid - lo) then st 6 (lo + (j - lo)) else st 7 j := rfl
      rw [es]
      generalize hsv : (fun j => if lo ≤ j ∧ j < lo + (mid - lo) then st 6 (lo + (j - lo)) else st 7 j) = s
      have hs : ∀ l, lo ≤ l → l < mid → s l = st 6 l := fun l l1 l2 => by rw [← hsv]; show (if lo ≤ l ∧ l < lo + (mid - lo) then st 6 (lo + (l - lo)) else st 7 l) = _; rw [if_pos (by omega), show lo + (l - lo) = l by omega]
      have M : MI (st 6) s lo mid hi lo mid lo := by
        refine ⟨by omega, by omega, by omega, by omega, by omega, fun p q a1 a2 a3 => by omega, fun p l a1 a2 => by omega, fun p r a1 a2 => by omega, fun p q a1 a2 a3 => ?_, S2⟩
        rw [hs p a1 (by omega), hs q (by omega) a3]; exact S1 p q a1 a2 a3
      have C : MC (st 6) s (st 6) lo mid hi lo mid lo := by
        refine ⟨fun x => ?_, fun _ _ => rfl⟩
        have c1 := cnt_sg (f := st 6) (x := x) lo (mid - lo)
        have c2 := cnt_sg (f := st 6) (x := x) mid (hi - mid)
        have c3 := cnt_sg (f := st 6) (x := x) lo (hi - lo)
        rw [show lo + (mid - lo) = mid by omega] at c1
        rw [show mid + (hi - mid) = hi by omega] at c2
        rw [show lo + (hi - lo) = hi by omega] at c3
        have e0 : sg (st 6) x lo 0 = 0 := rfl
        rw [Nat.sub_self, sg_c (f := s) (g := st 6) (mid - lo) lo (fun j j1 j2 => hs j j1 (by omega))]
        omega
      obtain ⟨f', g1, g2, g3, g4⟩ := merge43 (n := n) (X := fun st => some (.inl (), st)) (st := upA st 7 s) h3 upA_s n lo mid lo (st 6) (by omega) M C
      have e6 : upA (upA st 7 s) 6 (st 6) = upA st 7 s := by
        have : upA st 7 s 6 = st 6 := upA_n (by decide)
        rw [← this, upA_id]
      rw [e6] at g1
      rw [g1]
      refine ⟨_, rfl, fun x x6 x7 => by rw [upA_n x6, upA_n x7], ?_, ?_, ?_⟩
      · rw [upA_s]; exact g2
      · rw [upA_s]; exact g3
      · rw [upA_s]; exact g4
    · rw [nsb (by omega)]
      unfold cpok
      simp (disch := omega) only [li0, ncl, nlt]
      omega
  · rw [if_neg c]
    refine ⟨st, rfl, fun _ _ _ => rfl, fun p q a1 a2 a3 => ?_, fun _ => rfl, fun _ _ => rfl⟩
    by_cases q1 : q < mid
    · exact S1 p q a1 a2 q1
    · by_cases p1 : p < mid
      · exact Int32.le_trans (S1 p (mid - 1) a1 (by omega) (by omega)) (Int32.le_trans (Int32.not_lt.mp c) (S2 mid q (Nat.le_refl _) (by omega) a3))
      · exact S2 p q (by omega) a2 a3
def Bk (f : Nat → Int32) (w m d : Nat) : Prop := ∀ p q, d * w ≤ p → p ≤ q → q < d * w + w → q < m → f p ≤ f q
theorem Bk_c {f g : Nat → Int32} {w m d : Nat} (B : Bk f w m d) (h : ∀ p, d * w ≤ p → p < d * w + w → p < m → g p = f p) : Bk g w m d := fun p q a1 a2 a3 a4 => by rw [h p a1 (by omega) (by omega), h q (by omega) a3 a4]; exact B p q a1 a2 a3 a4
theorem sort9 {n m w : Nat} {X : Int32 → Int32 → zS → zF Unit} (hw : 1 ≤ w) (hwm : w < m) (hm : m ≤ 4096) (hn : 200000 ≤ n) : ∀ (q c low : Nat) (st : zS), low = c * (2 * w) → low ≤ m + w → m + w - low < q → (∀ d, d < c → Bk (st 6) (2 * w) m d) → (∀ d, 2 * c ≤ d → Bk (st 6) w m d) →
    ∃ st', fX2_sortNext_9 n X q (nI m) (nI w) (nI low) st = X (nI m) (nI w) st' ∧ (∀ x, x ≠ 6 → x ≠ 7 → st' x = st x) ∧ (∀ d, Bk (st' 6) (2 * w) m d) ∧ (∀ x, cnt (st' 6) x m = cnt (st 6) x m) := by
  intro q
  induction q with
  | zero => intro c low st _ _ h; omega
  | succ q ih =>
    intro c low st hlow hle hq H1 H2
    have e2c : 2 * c * w = low := by rw [hlow, Nat.mul_comm 2 c, Nat.mul_assoc]
    have e2c1 : (2 * c + 1) * w = low + w := by rw [Nat.add_mul, e2c, Nat.one_mul]
    have ec1 : (c + 1) * (2 * w) = low + 2 * w := by rw [Nat.add_mul, ← hlow, Nat.one_mul]
    by_cases h : m ≤ low + w
    · refine ⟨st, ?_, fun _ _ _ => rfl, fun d => ?_, fun _ => rfl⟩
      · rw [fX2_sortNext_9, nad, if_pos (by rw [nle (by omega) (by omega)]; exact h)]
      · by_cases dc : d < c
        · exact H1 d dc
        · intro p q' a1 a2 a3 a4
          by_cases de : d = c
          · subst de
            rw [← hlow] at a1 a3
            exact H2 (2 * d) (Nat.le_refl _) p q' (by rw [e2c]; exact a1) a2 (by rw [e2c]; omega) a4
          · have : (c + 1) * (2 * w) ≤ d * (2 * w) := Nat.mul_le_mul_right _ (by omega)
            omega
    · have hmin : (if nI m < nI (low + 2 * w) then nI m else nI (low + 2 * w)) = nI (if m < low + 2 * w then m else low + 2 * w) := by
        by_cases c' : m < low + 2 * w
        · rw [if_pos (by rw [nlt (by omega) (by omega)]; exact c'), if_pos c']
        · rw [if_neg (by rw [nlt (by omega) (by omega)]; exact c'), if_neg c']
      have hh1 : low + w < (if m < low + 2 * w then m else low + 2 * w) := by split <;> omega
      have hh2 : (if m < low + 2 * w then m else low + 2 * w) ≤ m := by split <;> omega
      have hh3 : (if m < low + 2 * w then m else low + 2 * w) ≤ low + 2 * w := by split <;> omega
      have hh4 : ∀ j, (if m < low + 2 * w then m else low + 2 * w) ≤ j → m ≤ j ∨ low + 2 * w ≤ j := fun j hj => by split at hj <;> omega
      generalize (if m < low + 2 * w then m else low + 2 * w) = hi at hmin hh1 hh2 hh3 hh4
      obtain ⟨st1, g1, g2, g3, g4, g5⟩ := f_merge (n := n) (lo := low) (mid := low + w) (hi := hi) (st := st) (by omega) hh1 (by omega)
        (fun p q' a1 a2 a3 => H2 (2 * c) (Nat.le_refl _) p q' (by rw [e2c]; exact a1) a2 (by rw [e2c]; exact a3) (by omega))
        (fun p q' a1 a2 a3 => H2 (2 * c + 1) (by omega) p q' (by rw [e2c1]; exact a1) a2 (by rw [e2c1]; omega) (by omega)) hn
      have cm : ∀ x, cnt (st1 6) x m = cnt (st 6) x m := by
        intro x
        have c1 := cnt_sg (f := st1 6) (x := x) low (hi - low)
        have c2 := cnt_sg (f := st 6) (x := x) low (hi - low)
        have c3 := cnt_sg (f := st1 6) (x := x) hi (m - hi)
        have c4 := cnt_sg (f := st 6) (x := x) hi (m - hi)
        rw [show low + (hi - low) = hi by omega] at c1 c2
        rw [show hi + (m - hi) = m by omega] at c3 c4
        have c5 : cnt (st1 6) x low = cnt (st 6) x low := cnt_c (fun t ht => g5 t (by omega))
        have c6 : sg (st1 6) x hi (m - hi) = sg (st 6) x hi (m - hi) := sg_c _ _ (fun j j1 j2 => g5 j (by omega))
        have c7 := g4 x
        omega
      obtain ⟨st2, b1, b2, b3, b4⟩ := ih (c + 1) (low + 2 * w) st1 ec1.symm (by omega) (by omega)
        (fun d hd => by
          by_cases de : d = c
          · subst de
            intro p q' a1 a2 a3 a4
            rw [← hlow] at a1 a3
            exact g3 p q' a1 a2 (by rcases Nat.lt_or_ge q' hi with z | z; exact z; rcases hh4 q' z with y | y <;> omega)
          · refine Bk_c (H1 d (by omega)) (fun p p1 p2 p3 => g5 p (Or.inl ?_))
            have : (d + 1) * (2 * w) ≤ c * (2 * w) := Nat.mul_le_mul_right _ (by omega)
            rw [Nat.add_mul, Nat.one_mul] at this
            omega)
        (fun d hd => by
          refine Bk_c (H2 d (by omega)) (fun p p1 p2 p3 => g5 p (Or.inr ?_))
          have : (2 * (c + 1)) * w ≤ d * w := Nat.mul_le_mul_right _ hd
          rw [Nat.mul_comm 2 (c + 1), Nat.mul_assoc, ec1] at this
          omega)
      refine ⟨st2, ?_, fun x x6 x7 => by rw [b2 x x6 x7, g2 x x6 x7], b3, fun x => by rw [b4 x, cm x]⟩
      rw [fX2_sortNext_9, nad, if_neg (by rw [nle (by omega) (by omega)]; exact h), li2, nml, nad, hmin, g1, zb_s, b1]
theorem sort2 {n m : Nat} {X : zS → zF Unit} (hm : m ≤ 4096) (hn : 200000 ≤ n) : ∀ (q w : Nat) (st : zS), 1 ≤ w → w ≤ 8192 → m - w < q → (∀ d, Bk (st 6) w m d) →
    ∃ st', fX2_sortNext_2 n X q (nI m) (nI w) st = X st' ∧ (∀ x, x ≠ 6 → x ≠ 7 → st' x = st x) ∧ Srt (st' 6) m ∧ (∀ x, cnt (st' 6) x m = cnt (st 6) x m) := by
  intro q
  induction q with
  | zero => intro w st _ _ h; omega
  | succ q ih =>
    intro w st hw hw2 hq H
    by_cases h : m ≤ w
    · refine ⟨st, ?_, fun _ _ _ => rfl, fun p q' a1 a2 => H 0 p q' (by omega) a1 (by omega) a2, fun _ => rfl⟩
      rw [fX2_sortNext_2, if_pos (by rw [nle (by omega) (by omega)]; exact h)]
    · obtain ⟨st1, g1, g2, g3, g4⟩ := sort9 (n := n) (X := fun (i1 : Int32) (i2 : Int32) (st : zS) => fX2_sortNext_2 n X q i1 ((2 : Int32) * i2) st) hw (by omega) hm hn n 0 0 st (by omega) (by omega) (by omega) (fun d hd => by omega) (fun d _ => H d)
      obtain ⟨st2, b1, b2, b3, b4⟩ := ih (2 * w) st1 (by omega) (by omega) (by omega) g3
      refine ⟨st2, ?_, fun x x6 x7 => by rw [b2 x x6 x7, g2 x x6 x7], b3, fun x => by rw [b4 x, g4 x]⟩
      rw [fX2_sortNext_2, if_neg (by rw [nle (by omega) (by omega)]; exact h), li0, g1, li2, nml, b1]
theorem f_sortNext {n m : Nat} {st : zS} (hm : m ≤ 4096) (hn : 200000 ≤ n) : ∃ st', fX2_sortNext n (nI m) st = some (.inl (), st') ∧ (∀ x, x ≠ 6 → x ≠ 7 → st' x = st x) ∧ Srt (st' 6) m ∧ (∀ x, cnt (st' 6) x m = cnt (st 6) x m) := by
  unfold fX2_sortNext
  rw [li1]
  refine sort2 hm hn n 1 st (Nat.le_refl _) (by omega) (by omega) (fun d p q a1 a2 a3 a4 => ?_)
  have : p = q := by omega
  rw [this]; exact Int32.le_refl _
theorem ok_sort {n fc md : Nat} {i : Int32} {st rt : zS} (R : Rel st rt fc md) (hn : 200000 ≤ n) (hmd : md + 256 ≤ 131072) : Ok (fX2_sort n i st) (fX3_sort n i rt) md := by
  rcases there_cases (n := n) R i with ⟨a, ha, rfl, ht, hA, hT, hAt⟩ | ⟨hA, hT, hAt⟩
  · have hm := R.le ha ht
    have e1 := R.len ha ht
    have hl : lf (LR rt a) ≤ 256 := by unfold lf; omega
    have F0 : ∃ st2, fX2_sort n (nI a) st = fX2_changeLeaves n (9 + a) (nI 0) (nI (lf (LR rt a))) st2 ∧ (∀ x, x ≠ 6 → x ≠ 7 → st2 x = st x) ∧ Srt (st2 6) (LR rt a) ∧ (∀ x, cnt (st2 6) x (LR rt a) = cnt (VR st (9 + a)) x (LR rt a)) := by
      obtain ⟨st2, g1, g2, g3, g4⟩ := f_sortNext (n := n) (m := LR rt a) (st := upA st 6 (fun j => if 0 ≤ j ∧ j < 0 + (LR rt a - 0) then VR st (9 + a) (0 + (j - 0)) else st 6 j)) hm hn
      refine ⟨st2, ?_, fun x x6 x7 => by rw [g2 x x6 x7, upA_n x6], g3, fun x => ?_⟩
      · unfold fX2_sort
        rw [hAt, zb_s, e1, li0, f_rd R.pi ha (Or.inl rfl) (by omega) (by omega) (by omega) hn, zb_s, upA_n (k := 9 + a) (by omega), e1, g1, zb_s, f_leafCount (m := LR rt a) (by omega) (by rw [g2 _ (by omega) (by omega), upA_n (by omega)]; exact e1), zb_s, zb_unit]
      · rw [g4 x, upA_s]
        refine cnt_c (fun t ht => ?_)
        rw [if_pos (by omega), Nat.sub_zero, Nat.zero_add]
    obtain ⟨st2, f1, f2, f3, f4⟩ := F0
    have G0 : ∃ f', fX3_sort n (nI a) rt = fX3_change n (nI a) (upA (upA rt 0 (upd (rt 0) 0 0)) 6 f') ∧ Srt f' (LR rt a) ∧ (∀ x, cnt f' x (LR rt a) = cnt (VR st (9 + a)) x (LR rt a)) := by
      obtain ⟨f', g1, g2, g3, -⟩ := sort31 (n := n) (a := a) (m := LR rt a) (X := fun (i1 : Int32) (st : zS) => (zb (fX3_change n i1 st) (fun (v25 : Unit) (u24 : zS) => some (.inl (), u24)))) (st := upA rt 0 (upd (rt 0) 0 0)) ha (by rw [upA_n (by decide)]; exact R.lenR ha ht) hm hn n 2048 (fun j => if j < LR rt a then rt 3 (a * 4096 + j) else rt 6 j) (by omega) (by omega)
      refine ⟨f', ?_, g3 (by omega), fun x => ?_⟩
      · unfold fX3_sort
        rw [hA rt rfl, zb_s, if_neg (by decide), f_ref0, zb_s, if_pos rfl, f_takeRow (m := LR rt a) ha (by rw [upA_n (by decide)]; exact R.lenR ha ht) hm hn, zb_s, upA_n (k := 3) (by decide), upA_n (k := 6) (by decide), show (2048 : Int32) = nI 2048 from rfl, g1, zb_unit]
      · rw [g2 x]
        refine cnt_c (fun t ht' => ?_)
        rw [if_pos ht', R.val ha ht ht']
    obtain ⟨f', g1, g2, g3⟩ := G0
    rw [f1, g1]
    refine ok_wr (W := st2 6) R ha ht (by omega) (Nat.le_refl _) hn hmd (fun x h6 h7 _ => f2 x h6 h7) ?_ ?_ ?_ ?_ ?_ ?_ ?_ ?_
    · rw [upA_n (by decide), upA_n (by decide)]
    · rw [upA_n (by decide), upA_n (by decide)]
    · rw [upA_n (by decide), upA_n (by decide)]
    · rw [upA_n (by decide), upA_n (by decide)]
    · rw [upA_n (by decide), upA_s]; rfl
    · intro i hi
      rw [upA_s]
      exact srt_eq (LR rt a) g2 f3 (fun x => by rw [g3 x, f4 x]) i hi
    · intro i i1 i2 i3
      rfl
    · intro i i1 i2
      have := lf_16 (LR rt a)
      omega
  · refine ok_iae R (v := ()) ?_ ?_
    · unfold fX2_sort; rw [hAt, zb_t]
    · unfold fX3_sort; rw [hA rt rfl, zb_s, if_pos rfl, f_ref1, zb_s, if_neg (by decide)]
