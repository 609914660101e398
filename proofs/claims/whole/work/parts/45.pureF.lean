set_option maxRecDepth 100000 in
theorem ch_leaf {n md a m k q : Nat} {i2 i3 i4 : Int32} {X : Int32 → Int32 → Int32 → Int32 → zS → zF Unit} {st cur : zS} (M : MR st md) (N : CN (fR st) md (st 5) 4096) (ha : a < 16) (ht : st 1 a = 1) (em : LR st a = m) (hk : k < lf m) (c2 : cur 2 = st 2) (c3 : cur 3 = st 3) (c5 : cur 5 = st 5) (c6 : cur 6 = st 6) (c4 : cur 4 (a * 256 + k) = st 4 (a * 256 + k)) (hn : 200000 ≤ n) :
    fX3_change_19 n X (q + 1) (nI a) i2 i3 i4 (nI k) cur = fX3_change_192 n (fun (i1 : Int32) (i2 : Int32) (i3 : Int32) (i4 : Int32) (i5 : Int32) (st : zS) => fX3_change_19 n X q i1 i2 i3 i4 i5 st) (nI a) i2 i3 i4 (nI k) (fl (sam (fun i => st 3 (a * 4096 + i)) (st 6) k m)) (fl (pl (st 6) k m)) (st 4 (a * 256 + k)) (fl (planR st (st 6) a m k = 3)) cur := by
  obtain ⟨M1', M2, M3, M4, M5⟩ := M
  have h2 := ml_2
  have h4 := ml_4
  have h5 := ml_5
  obtain ⟨e2, e3⟩ := M2 a ha ht
  rw [em] at e2 e3
  have hl : lf m ≤ 256 := by unfold lf; omega
  have hk16 : k * 16 < m := by unfold lf at hk; omega
  have hz0 : ¬ st 1 a = 0 := by rw [ht]; decide
  have hlive : fR st (a * 256 + k) = st 4 (a * 256 + k) := by
    unfold fR
    rw [show (a * 256 + k) / 256 = a by omega, show (a * 256 + k) % 256 = k by omega, if_pos ⟨hz0, by rw [em]; exact hk⟩]
  have hi2 : inb (nI a) (ml 2) := (inb_nI (by omega)).mpr (by omega)
  have hv : vin m k ≤ 16 := vin_le
  rw [fX3_change_19, if_pos hi2, ncl (by omega), c2, e2, f_leaves (by omega), zb_s, if_neg (by rw [nle (by omega) (by omega)]; omega), if_pos hi2, c2, e2, f_inLeaf e3 hk16, zb_s]
  have hs := sp_loop (n := n) (a := a) (i2 := i2) (i3 := i3) (i4 := i4) (rt := cur) (X := (fun (i1 : Int32) (i2 : Int32) (i3 : Int32) (i4 : Int32) (i5 : Int32) (i7 : Int32) (i8 : Int32) (st : zS) => (if inb (((256 : Int32) * i1) + i5) (ml 4) then (if i7 = 0 then (if i8 = 0 then (if (st 4 ((((256 : Int32) * i1) + i5)).toNatClampNeg) = ((-1) : Int32) then fX3_change_187 n (fun (i1 : Int32) (i2 : Int32) (i3 : Int32) (i4 : Int32) (i5 : Int32) (st : zS) => fX3_change_19 n X q i1 i2 i3 i4 i5 st) i1 i2 i3 i4 i5 i7 i8 (st 4 ((((256 : Int32) * i1) + i5)).toNatClampNeg) st else (if inb (st 4 ((((256 : Int32) * i1) + i5)).toNatClampNeg) (ml 5) then (if (st 5 ((st 4 ((((256 : Int32) * i1) + i5)).toNatClampNeg)).toNatClampNeg) ≤ (1 : Int32) then fX3_change_191 n (fun (i1 : Int32) (i2 : Int32) (i3 : Int32) (i4 : Int32) (i5 : Int32) (st : zS) => fX3_change_19 n X q i1 i2 i3 i4 i5 st) i1 i2 i3 i4 i5 i7 i8 (st 4 ((((256 : Int32) * i1) + i5)).toNatClampNeg) st else fX3_change_187 n (fun (i1 : Int32) (i2 : Int32) (i3 : Int32) (i4 : Int32) (i5 : Int32) (st : zS) => fX3_change_19 n X q i1 i2 i3 i4 i5 st) i1 i2 i3 i4 i5 i7 i8 (st 4 ((((256 : Int32) * i1) + i5)).toNatClampNeg) st) else none)) else fX3_change_191 n (fun (i1 : Int32) (i2 : Int32) (i3 : Int32) (i4 : Int32) (i5 : Int32) (st : zS) => fX3_change_19 n X q i1 i2 i3 i4 i5 st) i1 i2 i3 i4 i5 i7 i8 (st 4 ((((256 : Int32) * i1) + i5)).toNatClampNeg) st) else fX3_change_191 n (fun (i1 : Int32) (i2 : Int32) (i3 : Int32) (i4 : Int32) (i5 : Int32) (st : zS) => fX3_change_19 n X q i1 i2 i3 i4 i5 st) i1 i2 i3 i4 i5 i7 i8 (st 4 ((((256 : Int32) * i1) + i5)).toNatClampNeg) st) else none))) ha e3 hk16 n 0 (Nat.zero_le _) (by omega)
  rw [← fl_t (show smf (fun i => cur 3 (a * 4096 + i)) (cur 6) k 0 from fun i hi => by omega), ← fl_t (show plf (cur 6) k 0 from fun i hi => by omega), show nI (k * 16 + 0) = (16 : Int32) * nI k by rw [li16, nml]; congr 1; omega] at hs
  rw [hs, c3, c6, li256, nml, nad, if_pos ((inb_nI (by omega)).mpr (by omega)), ncl (by omega), show 256 * a + k = a * 256 + k by omega, c4, c5, M1e]
  unfold planR
  by_cases d1 : sam (fun i => st 3 (a * 4096 + i)) (st 6) k m
  · rw [if_neg (by rw [fl_0]; exact fun z => z d1)]
    unfold fX3_change_191
    rw [show (0 : Int32) = fl ((if sam (fun i => st 3 (a * 4096 + i)) (st 6) k m then 0 else if pl (st 6) k m then 1 else if st 4 (a * 256 + k) ≠ M1 ∧ cnt (fR st) (st 4 (a * 256 + k)) 4096 = 1 then 2 else 3) = 3) from fl_f (by rw [if_pos d1]; decide)]
  · rw [if_pos (by rw [fl_0]; exact d1)]
    by_cases d2 : pl (st 6) k m
    · rw [if_neg (by rw [fl_0]; exact fun z => z d2)]
      unfold fX3_change_191
      rw [show (0 : Int32) = fl ((if sam (fun i => st 3 (a * 4096 + i)) (st 6) k m then 0 else if pl (st 6) k m then 1 else if st 4 (a * 256 + k) ≠ M1 ∧ cnt (fR st) (st 4 (a * 256 + k)) 4096 = 1 then 2 else 3) = 3) from fl_f (by rw [if_neg d1, if_pos d2]; decide)]
    · rw [if_pos (by rw [fl_0]; exact d2)]
      rcases M5 (a * 256 + k) (by omega) with w | ⟨x, hx, w⟩
      · rw [hlive] at w
        rw [if_pos w]
        unfold fX3_change_187
        rw [show (1 : Int32) = fl ((if sam (fun i => st 3 (a * 4096 + i)) (st 6) k m then 0 else if pl (st 6) k m then 1 else if st 4 (a * 256 + k) ≠ M1 ∧ cnt (fR st) (st 4 (a * 256 + k)) 4096 = 1 then 2 else 3) = 3) from fl_t (by rw [if_neg d1, if_neg d2, if_neg (fun z => z.1 w)])]
      · have hc := cnt_pos (f := fR st) 4096 (show a * 256 + k < 4096 by omega) w
        have hcl := cnt_le (f := fR st) (x := nI x) 4096
        rw [hlive] at w
        have hm1 : st 4 (a * 256 + k) ≠ M1 := by rw [w]; exact nI_m1 (by omega)
        rw [if_neg hm1, if_pos (by rw [w]; exact (inb_nI (by omega)).mpr (by omega))]
        have hg : st 5 ((st 4 (a * 256 + k)).toNatClampNeg) = nI (cnt (fR st) (nI x) 4096) := by rw [w, ncl (by omega)]; exact N x hx
        rw [hg]
        by_cases c1 : cnt (fR st) (nI x) 4096 = 1
        · rw [if_pos (by rw [li1, nle (by omega) (by omega)]; omega)]
          unfold fX3_change_191
          rw [show (0 : Int32) = fl ((if sam (fun i => st 3 (a * 4096 + i)) (st 6) k m then 0 else if pl (st 6) k m then 1 else if st 4 (a * 256 + k) ≠ M1 ∧ cnt (fR st) (st 4 (a * 256 + k)) 4096 = 1 then 2 else 3) = 3) from fl_f (by rw [if_neg d1, if_neg d2, if_pos ⟨hm1, by rw [w]; exact c1⟩]; decide)]
        · rw [if_neg (by rw [li1, nle (by omega) (by omega)]; omega)]
          unfold fX3_change_187
          rw [show (1 : Int32) = fl ((if sam (fun i => st 3 (a * 4096 + i)) (st 6) k m then 0 else if pl (st 6) k m then 1 else if st 4 (a * 256 + k) ≠ M1 ∧ cnt (fR st) (st 4 (a * 256 + k)) 4096 = 1 then 2 else 3) = 3) from fl_t (by rw [if_neg d1, if_neg d2, if_neg (fun z => c1 (by rw [← w]; exact z.2))])]
def RN (st : zS) (w : Nat → Int32) (a m : Nat) : Nat → Nat := sm (fun k => if planR st w a m k = 3 then 1 else 0)
theorem RN_s {st : zS} {w : Nat → Int32} {a m i : Nat} : RN st w a m (i + 1) = RN st w a m i + (if planR st w a m i = 3 then 1 else 0) := rfl
theorem turn0 {n md a m : Nat} {i2 : Int32} {X : Int32 → Int32 → Int32 → Int32 → zS → zF Unit} {st : zS} (M : MR st md) (N : CN (fR st) md (st 5) 4096) (ha : a < 16) (ht : st 1 a = 1) (em : LR st a = m) (hn : 200000 ≤ n) : ∀ (q i c : Nat), i ≤ lf m → lf m - i < q → c ≤ i → fX3_change_19 n X q (nI a) i2 (nI c) (nI 0) (nI i) st = X (nI a) i2 (nI (c + (RN st (st 6) a m (lf m) - RN st (st 6) a m i))) (nI 0) st := by
  have h2 := ml_2
  obtain ⟨e2, e3⟩ := M.2.1 a ha ht
  rw [em] at e2 e3
  have hl : lf m ≤ 256 := by unfold lf; omega
  intro q
  induction q with
  | zero => intro i c _ h; omega
  | succ q ih =>
    intro i c h1 hq hc
    by_cases h : lf m ≤ i
    · have e : i = lf m := by omega
      subst e
      rw [fX3_change_19, if_pos ((inb_nI (by omega)).mpr (by omega)), ncl (by omega), e2, f_leaves (by omega), zb_s, if_pos (by rw [nle (by omega) (by omega)]; omega), Nat.sub_self, Nat.add_zero]
    · have hmo : RN st (st 6) a m (i + 1) ≤ RN st (st 6) a m (lf m) := sm_mono (by omega)
      rw [ch_leaf M N ha ht em (by omega) rfl rfl rfl rfl rfl hn]
      unfold fX3_change_192
      rw [if_pos li0.symm]
      by_cases p : planR st (st 6) a m i = 3
      · rw [if_neg (by rw [fl_0]; exact fun z => z p), li1, nad, nad]
        show fX3_change_19 n X q (nI a) i2 (nI (c + 1)) (nI 0) (nI (i + 1)) st = _
        rw [ih (i + 1) (c + 1) (by omega) (by omega) (by omega)]
        congr 2
        rw [RN_s, if_pos p] at hmo ⊢
        omega
      · rw [if_pos (by rw [fl_0]; exact p), li0, li1, nad, nad]
        show fX3_change_19 n X q (nI a) i2 (nI (c + 0)) (nI 0) (nI (i + 1)) st = _
        rw [ih (i + 1) (c + 0) (by omega) (by omega) (by omega)]
        congr 2
        rw [RN_s, if_neg p, Nat.add_zero, Nat.add_zero]
