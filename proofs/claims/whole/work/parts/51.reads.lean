/-! calls that only read -/
theorem f_isShared {n fc p : Nat} {st : zS} (P : PI st fc) (hp : p < 512) : fX0_isShared n (nI p) st = some (.inl (if cnt (fC st) (nI p) 4096 ≤ 1 then (0 : Int32) else 1), st) := by
  have h4 := al_4
  have hl := cnt_le (f := fC st) (x := nI p) 4096
  unfold fX0_isShared
  rw [if_pos ((inb_nI (by omega)).mpr (by omega)), ncl (by omega), P.2.2.1 p hp]
  by_cases c3 : cnt (fC st) (nI p) 4096 ≤ 1
  · rw [if_pos (by rw [li1, nle (by omega) (by omega)]; exact c3), if_pos c3]
  · rw [if_neg (by rw [li1, nle (by omega) (by omega)]; exact c3), if_neg c3]
theorem ok_leaf {n fc md : Nat} {i k : Int32} {st rt : zS} (R : Rel st rt fc md) (hn : 200000 ≤ n) : Ok (fX2_leaf n i k st) (fX3_leaf n i k rt) md := by
  have R0 := Rel_code R 0
  rcases leaf_cases (n := n) R i k with ⟨a, k, ha, rfl, ht, rfl, hk, hL, hT⟩ | ⟨hL, hT⟩
  · have hm := R.le ha ht
    have hl : lf (LR rt a) ≤ 256 := by unfold lf; omega
    have h5 := ml_5
    have hr : isRow (9 + a) := by omega
    have t4 := lt4k ha (show k < 256 by omega)
    obtain ⟨g, c1, c2⟩ := f_countAll R0.mr hn
    have ht0 : upA rt 0 (upd (rt 0) 0 0) 1 a = 1 := by rw [upA_n (by decide)]; exact ht
    have hk0 : k < lf (LR (upA rt 0 (upd (rt 0) 0 0)) a) := by rw [LR_c (rt := rt) (upA_n (by decide))]; exact hk
    have em := R0.mark ha ht0 hk0
    have ee := (R0.eqv _ _ t4 t4).1
    have ec := Eqv_cnt R0.eqv t4 (Nat.le_refl 4096)
    have m4 := R0.mr.2.2.2.1
    have mm := R0.mr.2.2.2.2 _ t4
    rw [em] at ee ec mm
    have F0 : fX2_leaf n (nI a) (nI k) st = (if fC st (a * 256 + k) = M1 then some (.inl (0 : Int32), st) else (zb (fX0_isShared n (fC st (a * 256 + k)) st) (fun (v9 : Int32) (u8 : zS) => (if v9 = 0 then some (.inl (1 : Int32), u8) else some (.inl (2 : Int32), u8))))) := by
      unfold fX2_leaf
      rw [hT, zb_s, if_neg (by decide), if_pos ((inb_nI (by omega)).mpr ha), ncl (show a < 2147483648 by omega), if_pos (by rw [al_p hr]; exact (inb_nI (by omega)).mpr (by omega)), ncl (by omega), fC_at (by omega)]
      rfl
    have G0 : fX3_leaf n (nI a) (nI k) rt = (if upA rt 0 (upd (rt 0) 0 0) 4 (a * 256 + k) = M1 then some (.inl (0 : Int32), upA (upA rt 0 (upd (rt 0) 0 0)) 5 g) else (if inb (upA rt 0 (upd (rt 0) 0 0) 4 (a * 256 + k)) (ml 5) then (if g (upA rt 0 (upd (rt 0) 0 0) 4 (a * 256 + k)).toNatClampNeg ≤ (1 : Int32) then some (.inl (1 : Int32), upA (upA rt 0 (upd (rt 0) 0 0)) 5 g) else some (.inl (2 : Int32), upA (upA rt 0 (upd (rt 0) 0 0)) 5 g)) else none)) := by
      unfold fX3_leaf
      rw [zl_s, hL _ (upA_n (by decide)) (upA_n (by decide)), zb_s, if_neg (by decide), c1, zb_s, li256, nml, nad, if_pos (by rw [ml_4]; exact (inb_nI (by omega)).mpr (by omega)), ncl (by omega), upA_n (k := 4) (K := 5) (by decide), upA_s (K := 5), show 256 * a + k = a * 256 + k by omega]
      rfl
    by_cases z : fC st (a * 256 + k) = M1
    · exact ok_inl (Rel_5 R0) (by omega) (by rw [F0, if_pos z]) (by rw [G0, if_pos (ee.mp z)]) (by rw [upA_n (by decide), code_at]; rfl)
    · rcases R.pi.2.1 _ t4 with y | ⟨p, hp, y⟩
      · exact absurd y z
      · rcases mm with y2 | ⟨x, hx, y2⟩
        · exact absurd (ee.mpr y2) z
        · rw [y, y2] at ec
          have hl := cnt_le (f := fC st) (x := nI p) 4096
          rw [if_neg z, y, f_isShared R.pi hp, zb_s] at F0
          rw [if_neg (fun q => z (ee.mpr q)), y2, if_pos ((inb_nI (by omega)).mpr (by omega)), ncl (by omega), c2 x hx, ← ec] at G0
          by_cases c3 : cnt (fC st) (nI p) 4096 ≤ 1
          · exact ok_inl (Rel_5 R0) (by omega) (by rw [F0, if_pos c3, if_pos rfl]) (by rw [G0, if_pos (by rw [li1, nle (by omega) (by omega)]; exact c3)]) (by rw [upA_n (by decide), code_at]; rfl)
          · exact ok_inl (Rel_5 R0) (by omega) (by rw [F0, if_neg c3, if_neg (by decide)]) (by rw [G0, if_neg (by rw [li1, nle (by omega) (by omega)]; exact c3)]) (by rw [upA_n (by decide), code_at]; rfl)
  · refine ok_inl R0 (by omega) (v := (-1 : Int32)) ?_ ?_ code_at
    · unfold fX2_leaf; rw [hT, zb_s, if_pos rfl]
    · unfold fX3_leaf; rw [zl_s, hL _ (upA_n (by decide)) (upA_n (by decide)), zb_s, if_pos rfl]
theorem ok_alike {n fc md : Nat} {i j i' j' : Int32} {st rt : zS} (R : Rel st rt fc md) : Ok (fX2_alike n i j i' j' st) (fX3_alike n i j i' j' rt) md := by
  have R0 := Rel_code R 0
  rcases leaf_cases (n := n) R i j with ⟨a, k, ha, rfl, ht, rfl, hk, hL, hT⟩ | ⟨hL, hT⟩
  · rcases leaf_cases (n := n) R i' j' with ⟨b, l, hb, rfl, hbt, rfl, hl, hL', hT'⟩ | ⟨hL', hT'⟩
    · have hm := R.le ha ht
      have hm' := R.le hb hbt
      have hk2 : k < 256 := by unfold lf at hk; omega
      have hl2 : l < 256 := by unfold lf at hl; omega
      have hr : isRow (9 + a) := by omega
      have hr' : isRow (9 + b) := by omega
      have e1 := (R.eqv (a * 256 + k) (b * 256 + l) (lt4k ha hk2) (lt4k hb hl2)).1
      have e2 := (R.eqv (a * 256 + k) (b * 256 + l) (lt4k ha hk2) (lt4k hb hl2)).2
      rw [R.mark ha ht hk] at e1 e2
      rw [R.mark hb hbt hl] at e2
      have hx := lt4k ha hk2
      have hy := lt4k hb hl2
      have hb1 : inb (nI (a * 256 + k)) (ml 4) := by rw [ml_4]; exact (inb_nI (Nat.lt_of_lt_of_le hx (by decide))).mpr (Nat.lt_of_lt_of_le hx (by decide))
      have hb2 : inb (nI (b * 256 + l)) (ml 4) := by rw [ml_4]; exact (inb_nI (Nat.lt_of_lt_of_le hy (by decide))).mpr (Nat.lt_of_lt_of_le hy (by decide))
      have F0 : fX2_alike n (nI a) (nI k) (nI b) (nI l) st = (if fC st (a * 256 + k) = M1 then some (.inl (0 : Int32), st) else (if fC st (a * 256 + k) = fC st (b * 256 + l) then some (.inl (1 : Int32), st) else some (.inl (0 : Int32), st))) := by
        unfold fX2_alike
        rw [hT, zb_s, if_neg (by decide), hT', zb_s, if_neg (by decide), if_pos ((inb_nI (by omega)).mpr ha), ncl (show a < 2147483648 by omega), if_pos (by rw [al_p hr]; exact (inb_nI (by omega)).mpr (by omega)), ncl (show k < 2147483648 by omega), ← fC_at (st := st) (a := a) hk2, M1e]
        by_cases z : fC st (a * 256 + k) = M1
        · rw [if_pos z, if_pos z]
        · rw [if_neg z, if_neg z, if_pos ((inb_nI (by omega)).mpr hb), ncl (show b < 2147483648 by omega), if_pos (by rw [al_p hr']; exact (inb_nI (by omega)).mpr (by omega)), ncl (show l < 2147483648 by omega), ← fC_at (st := st) (a := b) hl2]
      have G0 : fX3_alike n (nI a) (nI k) (nI b) (nI l) rt = (if rt 4 (a * 256 + k) = M1 then some (.inl (0 : Int32), upA rt 0 (upd (rt 0) 0 0)) else (if rt 4 (a * 256 + k) = rt 4 (b * 256 + l) then some (.inl (1 : Int32), upA rt 0 (upd (rt 0) 0 0)) else some (.inl (0 : Int32), upA rt 0 (upd (rt 0) 0 0)))) := by
        unfold fX3_alike
        rw [zl_s, hL _ (upA_n (by decide)) (upA_n (by decide)), zb_s, if_neg (by decide), hL' _ (upA_n (by decide)) (upA_n (by decide)), zb_s, if_neg (by decide), li256, nml, nad, nml, nad, if_pos (by rw [ml_4]; exact (inb_nI (by omega)).mpr (by omega)), ncl (show 256 * a + k < 2147483648 by omega), ncl (show 256 * b + l < 2147483648 by omega), upA_n (k := 4) (by decide), show 256 * a + k = a * 256 + k by omega, show 256 * b + l = b * 256 + l by omega, M1e]
        by_cases z : rt 4 (a * 256 + k) = M1
        · rw [if_pos z, if_pos z]
        · rw [if_neg z, if_neg z, if_pos hb1, if_pos hb2]
      by_cases z : fC st (a * 256 + k) = M1
      · exact ok_inl R0 (by omega) (by rw [F0, if_pos z]) (by rw [G0, if_pos (e1.mp z)]) code_at
      · rw [if_neg z] at F0
        rw [if_neg (fun q => z (e1.mpr q))] at G0
        by_cases y : fC st (a * 256 + k) = fC st (b * 256 + l)
        · exact ok_inl R0 (by omega) (by rw [F0, if_pos y]) (by rw [G0, if_pos (e2.mp y)]) code_at
        · exact ok_inl R0 (by omega) (by rw [F0, if_neg y]) (by rw [G0, if_neg (fun q => y (e2.mpr q))]) code_at
    · refine ok_inl R0 (by omega) (v := (0 : Int32)) ?_ ?_ code_at
      · unfold fX2_alike; rw [hT, zb_s, if_neg (by decide), hT', zb_s, if_pos rfl]
      · unfold fX3_alike; rw [zl_s, hL _ (upA_n (by decide)) (upA_n (by decide)), zb_s, if_neg (by decide), hL' _ (upA_n (by decide)) (upA_n (by decide)), zb_s, if_pos rfl]
  · refine ok_inl R0 (by omega) (v := (0 : Int32)) ?_ ?_ code_at
    · unfold fX2_alike; rw [hT, zb_s, if_pos rfl]
    · unfold fX3_alike; rw [zl_s, hL _ (upA_n (by decide)) (upA_n (by decide)), zb_s, if_pos rfl]
theorem get_23 {n : Nat} {i1 i2 : Int32} {rt : zS} : fX3_get_23 n i1 i2 rt = some (.inl (0 : Int32), upA rt 0 (upd (rt 0) 0 (1 : Int32))) := by
  unfold fX3_get_23 fX3_get_28
  rw [f_ref1, zb_s, if_neg (by decide)]
/-! the check of an index: the class's, the reference's -/
theorem index_cases {n fc md : Nat} {st rt : zS} (R : Rel st rt fc md) (i j : Int32) :
    (∃ a k, a < 16 ∧ i = nI a ∧ rt 1 a = 1 ∧ j = nI k ∧ k < LR rt a ∧ fX3_isArray n i rt = some (.inl (1 : Int32), rt) ∧ fX2_arrayThere n i st = some (.inl (9 + a), st) ∧ fX2_checkIndex n (9 + a) j st = some (.inl (), st)) ∨
    (∃ a, a < 16 ∧ i = nI a ∧ rt 1 a = 1 ∧ fX3_isArray n i rt = some (.inl (1 : Int32), rt) ∧ (j < 0 ∨ ¬ j < 0 ∧ ¬ j < nI (LR rt a)) ∧ fX2_arrayThere n i st = some (.inl (9 + a), st) ∧ fX2_checkIndex n (9 + a) j st = some (.inr true, st)) ∨
    (fX3_isArray n i rt = some (.inl (0 : Int32), rt) ∧ fX2_arrayThere n i st = some (.inr true, st)) := by
  rcases there_cases (n := n) R i with ⟨a, ha, rfl, ht, hA, hT, hAt⟩ | ⟨hA, hT, hAt⟩
  · have hm := R.le ha ht
    rcases i_cases j with hj | ⟨hj, k, hk, rfl⟩
    · exact Or.inr (Or.inl ⟨a, ha, rfl, ht, hA rt rfl, Or.inl hj, hAt, by unfold fX2_checkIndex; rw [if_pos hj]⟩)
    · by_cases h : k < LR rt a
      · exact Or.inl ⟨a, k, ha, rfl, ht, rfl, h, hA rt rfl, hAt, by unfold fX2_checkIndex; rw [if_neg hj, R.len ha ht, if_pos (by rw [nlt (by omega) (by omega)]; exact h)]⟩
      · exact Or.inr (Or.inl ⟨a, ha, rfl, ht, hA rt rfl, Or.inr ⟨hj, by rw [nlt (by omega) (by omega)]; exact h⟩, hAt, by unfold fX2_checkIndex; rw [if_neg hj, R.len ha ht, if_neg (by rw [nlt (by omega) (by omega)]; exact h)]⟩)
  · exact Or.inr (Or.inr ⟨hA rt rfl, hAt⟩)
theorem ok_get {n fc md : Nat} {i j : Int32} {st rt : zS} (R : Rel st rt fc md) : Ok (fX2_get n i j st) (fX3_get n i j rt) md := by
  rcases index_cases (n := n) R i j with ⟨a, k, ha, rfl, ht, rfl, hk, hA, hAt, hC⟩ | ⟨a, ha, rfl, ht, hA, hj, hAt, hC⟩ | ⟨hA, hAt⟩
  · have hm := R.le ha ht
    have hr : isRow (9 + a) := by omega
    have hk2 : k / 16 < 256 := by omega
    refine ok_inl (Rel_code R 0) (by omega) (v := VR st (9 + a) k) ?_ ?_ code_at
    · unfold fX2_get
      rw [hAt, zb_s, hC, zb_s]
      simp (disch := omega) only [li16, ndv, nrm]
      rw [if_pos (by rw [al_p hr]; exact (inb_nI (by omega)).mpr hk2), ncl (by omega), M1e]
      have e : VR st (9 + a) k = if st (9 + a + 16) (k / 16) = M1 then st (9 + a + 32) (k / 16) else st 3 ((st (9 + a + 16) (k / 16)).toNatClampNeg * 16 + k % 16) := rfl
      rw [e]
      by_cases z : st (9 + a + 16) (k / 16) = M1
      · rw [if_pos z, if_pos (by rw [al_n hr]; exact (inb_nI (by omega)).mpr hk2), if_pos z]
      · rw [if_neg z, if_neg z]
        rcases R.pi.2.1 _ (lt4k ha hk2) with y | ⟨p, hp, y⟩
        · rw [fC_at hk2] at y; exact absurd y z
        · rw [fC_at hk2] at y
          have hrm : nI k - nI (k / 16) * nI 16 = nI (k % 16) := by rw [nml, nsb (by omega)]; congr 1; omega
          rw [y, hrm, f_valueAt hp (by omega), zb_s, ncl (by omega)]
    · unfold fX3_get
      rw [hA, zb_s, if_neg (by decide), if_neg (nI_nn (by omega)), if_pos (by rw [ml_2]; exact (inb_nI (by omega)).mpr ha), ncl (by omega), R.lenR ha ht, if_pos (by rw [nlt (by omega) (by omega)]; exact hk)]
      unfold fX3_get_28
      rw [f_ref0, zb_s, if_pos rfl, li4096, nml, nad, if_pos (by rw [ml_3]; exact (inb_nI (by omega)).mpr (by omega)), ncl (by omega), upA_n (k := 3) (by decide), show 4096 * a + k = a * 4096 + k by omega, R.val ha ht hk]
  · refine ok_iae R (v := (0 : Int32)) ?_ ?_
    · unfold fX2_get; rw [hAt, zb_s, hC, zb_t]
    · unfold fX3_get
      rw [hA, zb_s, if_neg (by decide)]
      rcases hj with hj | ⟨h1, h2⟩
      · rw [if_pos hj, get_23]
      · rw [if_neg h1, if_pos (by rw [ml_2]; exact (inb_nI (by omega)).mpr ha), ncl (by omega), R.lenR ha ht, if_neg h2, get_23]
  · refine ok_iae R (v := (0 : Int32)) ?_ ?_
    · unfold fX2_get; rw [hAt, zb_t]
    · unfold fX3_get; rw [hA, zb_s, if_pos rfl, get_23]
