/-! join -/
theorem f_join73 {n a b m : Nat} {X : Int32 → Int32 → Int32 → zS → zF Int32} {rt : zS} (ha : a < 16) (hm : m ≤ 4096) (hn : 200000 ≤ n) :
    fX3_join_73 n X n (nI a) (nI b) (nI m) (nI 0) rt = X (nI a) (nI b) (nI m) (upA rt 3 (fun j => if 65536 ≤ j ∧ j < 65536 + m then rt 3 (a * 4096 + (j - 65536)) else rt 3 j)) := by
  have h3 := ml_3
  refine wr_loop (F := fun q i s => fX3_join_73 n X q (nI a) (nI b) (nI m) (nI i) s) (X := fun s => X (nI a) (nI b) (nI m) s) (K := 3) (N := m) (b := 65536) (val := fun i => rt 3 (a * 4096 + i)) (st := rt) ?_ ?_ n (by omega)
  · intro q g _
    show fX3_join_73 n X (q + 1) (nI a) (nI b) (nI m) (nI m) _ = _
    rw [fX3_join_73, if_pos (by rw [nle (by omega) (by omega)]; omega)]
  · intro q i g hi hg
    show fX3_join_73 n X (q + 1) (nI a) (nI b) (nI m) (nI i) _ = fX3_join_73 n X q (nI a) (nI b) (nI m) (nI (i + 1)) _
    rw [fX3_join_73, if_neg (by rw [nle (by omega) (by omega)]; omega), li4096, nml, nad, if_pos ((inb_nI (by omega)).mpr (by omega)), li65536, nad, if_pos ((inb_nI (by omega)).mpr (by omega)), zl_s, li1, nad, ncl (by omega), ncl (by omega), upA_s, upA_uu, hg _ (by omega), Nat.mul_comm 4096 a]
theorem f_join111 {n a b m k : Nat} {X : Int32 → Int32 → Int32 → zS → zF Int32} {rt : zS} (hb : b < 16) (em : rt 2 b = nI k) (hm : m + k ≤ 4096) (hn : 200000 ≤ n) :
    fX3_join_111 n X n (nI a) (nI b) (nI m) (nI 0) rt = X (nI a) (nI b) (nI m) (upA rt 3 (fun j => if 65536 + m ≤ j ∧ j < 65536 + m + k then rt 3 (b * 4096 + (j - (65536 + m))) else rt 3 j)) := by
  have h2 := ml_2
  have h3 := ml_3
  refine wr_loop (F := fun q i s => fX3_join_111 n X q (nI a) (nI b) (nI m) (nI i) s) (X := fun s => X (nI a) (nI b) (nI m) s) (K := 3) (N := k) (b := 65536 + m) (val := fun i => rt 3 (b * 4096 + i)) (st := rt) ?_ ?_ n (by omega)
  · intro q g _
    show fX3_join_111 n X (q + 1) (nI a) (nI b) (nI m) (nI k) _ = _
    rw [fX3_join_111, if_pos ((inb_nI (by omega)).mpr (by omega)), ncl (by omega), upA_n (by decide), em, if_pos (by rw [nle (by omega) (by omega)]; omega)]
  · intro q i g hi hg
    show fX3_join_111 n X (q + 1) (nI a) (nI b) (nI m) (nI i) _ = fX3_join_111 n X q (nI a) (nI b) (nI m) (nI (i + 1)) _
    rw [fX3_join_111, if_pos ((inb_nI (by omega)).mpr (by omega)), ncl (show b < 2147483648 by omega), upA_n (k := 2) (by decide), em, if_neg (by rw [nle (by omega) (by omega)]; omega), li4096, nml, nad, if_pos ((inb_nI (by omega)).mpr (by omega)), li65536, nad, nad, if_pos ((inb_nI (by omega)).mpr (by omega)), zl_s, li1, nad, ncl (by omega), ncl (by omega), upA_s, upA_uu, hg _ (by omega), Nat.mul_comm 4096 b]
theorem f_join162 {n a b m k : Nat} {X : Int32 → Int32 → zS → zF Int32} {rt : zS} (ha : a < 16) (hb : b < 16) (em : rt 2 b = nI k) (hm : m + k ≤ 4096) (hn : 200000 ≤ n) :
    fX3_join_162 n X n (nI a) (nI b) (nI m) (nI (m / 16)) (nI 0) rt = X (nI b) (nI m) (upA rt 4 (fun j => if 4096 ≤ j ∧ j < 4096 + lf (m + k) then (if j - 4096 < m / 16 then rt 4 (a * 256 + (j - 4096)) else if m % 16 = 0 then rt 4 (b * 256 + (j - 4096 - m / 16)) else M2) else rt 4 j)) := by
  have h2 := ml_2
  have h4 := ml_4
  have hl : lf (m + k) ≤ 256 := by unfold lf; omega
  refine wr_loop (F := fun q i s => fX3_join_162 n X q (nI a) (nI b) (nI m) (nI (m / 16)) (nI i) s) (X := fun s => X (nI b) (nI m) s) (K := 4) (N := lf (m + k)) (b := 4096) (val := fun i => if i < m / 16 then rt 4 (a * 256 + i) else if m % 16 = 0 then rt 4 (b * 256 + (i - m / 16)) else M2) (st := rt) ?_ ?_ n (by omega)
  · intro q g _
    show fX3_join_162 n X (q + 1) (nI a) (nI b) (nI m) (nI (m / 16)) (nI (lf (m + k))) _ = _
    rw [fX3_join_162, if_pos ((inb_nI (by omega)).mpr (by omega)), ncl (by omega), upA_n (by decide), em, nad, f_leaves (by omega), zb_s, if_pos (by rw [nle (by omega) (by omega)]; omega)]
  · intro q i g hi hg
    have hk : i * 16 < m + k := by unfold lf at hi; omega
    show fX3_join_162 n X (q + 1) (nI a) (nI b) (nI m) (nI (m / 16)) (nI i) _ = fX3_join_162 n X q (nI a) (nI b) (nI m) (nI (m / 16)) (nI (i + 1)) _
    have hF : (nI m - nI m / (16 : Int32) * (16 : Int32)) = nI (m % 16) := by rw [li16]; exact nrm (by omega) (by omega) (by omega)
    rw [fX3_join_162, if_pos ((inb_nI (by omega)).mpr (by omega)), ncl (show b < 2147483648 by omega), upA_n (k := 2) (by decide), em, nad, f_leaves (by omega), zb_s, if_neg (by rw [nle (by omega) (by omega)]; omega), hF]
    by_cases d : i < m / 16
    · rw [if_neg (by rw [nle (by omega) (by omega)]; omega), li256, nml, nad, if_pos ((inb_nI (by omega)).mpr (by omega)), li4096, nad, if_pos ((inb_nI (by omega)).mpr (by omega)), zl_s, li1, nad, ncl (by omega), ncl (by omega), upA_s, upA_uu, hg _ (by omega), if_pos d, Nat.mul_comm 256 a]
    · rw [if_pos (by rw [nle (by omega) (by omega)]; omega)]
      by_cases c : m % 16 = 0
      · rw [if_pos (by rw [c]; rfl), li256, nml, nad, nsb (by omega), if_pos ((inb_nI (by omega)).mpr (by omega)), li4096, nad, if_pos ((inb_nI (by omega)).mpr (by omega)), zl_s, li1, nad, ncl (by omega), ncl (by omega), upA_s, upA_uu, hg _ (by omega), if_neg d, if_pos c, show 256 * b + i - m / 16 = b * 256 + (i - m / 16) by omega]
      · rw [if_neg (by rw [li0, neq (by omega) (by omega)]; exact c), li4096, nad, if_pos ((inb_nI (by omega)).mpr (by omega)), zl_s, li1, nad, ncl (by omega), upA_s, upA_uu, if_neg d, if_neg c]
        rfl
theorem join_36 {n : Nat} {i1 i2 : Int32} {st rt : zS} {fc md : Nat} (R : Rel st rt fc md) (hn : 200000 ≤ n) : fX3_join_36 n i1 i2 rt = some (.inl (0 : Int32), upA rt 0 (upd (rt 0) 0 (1 : Int32))) := by
  unfold fX3_join_36 fX3_join_41 fX3_join_55
  rcases free_cases (n := n) R hn with ⟨-, h⟩ | ⟨a, ha, -, -, h⟩
  · rw [h rt rfl, zb_s, if_pos li16.symm, f_ref1, zb_s, if_neg (by decide)]
  · rw [h rt rfl, zb_s, if_neg (by rw [li16, neq (by omega) (by omega)]; omega), f_ref1, zb_s, if_neg (by decide)]
set_option maxRecDepth 2000 in
theorem ok_join {n fc md : Nat} {i j : Int32} {st rt : zS} (R : Rel st rt fc md) (hn : 200000 ≤ n) (hmd : md + 256 ≤ 131072) : Ok (fX2_join n i j st) (fX3_join n i j rt) md := by
  rcases there_cases (n := n) R i with ⟨b, hb, rfl, ht, hA, -, hAt⟩ | ⟨hA, -, hAt⟩
  · rcases there_cases (n := n) R j with ⟨c, hc, rfl, hct, hB, -, hBt⟩ | ⟨hB, -, hBt⟩
    · have hmb := R.le hb ht
      have hmc := R.le hc hct
      have e1 := R.len hb ht
      have e2 := R.len hc hct
      have r1 := R.lenR hb ht
      have r2' := R.lenR hc hct
      have hib : inb (nI b) (ml 2) := by rw [ml_2]; exact (inb_nI (by omega)).mpr hb
      have hic : inb (nI c) (ml 2) := by rw [ml_2]; exact (inb_nI (by omega)).mpr hc
      obtain ⟨l1, hl1⟩ : ∃ l, l = LR rt b := ⟨_, rfl⟩
      obtain ⟨l2, hl2⟩ : ∃ l, l = LR rt c := ⟨_, rfl⟩
      rw [← hl1] at e1 r1 hmb
      rw [← hl2] at e2 r2' hmc
      by_cases hm : l1 + l2 ≤ 4096
      · have hle : nI (l1 + l2) ≤ (4096 : Int32) := by rw [li4096, nle (by omega) (by omega)]; exact hm
        rcases free_cases (n := n) R hn with ⟨hN, hF⟩ | ⟨a, ha, ha0, hN, hF⟩
        · refine ok_ise R (v := (0 : Int32)) ?_ ?_
          · unfold fX2_join; rw [hAt, zb_s, hBt, zb_s, e1, e2, nad, if_pos hle, hN, zb_t]
          · unfold fX3_join fX3_join_41 fX3_join_55
            rw [hA rt rfl, zb_s, if_neg (by decide), hB rt rfl, zb_s, if_neg (by decide), if_pos hib, if_pos hic, ncl (by omega), ncl (by omega), r1, r2', nad, if_pos hle, hF rt rfl, zb_s, if_pos li16.symm, f_ref2, zb_s, if_neg (by decide)]
        · have hba : b ≠ a := fun z => by rw [z, ha0] at ht; exact absurd ht (by decide)
          have hca : c ≠ a := fun z => by rw [z, ha0] at hct; exact absurd hct (by decide)
          obtain ⟨m, hmm⟩ : ∃ m, m = l1 + l2 := ⟨_, rfl⟩
          obtain ⟨fl', hfl⟩ : ∃ x, x = l1 / 16 := ⟨_, rfl⟩
          obtain ⟨fr, hfr⟩ : ∃ x, x = if l1 % 16 = 0 then lf l2 else 0 := ⟨_, rfl⟩
          have hl : lf m ≤ 256 := by unfold lf; omega
          have hsh2 : fl' + fr ≤ lf m := by rw [hfr]; split <;> unfold lf <;> omega
          have hfr0 : 0 < fr → l1 = fl' * 16 ∧ fr = lf l2 ∧ fl' + fr = lf m := by
            intro h
            rw [hfr] at h ⊢
            by_cases z : l1 % 16 = 0
            · rw [if_pos z] at h ⊢; refine ⟨by omega, rfl, ?_⟩; unfold lf; omega
            · rw [if_neg z] at h; omega
          have F1 : fX2_join n (nI b) (nI c) st = fX2_join_77 n (9 + b) (9 + c) (nI m) (nI a) (nI fl') (nI fr) st := by
            unfold fX2_join
            have hr : (nI l1 - nI l1 / (16 : Int32) * (16 : Int32)) = nI (l1 % 16) := by rw [li16]; exact nrm (by omega) (by omega) (by omega)
            have hd : nI l1 / (16 : Int32) = nI fl' := by rw [li16, ndv (by omega) (by omega) (by omega), hfl]
            rw [hAt, zb_s, hBt, zb_s, e1, e2, nad, if_pos hle, hN, zb_s, e1, hr, hd, ← hmm]
            by_cases z : l1 % 16 = 0
            · rw [if_pos (by rw [z]; rfl), f_leafCount (m := l2) (by omega) e2, zb_s, hfr, if_pos z]
            · rw [if_neg (by rw [li0, neq (by omega) (by omega)]; exact z), hfr, if_neg z]; rfl
          -- the values are read
          obtain ⟨stm, hstm⟩ : ∃ s, s = upA st 6 (fun j => if fl' * 16 ≤ j ∧ j < fl' * 16 + (l1 - fl' * 16) then VR st (9 + b) (fl' * 16 + (j - fl' * 16)) else st 6 j) := ⟨_, rfl⟩
          have hxm : ∀ x, x ≠ 6 → stm x = st x := fun x h => by rw [hstm, upA_n h]
          have Pm : PI stm fc := PI_c R.pi (fun x h _ _ => hxm x h)
          obtain ⟨stn, hstn⟩ : ∃ s, s = upA stm 6 (fun j => if l1 ≤ j ∧ j < l1 + (l2 - 0) then VR stm (9 + c) (0 + (j - l1)) else stm 6 j) := ⟨_, rfl⟩
          have hxn : ∀ x, x ≠ 6 → stn x = st x := fun x h => by rw [hstn, upA_n h, hxm x h]
          have hrd1 : fX2_readValues n (9 + b) (nI fl' * (16 : Int32)) (nI l1) 6 (nI fl' * (16 : Int32)) st = some (.inl (), stm) := by
            rw [li16, nml, f_rd R.pi hb (Or.inl rfl) (by omega) (by omega) (by omega) hn, hstm]
          have hrd2 : fX2_readValues n (9 + c) (0 : Int32) (nI l2) 6 (nI l1) stm = some (.inl (), stn) := by
            rw [li0, f_rd Pm hc (Or.inl rfl) (by omega) (by omega) (by omega) hn, hstn]
          have n6 : ∀ i, fl' * 16 ≤ i → i < m → stn 6 i = if i < l1 then VR st (9 + b) i else VR st (9 + c) (i - l1) := fun i i1 i2 => by
            rw [hstn, upA_s]
            by_cases z : i < l1
            · rw [if_neg (by omega), if_pos z, hstm, upA_s, if_pos (by omega), show fl' * 16 + (i - fl' * 16) = i by omega]
            · rw [if_pos (by omega), if_neg z, Nat.zero_add, VR_c (fun x h _ _ => hxm x h)]
          have Pn : PI stn fc := PI_c R.pi (fun x h _ _ => hxn x h)
          obtain ⟨st0, hst0, s2, s3, sx, sn, P0, m0, fC0, LV0, dead0⟩ := begun (m := m) (stn := stn) R ha ha0 (fun x h _ _ => hxn x h)
          have e06 : st0 6 = stn 6 := sn 6 (by omega)
          obtain ⟨src, hsrc⟩ : ∃ src : Nat → Option Nat, src = fun k => if k < fl' then some (b * 256 + (0 + k)) else if k < fl' + fr then some (c * 256 + (0 + (k - fl'))) else none := ⟨_, rfl⟩
          have src1 : ∀ k, k < fl' → src k = some (b * 256 + (0 + k)) := fun k hk => by rw [hsrc]; exact if_pos hk
          have src2 : ∀ k, k < fr → src (fl' + k) = some (c * 256 + (0 + k)) := fun k hk => by
            rw [hsrc]
            show (if fl' + k < fl' then some (b * 256 + (0 + (fl' + k))) else if fl' + k < fl' + fr then some (c * 256 + (0 + (fl' + k - fl'))) else none) = _
            rw [if_neg (by omega), if_pos (by omega), show fl' + k - fl' = k by omega]
          have src3 : ∀ k, fl' + fr ≤ k → src k = none := fun k hk => by
            rw [hsrc]
            show (if k < fl' then some (b * 256 + (0 + k)) else if k < fl' + fr then some (c * 256 + (0 + (k - fl'))) else none) = _
            rw [if_neg (by omega), if_neg (by omega)]
          have srcn : ∀ k, k < fl' + fr → src k ≠ none := fun k hk z => by
            by_cases y : k < fl'
            · rw [src1 k y] at z; cases z
            · have := src2 (k - fl') (by omega)
              rw [show fl' + (k - fl') = k by omega, z] at this
              cases this
          have hKN := KN_sh (src := src) (W := st0 6) (m := m) (lf m) srcn (fun k hk _ => src3 k hk) hsh2
          have hKle : KN src (st0 6) m (lf m) ≤ 256 := Nat.le_trans KN_le hl
          have F2 : fX2_join n (nI b) (nI c) st = (zb (if KN src (st0 6) m (lf m) ≤ fc then some (.inl (), stn) else some (.inr false, stn)) (fun (v24 : Unit) (u23 : zS) => (if inb (nI a) 16 then (zb (fX1_begin n (9 + (nI a).toNatClampNeg) (nI m) u23) (fun (v28 : Unit) (u27 : zS) => (zb (fX2_shareLeaves n (9 + b) (0 : Int32) (9 + (nI a).toNatClampNeg) (0 : Int32) (nI fl') u27) (fun (v31 : Unit) (u30 : zS) => (zb (fX2_shareLeaves n (9 + c) (0 : Int32) (9 + (nI a).toNatClampNeg) (nI fl') (nI fr) u30) (fun (v34 : Unit) (u33 : zS) => (zb (fX2_newLeaves n (9 + (nI a).toNatClampNeg) (nI (fl' + fr)) u33) (fun (v37 : Unit) (u36 : zS) => some (.inl (nI a), u36))))))))) else none))) := by
            rw [F1]
            unfold fX2_join_77
            rw [e1, hrd1, zb_s, hxm (9 + c) (by omega), e2, hxm (9 + b) (by omega), e1, hrd2, zb_s, nad, f_countOwn (by omega) hsh2 (by omega), zb_s, ← e06, ← hKN, f_room Pn (by omega)]
          -- the reference
          generalize hr0 : upA rt 0 (upd (rt 0) 0 0) = r0
          have R0 : Rel st r0 fc md := by rw [← hr0]; exact Rel_code R 0
          have r01 : r0 1 = rt 1 := by rw [← hr0, upA_n (by decide)]
          have r02 : r0 2 = rt 2 := by rw [← hr0, upA_n (by decide)]
          have r03 : r0 3 = rt 3 := by rw [← hr0, upA_n (by decide)]
          generalize hra : upA r0 3 (fun j => if 65536 ≤ j ∧ j < 65536 + l1 then r0 3 (b * 4096 + (j - 65536)) else r0 3 j) = ra
          have ra2 : ra 2 = rt 2 := by rw [← hra, upA_n (by decide), r02]
          have ra3 : ∀ j, j < 65536 → ra 3 j = rt 3 j := fun j hj => by rw [← hra, upA_s, if_neg (by omega), r03]
          generalize hrb : upA ra 3 (fun j => if 65536 + l1 ≤ j ∧ j < 65536 + l1 + l2 then ra 3 (c * 4096 + (j - (65536 + l1))) else ra 3 j) = rb
          have rb2 : rb 2 = rt 2 := by rw [← hrb, upA_n (by decide), ra2]
          have rb4 : rb 4 = r0 4 := by rw [← hrb, upA_n (by decide), ← hra, upA_n (by decide)]
          generalize hr2 : upA rb 4 (fun j => if 4096 ≤ j ∧ j < 4096 + lf (l1 + l2) then (if j - 4096 < l1 / 16 then rb 4 (b * 256 + (j - 4096)) else if l1 % 16 = 0 then rb 4 (c * 256 + (j - 4096 - l1 / 16)) else M2) else rb 4 j) = r2
          have q1 : r2 1 = r0 1 := by rw [← hr2, upA_n (by decide), ← hrb, upA_n (by decide), ← hra, upA_n (by decide)]
          have q2 : r2 2 = rt 2 := by rw [← hr2, upA_n (by decide), rb2]
          have q3 : ∀ j, j < 65536 → r2 3 j = r0 3 j := fun j hj => by rw [← hr2, upA_n (by decide), ← hrb, upA_s, if_neg (by omega), ra3 j hj, r03]
          have q4 : ∀ t, t < 4096 → r2 4 t = r0 4 t := fun t ht => by rw [← hr2, upA_s, if_neg (by omega), rb4]
          have q5 : ∀ k, k < lf m → r2 4 (4096 + k) = if k < fl' then r0 4 (b * 256 + k) else if k < fl' + fr then r0 4 (c * 256 + (k - fl')) else M2 := fun k hk => by
            rw [← hr2, upA_s]
            show (if 4096 ≤ 4096 + k ∧ 4096 + k < 4096 + lf (l1 + l2) then (if 4096 + k - 4096 < l1 / 16 then rb 4 (b * 256 + (4096 + k - 4096)) else if l1 % 16 = 0 then rb 4 (c * 256 + (4096 + k - 4096 - l1 / 16)) else M2) else rb 4 (4096 + k)) = _
            rw [← hmm, if_pos (by omega), show 4096 + k - 4096 = k by omega, rb4, ← hfl]
            by_cases z : k < fl'
            · rw [if_pos z, if_pos z]
            · rw [if_neg z, if_neg z]
              by_cases y : l1 % 16 = 0
              · have : k < fl' + fr := by
                  have e : fr = lf l2 := by rw [hfr, if_pos y]
                  have e' : lf m = fl' + lf l2 := by unfold lf; omega
                  omega
                rw [if_pos y, if_pos this]
              · have : ¬ k < fl' + fr := by
                  have e : fr = 0 := by rw [hfr, if_neg y]
                  omega
                rw [if_neg y, if_neg this]
          have R2 : Rel st r2 fc md := Rel_c R0 (fun _ _ _ _ => rfl) q1 (by rw [q2, r02]) q3 q4 (by rw [← hr2, upA_n (by decide), ← hrb, upA_n (by decide), ← hra, upA_n (by decide)])
          have ht2 : r2 1 b = 1 := by rw [q1, r01]; exact ht
          have hct2 : r2 1 c = 1 := by rw [q1, r01]; exact hct
          have hLb : LR r2 b = l1 := by rw [hl1]; exact congrFun (LR_c q2) b
          have hLc : LR r2 c = l2 := by rw [hl2]; exact congrFun (LR_c q2) c
          have G0 : fX3_join n (nI b) (nI c) rt = fX3_keep n (nI m) r2 := by
            unfold fX3_join fX3_join_41 fX3_join_55
            rw [hA rt rfl, zb_s, if_neg (by decide), hB rt rfl, zb_s, if_neg (by decide), if_pos hib, if_pos hic, ncl (show b < 2147483648 by omega), ncl (show c < 2147483648 by omega), r1, r2', nad, if_pos hle, hF rt rfl, zb_s, if_neg (by rw [li16, neq (by omega) (by omega)]; omega), f_ref0, zb_s, if_pos rfl, if_pos hib, hr0, r02, r1, li0, f_join73 hb hmb hn, hra, f_join111 hc (by rw [ra2]; exact r2') hm hn, hrb, li16, ndv (by omega) (by omega) (by omega), f_join162 hb hc (by rw [rb2]; exact r2') hm hn, hr2, if_pos hic, ncl (by omega), q2, r2', nad, zb_ret, hmm]
          rw [G0]
          refine ok_keep (V := fun i => if i < l1 then VR st (9 + b) i else VR st (9 + c) (i - l1)) (src := src) (st0 := st0) R2 ha (by rw [q1, r01]; exact ha0) (by omega) hmd hn (fun r hr => hF r (by rw [hr, q1, r01])) ?_ ?_ s2 s3 sx ?_ ?_ ?_ ?_
          · intro i hi
            unfold svr
            rw [← hr2, upA_n (by decide), ← hrb, upA_s]
            show (if 65536 + l1 ≤ 65536 + i ∧ 65536 + i < 65536 + l1 + l2 then ra 3 (c * 4096 + (65536 + i - (65536 + l1))) else ra 3 (65536 + i)) = _
            by_cases z : i < l1
            · rw [if_neg (by omega), if_pos z, ← hra, upA_s]
              show (if 65536 ≤ 65536 + i ∧ 65536 + i < 65536 + l1 then r0 3 (b * 4096 + (65536 + i - 65536)) else r0 3 (65536 + i)) = _
              rw [if_pos (by omega), show 65536 + i - 65536 = i by omega, r03, R.val hb ht (by omega)]
            · rw [if_pos (by omega), if_neg z, show 65536 + i - (65536 + l1) = i - l1 by omega, ra3 _ (by omega), R.val hc hct (by omega)]
          · intro k hk
            refine ⟨fun u z => ?_, fun z => ?_⟩
            · by_cases y : k < fl'
              · rw [src1 k y, Nat.zero_add] at z
                injection z with z
                subst z
                refine ⟨lt4k hb (by omega), ?_⟩
                rw [R2.mark hb ht2 (by rw [hLb]; unfold lf; omega), q4 _ (lt4k hb (by omega)), q5 k hk, if_pos y]
              · by_cases y2 : k < fl' + fr
                · obtain ⟨w1, w2, w3⟩ := hfr0 (by omega)
                  have := src2 (k - fl') (by omega)
                  rw [show fl' + (k - fl') = k by omega, z, Nat.zero_add] at this
                  injection this with this
                  subst this
                  refine ⟨lt4k hc (by omega), ?_⟩
                  rw [R2.mark hc hct2 (by rw [hLc]; omega), q4 _ (lt4k hc (by omega)), q5 k hk, if_neg y, if_pos y2]
                · rw [src3 k (by omega)] at z; cases z
            · by_cases y2 : k < fl' + fr
              · exact absurd z (srcn k y2)
              · rw [q5 k hk, if_neg (by omega), if_neg y2]
          · intro k u hk z j hj hjm
            by_cases y : k < fl'
            · rw [src1 k y, Nat.zero_add] at z
              injection z with z
              subst z
              show _ = if k * 16 + j < l1 then VR st (9 + b) (k * 16 + j) else VR st (9 + c) (k * 16 + j - l1)
              rw [LV0 _ _ (lt4k hb (by omega)), LV_VR (by omega) hj, if_pos (by omega)]
            · by_cases y2 : k < fl' + fr
              · obtain ⟨w1, w2, w3⟩ := hfr0 (by omega)
                have := src2 (k - fl') (by omega)
                rw [show fl' + (k - fl') = k by omega, z, Nat.zero_add] at this
                injection this with this
                subst this
                show _ = if k * 16 + j < l1 then VR st (9 + b) (k * 16 + j) else VR st (9 + c) (k * 16 + j - l1)
                rw [LV0 _ _ (lt4k hc (by omega)), LV_VR (by omega) hj, if_neg (by omega), show (k - fl') * 16 + j = k * 16 + j - l1 by omega]
              · rw [src3 k (by omega)] at z; cases z
          · intro k hk z j hj hjm
            by_cases y2 : k < fl' + fr
            · exact absurd z (srcn k y2)
            · rw [e06, n6 _ (by omega) hjm]
          · intro h
            refine ⟨stn, ?_, fun x h _ _ => hxn x h⟩
            rw [F2, if_neg (by omega), zb_t]
          · intro h
            obtain ⟨st1, g1, g2, g3, g4⟩ := share_loop (n := n) (fc0 := fc) (m := m) (lo := 0) (s := 0) (c := fl') (W := st0 6) (src := src) (X := fun st => some (.inl (), st)) ha hb hba (by omega) (by omega) dead0 (fun k hk => by omega) (fun k hk => (congrArg src (Nat.zero_add k)).trans (src1 k hk)) n 0 st0 (by omega) (by omega) Nxt.refl P0 rfl
            rw [Nat.zero_add] at g2
            obtain ⟨st1', g1', g2', g3', g4'⟩ := share_loop (n := n) (fc0 := fc) (m := m) (lo := fl') (s := 0) (c := fr) (W := st0 6) (src := src) (X := fun st => some (.inl (), st)) ha hc hca (by omega) (by omega) dead0 (fun k hk => by rw [src1 k hk]; exact fun z => (by cases z)) src2 n 0 st1 (by omega) (by omega) g2 g3 g4
            obtain ⟨st2, fc2, b1, b2, b3, b4⟩ := new_loop (n := n) (src := src) (X := fun st => some (.inl (), st)) ha (by omega) s3 (by omega) n (fl' + fr) fc st1' hsh2 (by omega) (fun k hk _ => src3 k hk) g2' g3' (by rw [← hKN]; exact h)
            refine ⟨st2, fc2, ?_, b2, b3, by rw [b4, g4', m0, nad, ← hKN]⟩
            rw [F2, if_pos h, zb_s, if_pos ((inb_nI (by omega)).mpr ha), ncl (by omega), f_begin, zb_s, hst0]
            unfold fX2_shareLeaves fX2_newLeaves
            rw [li0, g1, zb_s, g1', zb_s, b1, zb_s]
      · have hle : ¬ nI (l1 + l2) ≤ (4096 : Int32) := by rw [li4096, nle (by omega) (by omega)]; exact hm
        refine ok_iae R (v := (0 : Int32)) ?_ ?_
        · unfold fX2_join; rw [hAt, zb_s, hBt, zb_s, e1, e2, nad, if_neg hle]
        · unfold fX3_join; rw [hA rt rfl, zb_s, if_neg (by decide), hB rt rfl, zb_s, if_neg (by decide), if_pos hib, if_pos hic, ncl (by omega), ncl (by omega), r1, r2', nad, if_neg hle, join_36 R hn]
    · refine ok_iae R (v := (0 : Int32)) ?_ ?_
      · unfold fX2_join; rw [hAt, zb_s, hBt, zb_t]
      · unfold fX3_join; rw [hA rt rfl, zb_s, if_neg (by decide), hB rt rfl, zb_s, if_pos rfl, join_36 R hn]
  · refine ok_iae R (v := (0 : Int32)) ?_ ?_
    · unfold fX2_join; rw [hAt, zb_t]
    · unfold fX3_join; rw [hA rt rfl, zb_s, if_pos rfl, join_36 R hn]
