/-! slice -/
theorem KN_sh {src : Nat → Option Nat} {W : Nat → Int32} {m sh : Nat} : ∀ e, (∀ k, k < sh → src k ≠ none) → (∀ k, sh ≤ k → k < e → src k = none) → sh ≤ e → KN src W m e = sm (own1 W m) e - sm (own1 W m) sh := by
  intro e
  induction e with
  | zero => intro _ _ h; rw [show sh = 0 by omega, Nat.sub_self]; rfl
  | succ e ih =>
    intro h1 h2 h3
    by_cases c : sh = e + 1
    · subst c
      rw [Nat.sub_self]
      exact sm_0 _ (fun k hk => if_neg (fun z => h1 k hk z.1))
    · have hmo : sm (own1 W m) sh ≤ sm (own1 W m) e := sm_mono (by omega)
      have e1 : KN src W m (e + 1) = KN src W m e + (if src e = none ∧ ¬ pl W e m then 1 else 0) := rfl
      have e2 : sm (own1 W m) (e + 1) = sm (own1 W m) e + own1 W m e := rfl
      have e3 : (if src e = none ∧ ¬ pl W e m then 1 else 0) = own1 W m e := by
        unfold own1
        have := h2 e (by omega) (by omega)
        by_cases p : pl W e m
        · rw [if_pos p, if_neg (fun z => z.2 p)]
        · rw [if_neg p, if_pos ⟨this, p⟩]
      rw [e1, e2, e3, ih h1 (fun k k1 k2 => h2 k k1 (by omega)) (by omega)]
      omega
theorem f_slice46 {n a F m : Nat} {X : Int32 → Int32 → Int32 → zS → zF Int32} {rt : zS} (ha : a < 16) (hm : F + m ≤ 4096) (hn : 200000 ≤ n) :
    fX3_slice_46 n X n (nI a) (nI F) (nI m) (nI 0) rt = X (nI a) (nI F) (nI m) (upA rt 3 (fun j => if 65536 ≤ j ∧ j < 65536 + m then rt 3 (a * 4096 + (F + (j - 65536))) else rt 3 j)) := by
  have h3 := ml_3
  refine wr_loop (F := fun q i s => fX3_slice_46 n X q (nI a) (nI F) (nI m) (nI i) s) (X := fun s => X (nI a) (nI F) (nI m) s) (K := 3) (N := m) (b := 65536) (val := fun i => rt 3 (a * 4096 + (F + i))) (st := rt) ?_ ?_ n (by omega)
  · intro q g _
    show fX3_slice_46 n X (q + 1) (nI a) (nI F) (nI m) (nI m) _ = _
    rw [fX3_slice_46, if_pos (by rw [nle (by omega) (by omega)]; omega)]
  · intro q i g hi hg
    show fX3_slice_46 n X (q + 1) (nI a) (nI F) (nI m) (nI i) _ = fX3_slice_46 n X q (nI a) (nI F) (nI m) (nI (i + 1)) _
    rw [fX3_slice_46, if_neg (by rw [nle (by omega) (by omega)]; omega), li4096, nml, nad, nad, if_pos ((inb_nI (by omega)).mpr (by omega)), li65536, nad, if_pos ((inb_nI (by omega)).mpr (by omega)), zl_s, li1, nad, ncl (by omega), ncl (by omega), upA_s, upA_uu, hg _ (by omega), Nat.mul_comm 4096 a, Nat.add_assoc]
theorem f_slice87 {n a F m : Nat} {X : Int32 → zS → zF Int32} {rt : zS} (ha : a < 16) (hm : F + m ≤ 4096) (hn : 200000 ≤ n) :
    fX3_slice_87 n X n (nI a) (nI F) (nI m) (nI 0) rt = X (nI m) (upA rt 4 (fun j => if 4096 ≤ j ∧ j < 4096 + lf m then (if F % 16 = 0 ∧ (j - 4096) < m / 16 then rt 4 (a * 256 + (F / 16 + (j - 4096))) else M2) else rt 4 j)) := by
  have h4 := ml_4
  have hl : lf m ≤ 256 := by unfold lf; omega
  refine wr_loop (F := fun q i s => fX3_slice_87 n X q (nI a) (nI F) (nI m) (nI i) s) (X := fun s => X (nI m) s) (K := 4) (N := lf m) (b := 4096) (val := fun i => if F % 16 = 0 ∧ i < m / 16 then rt 4 (a * 256 + (F / 16 + i)) else M2) (st := rt) ?_ ?_ n (by omega)
  · intro q g _
    show fX3_slice_87 n X (q + 1) (nI a) (nI F) (nI m) (nI (lf m)) _ = _
    rw [fX3_slice_87, f_leaves (by omega), zb_s, if_pos (by rw [nle (by omega) (by omega)]; omega)]
  · intro q i g hi hg
    have hk : i * 16 < m := by unfold lf at hi; omega
    show fX3_slice_87 n X (q + 1) (nI a) (nI F) (nI m) (nI i) _ = fX3_slice_87 n X q (nI a) (nI F) (nI m) (nI (i + 1)) _
    have hF : (nI F - nI F / (16 : Int32) * (16 : Int32)) = nI (F % 16) := by rw [li16]; exact nrm (by omega) (by omega) (by omega)
    rw [fX3_slice_87, f_leaves (by omega), zb_s, if_neg (by rw [nle (by omega) (by omega)]; omega), hF]
    by_cases c : F % 16 = 0
    · rw [if_pos (by rw [c]; rfl), f_inLeaf (by omega) hk, zb_s]
      by_cases d : i < m / 16
      · have hv : vin m i = 16 := by unfold vin; split <;> omega
        rw [hv, if_pos li16.symm, li256, nml, li16, ndv (by omega) (by omega) (by omega), nad, nad, if_pos ((inb_nI (by omega)).mpr (by omega)), li4096, nad, if_pos ((inb_nI (by omega)).mpr (by omega)), zl_s, li1, nad, ncl (by omega), ncl (by omega), upA_s, upA_uu, hg _ (by omega), if_pos ⟨c, d⟩, Nat.mul_comm 256 a, Nat.add_assoc]
      · have hv : vin m i ≠ 16 := by unfold vin; split <;> omega
        have hv2 := vin_le (m := m) (k := i)
        rw [if_neg (by rw [li16, neq (by omega) (by omega)]; exact hv), li4096, nad, if_pos ((inb_nI (by omega)).mpr (by omega)), zl_s, li1, nad, ncl (by omega), upA_s, upA_uu, if_neg (fun z => d z.2)]
        rfl
    · rw [if_neg (by rw [li0, neq (by omega) (by omega)]; exact c), li4096, nad, if_pos ((inb_nI (by omega)).mpr (by omega)), zl_s, li1, nad, ncl (by omega), upA_s, upA_uu, if_neg (fun z => c z.1)]
      rfl
theorem slice_iae {n : Nat} {i1 i2 i3 : Int32} {st rt : zS} {fc md : Nat} (R : Rel st rt fc md) (hn : 200000 ≤ n) : fX3_slice_16 n i1 i2 i3 (1 : Int32) rt = some (.inl (0 : Int32), upA rt 0 (upd (rt 0) 0 (1 : Int32))) := by
  unfold fX3_slice_16
  rcases free_cases (n := n) R hn with ⟨-, h⟩ | ⟨a, ha, -, -, h⟩
  · rw [h rt rfl, zb_s, if_pos li16.symm, f_ref1, zb_s, if_neg (by decide)]
  · rw [h rt rfl, zb_s, if_neg (by rw [li16, neq (by omega) (by omega)]; omega), f_ref1, zb_s, if_neg (by decide)]
theorem f_room {n fc w : Nat} {st : zS} (P : PI st fc) (hw : w ≤ 4096) : fX2_checkRoom n (nI w) st = if w ≤ fc then some (.inl (), st) else some (.inr false, st) := by
  have := P.fc_le
  unfold fX2_checkRoom
  rw [P.1]
  by_cases c : w ≤ fc
  · rw [if_pos (by rw [nle (by omega) (by omega)]; exact c), if_pos c]
  · rw [if_neg (by rw [nle (by omega) (by omega)]; exact c), if_neg c]
set_option maxRecDepth 2000 in
theorem ok_slice {n fc md : Nat} {i f t : Int32} {st rt : zS} (R : Rel st rt fc md) (hn : 200000 ≤ n) (hmd : md + 256 ≤ 131072) : Ok (fX2_slice n i f t st) (fX3_slice n i f t rt) md := by
  rcases part_cases (n := n) R i f t with ⟨b, F, T, hb, rfl, ht, rfl, rfl, hFT, hT, hP, hAt, hC⟩ | ⟨hP, hO⟩
  · have hmb := R.le hb ht
    rcases free_cases (n := n) R hn with ⟨hN, hF⟩ | ⟨a, ha, ha0, hN, hF⟩
    · refine ok_ise R (v := (0 : Int32)) ?_ ?_
      · unfold fX2_slice; rw [hAt, zb_s, hC, zb_s, hN, zb_t]
      · unfold fX3_slice fX3_slice_16; rw [hP, zb_s, if_neg (by decide), hF rt rfl, zb_s, if_pos li16.symm, f_ref2, zb_s, if_neg (by decide)]
    · have hab : b ≠ a := fun z => by rw [z, ha0] at ht; exact absurd ht (by decide)
      obtain ⟨m, hm⟩ : ∃ m, m = T - F := ⟨_, rfl⟩
      obtain ⟨sh, hsh⟩ : ∃ sh, sh = if F % 16 = 0 then m / 16 else 0 := ⟨_, rfl⟩
      have hl : lf m ≤ 256 := by unfold lf; omega
      have hsh1 : sh * 16 ≤ m := by rw [hsh]; split <;> omega
      have hsh2 : sh ≤ lf m := by unfold lf; omega
      have hsh3 : ∀ k, k < sh ↔ F % 16 = 0 ∧ k < m / 16 := fun k => by rw [hsh]; split <;> omega
      have F1 : fX2_slice n (nI b) (nI F) (nI T) st = fX2_slice_41 n (nI F) (nI T) (9 + b) (nI a) (nI m) (nI sh) st := by
        unfold fX2_slice
        have hr : (nI F - nI F / (16 : Int32) * (16 : Int32)) = nI (F % 16) := by rw [li16]; exact nrm (by omega) (by omega) (by omega)
        rw [hAt, zb_s, hC, zb_s, hN, zb_s, hr, nsb hFT, ← hm]
        by_cases c : F % 16 = 0
        · rw [if_pos (by rw [c]; rfl), li16, ndv (by omega) (by omega) (by omega), hsh, if_pos c]
        · rw [if_neg (by rw [li0, neq (by omega) (by omega)]; exact c), hsh, if_neg c]; rfl
      -- the values are read
      obtain ⟨stn, hstn⟩ : ∃ stn, stn = upA st 6 (fun j => if sh * 16 ≤ j ∧ j < sh * 16 + (T - (F + sh * 16)) then VR st (9 + b) (F + sh * 16 + (j - sh * 16)) else st 6 j) := ⟨_, rfl⟩
      have hxn : ∀ x, x ≠ 6 → stn x = st x := fun x h => by rw [hstn, upA_n h]
      have hrd : fX2_readValues n (9 + b) (nI F + nI sh * (16 : Int32)) (nI T) 6 (nI sh * (16 : Int32)) st = some (.inl (), stn) := by
        rw [li16, nml, nad, f_rd R.pi hb (Or.inl rfl) (by omega) (by omega) (by omega) hn, hstn]
      have n6 : ∀ i, sh * 16 ≤ i → i < m → stn 6 i = VR st (9 + b) (F + i) := fun i i1 i2 => by rw [hstn, upA_s, if_pos (by omega)]; congr 1; omega
      have Pn : PI stn fc := PI_c R.pi (fun x h _ _ => hxn x h)
      obtain ⟨st0, hst0, s2, s3, sx, sn, P0, m0, fC0, LV0, dead0⟩ := begun (m := m) (stn := stn) R ha ha0 (fun x h _ _ => hxn x h)
      have e06 : st0 6 = stn 6 := sn 6 (by omega)
      obtain ⟨src, hsrc⟩ : ∃ src : Nat → Option Nat, src = fun k => if k < sh then some (b * 256 + (F / 16 + k)) else none := ⟨_, rfl⟩
      have src1 : ∀ k, k < sh → src k = some (b * 256 + (F / 16 + k)) := fun k hk => by rw [hsrc]; exact if_pos hk
      have src2 : ∀ k, sh ≤ k → src k = none := fun k hk => by rw [hsrc]; exact if_neg (by omega)
      have hKN := KN_sh (src := src) (W := st0 6) (m := m) (lf m) (fun k hk => by rw [src1 k hk]; exact fun z => (by cases z)) (fun k hk _ => src2 k hk) hsh2
      have hKle : KN src (st0 6) m (lf m) ≤ 256 := Nat.le_trans KN_le hl
      have F2 : fX2_slice n (nI b) (nI F) (nI T) st = (zb (if KN src (st0 6) m (lf m) ≤ fc then some (.inl (), stn) else some (.inr false, stn)) (fun (v19 : Unit) (u18 : zS) => (if inb (nI a) 16 then (zb (fX1_begin n (9 + (nI a).toNatClampNeg) (nI m) u18) (fun (v23 : Unit) (u22 : zS) => (zb (fX2_shareLeaves n (9 + b) (nI F / (16 : Int32)) (9 + (nI a).toNatClampNeg) (0 : Int32) (nI sh) u22) (fun (v26 : Unit) (u25 : zS) => (zb (fX2_newLeaves n (9 + (nI a).toNatClampNeg) (nI sh) u25) (fun (v29 : Unit) (u28 : zS) => some (.inl (nI a), u28))))))) else none))) := by
        rw [F1]
        unfold fX2_slice_41
        rw [hrd, zb_s, f_countOwn (by omega) hsh2 (by omega), zb_s, ← e06, ← hKN, f_room Pn (by omega)]
      -- the reference
      generalize hr0 : upA rt 0 (upd (rt 0) 0 0) = r0
      have R0 : Rel st r0 fc md := by rw [← hr0]; exact Rel_code R 0
      have r01 : r0 1 = rt 1 := by rw [← hr0, upA_n (by decide)]
      have r02 : r0 2 = rt 2 := by rw [← hr0, upA_n (by decide)]
      generalize hr1 : upA r0 3 (fun j => if 65536 ≤ j ∧ j < 65536 + m then r0 3 (b * 4096 + (F + (j - 65536))) else r0 3 j) = r1
      generalize hr2 : upA r1 4 (fun j => if 4096 ≤ j ∧ j < 4096 + lf m then (if F % 16 = 0 ∧ (j - 4096) < m / 16 then r1 4 (b * 256 + (F / 16 + (j - 4096))) else M2) else r1 4 j) = r2
      have q1 : r2 1 = r0 1 := by rw [← hr2, upA_n (by decide), ← hr1, upA_n (by decide)]
      have q2 : r2 2 = r0 2 := by rw [← hr2, upA_n (by decide), ← hr1, upA_n (by decide)]
      have q3 : ∀ j, j < 65536 → r2 3 j = r0 3 j := fun j hj => by rw [← hr2, upA_n (by decide), ← hr1, upA_s, if_neg (by omega)]
      have q14 : r1 4 = r0 4 := by rw [← hr1, upA_n (by decide)]
      have q4 : ∀ t, t < 4096 → r2 4 t = r0 4 t := fun t ht => by rw [← hr2, upA_s, if_neg (by omega), q14]
      have q5 : ∀ k, k < lf m → r2 4 (4096 + k) = if k < sh then r0 4 (b * 256 + (F / 16 + k)) else M2 := fun k hk => by
        rw [← hr2, upA_s]
        show (if 4096 ≤ 4096 + k ∧ 4096 + k < 4096 + lf m then (if F % 16 = 0 ∧ (4096 + k - 4096) < m / 16 then r1 4 (b * 256 + (F / 16 + (4096 + k - 4096))) else M2) else r1 4 (4096 + k)) = _
        rw [if_pos (by omega), show 4096 + k - 4096 = k by omega, q14]
        by_cases c : k < sh
        · rw [if_pos c, if_pos ((hsh3 k).mp c)]
        · rw [if_neg c, if_neg (fun z => c ((hsh3 k).mpr z))]
      have R2 : Rel st r2 fc md := Rel_c R0 (fun _ _ _ _ => rfl) q1 q2 q3 q4 (by rw [← hr2, upA_n (by decide), ← hr1, upA_n (by decide)])
      have ht2 : r2 1 b = 1 := by rw [q1, r01]; exact ht
      have hL2 : LR r2 b = LR rt b := congrFun (LR_c (by rw [q2, r02])) b
      have G0 : fX3_slice n (nI b) (nI F) (nI T) rt = fX3_keep n (nI m) r2 := by
        unfold fX3_slice fX3_slice_16
        rw [hP, zb_s, if_neg (by decide), hF rt rfl, zb_s, if_neg (by rw [li16, neq (by omega) (by omega)]; omega), f_ref0, zb_s, if_pos rfl, hr0, nsb hFT, ← hm, li0, f_slice46 hb (by omega) hn, hr1, f_slice87 hb (by omega) hn, hr2, zb_ret]
      have shF : ∀ k, k < sh → F / 16 * 16 = F ∧ F / 16 + k < 256 ∧ F / 16 + k < lf (LR rt b) ∧ (F / 16 + k) * 16 = F + k * 16 := fun k hk => by
        have := (hsh3 k).mp hk
        refine ⟨by omega, by omega, by unfold lf; omega, by omega⟩
      rw [G0]
      refine ok_keep (V := fun i => VR st (9 + b) (F + i)) (src := src) (st0 := st0) R2 ha (by rw [q1, r01]; exact ha0) (by omega) hmd hn (fun r hr => hF r (by rw [hr, q1, r01])) ?_ ?_ s2 s3 sx ?_ ?_ ?_ ?_
      · intro i hi
        unfold svr
        rw [← hr2, upA_n (by decide), ← hr1, upA_s]
        show (if 65536 ≤ 65536 + i ∧ 65536 + i < 65536 + m then r0 3 (b * 4096 + (F + (65536 + i - 65536))) else r0 3 (65536 + i)) = _
        rw [if_pos (by omega), show 65536 + i - 65536 = i by omega, ← hr0, upA_n (by decide), R.val hb ht (by omega)]
      · intro k hk
        refine ⟨fun u z => ?_, fun z => ?_⟩
        · by_cases c : k < sh
          · rw [src1 k c] at z
            injection z with z
            subst z
            obtain ⟨-, y2, y3, -⟩ := shF k c
            refine ⟨lt4k hb y2, ?_⟩
            rw [R2.mark hb ht2 (by rw [hL2]; exact y3), q4 _ (lt4k hb y2), q5 k hk, if_pos c]
          · rw [src2 k (by omega)] at z; cases z
        · by_cases c : k < sh
          · rw [src1 k c] at z; cases z
          · rw [q5 k hk, if_neg c]
      · intro k u hk z j hj hjm
        by_cases c : k < sh
        · rw [src1 k c] at z
          injection z with z
          subst z
          obtain ⟨-, y2, -, y4⟩ := shF k c
          rw [LV0 _ _ (lt4k hb y2), LV_VR y2 hj, y4, Nat.add_assoc]
        · rw [src2 k (by omega)] at z; cases z
      · intro k hk z j hj hjm
        by_cases c : k < sh
        · rw [src1 k c] at z; cases z
        · rw [e06, n6 _ (by omega) hjm]
      · intro h
        refine ⟨stn, ?_, fun x h _ _ => hxn x h⟩
        rw [F2, if_neg (by omega), zb_t]
      · intro h
        obtain ⟨st1, g1, g2, g3, g4⟩ := share_loop (n := n) (fc0 := fc) (m := m) (lo := 0) (s := F / 16) (c := sh) (W := st0 6) (src := src) (X := fun st => some (.inl (), st)) ha hb hab (by omega) (by
            rcases Nat.eq_zero_or_pos sh with z | z
            · omega
            · have := shF (sh - 1) (by omega); omega) dead0 (fun k hk => by omega) (fun k hk => by rw [Nat.zero_add]; exact src1 k hk) n 0 st0 (by omega) (by omega) Nxt.refl P0 rfl
        rw [Nat.zero_add] at g2
        obtain ⟨st2, fc2, b1, b2, b3, b4⟩ := new_loop (n := n) (src := src) (X := fun st => some (.inl (), st)) ha (by omega) s3 (by omega) n sh fc st1 hsh2 (by omega) (fun k hk _ => src2 k hk) g2 g3 (by rw [← hKN]; exact h)
        refine ⟨st2, fc2, ?_, b2, b3, by rw [b4, g4, m0, nad, ← hKN]⟩
        rw [F2, if_pos h, zb_s, if_pos ((inb_nI (by omega)).mpr ha), ncl (by omega), f_begin, zb_s, hst0]
        unfold fX2_shareLeaves fX2_newLeaves
        rw [li16, ndv (by omega) (by omega) (by omega), li0, g1, zb_s, b1, zb_s]
  · refine ok_iae R (v := (0 : Int32)) ?_ ?_
    · unfold fX2_slice
      rcases hO with h | ⟨a, h1, h2⟩
      · rw [h, zb_t]
      · rw [h1, zb_s, h2, zb_t]
    · unfold fX3_slice
      rw [hP, zb_s, if_pos rfl, slice_iae R hn]
