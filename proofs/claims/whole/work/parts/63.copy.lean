/-! copy, slice, join: what they have in common -/
theorem pl_c {v w : Nat → Int32} {k m : Nat} (hk : k * 16 < m) (h : ∀ j, j < 16 → k * 16 + j < m → v (k * 16 + j) = w (k * 16 + j)) : pl v k m ↔ pl w k m := by
  have h0 : v (k * 16) = w (k * 16) := h 0 (by omega) (by omega)
  exact ⟨fun q i hi hm => by rw [← h i hi hm, ← h0]; exact q i hi hm, fun q i hi hm => by rw [h i hi hm, h0]; exact q i hi hm⟩
theorem ok_keep {n fc md a m : Nat} {st st0 r2 : zS} {V : Nat → Int32} {src : Nat → Option Nat} {F : zF Int32} (R : Rel st r2 fc md) (ha : a < 16) (ha0 : r2 1 a = 0) (hm : m ≤ 4096) (hmd : md + 256 ≤ 131072) (hn : 200000 ≤ n) (hfree : ∀ r : zS, r 1 = r2 1 → fX3_free n r = some (.inl (nI a), r))
    (hV : ∀ i, i < m → svr r2 i = V i) (hmk : ∀ k, k < lf m → (∀ u, src k = some u → u < 4096 ∧ r2 4 (4096 + k) = fR r2 u) ∧ (src k = none → r2 4 (4096 + k) = M2))
    (s2 : st0 (9 + a) 2 = 1) (s3 : st0 (9 + a) 3 = nI m) (sx : ∀ x, x ≠ 6 → x ≠ 7 → x ≠ 8 → x ≠ 9 + a → st0 x = st x)
    (v1 : ∀ k u, k < lf m → src k = some u → ∀ j, j < 16 → k * 16 + j < m → LV st0 u j = V (k * 16 + j)) (v2 : ∀ k, k < lf m → src k = none → ∀ j, j < 16 → k * 16 + j < m → st0 6 (k * 16 + j) = V (k * 16 + j))
    (hno : fc < KN src (st0 6) m (lf m) → ∃ stf, F = some (.inr false, stf) ∧ ∀ x, x ≠ 6 → x ≠ 7 → x ≠ 8 → stf x = st x)
    (hyes : KN src (st0 6) m (lf m) ≤ fc → ∃ st' fc', F = some (.inl (nI a), st') ∧ Nxt st0 st' (st0 6) src a m (lf m) ∧ PI st' fc' ∧ st' 2 4 = nI (md + KN src (st0 6) m (lf m))) :
    Ok F (fX3_keep n (nI m) r2) md := by
  have hl : lf m ≤ 256 := by unfold lf; omega
  have hk16 : ∀ k, k < lf m → k * 16 < m := fun k hk => by unfold lf at hk; omega
  have hfc := R.fc
  have hmd3 := R.mr.2.2.2.1
  have e2 : ∀ k, k < lf m → (r2 4 (4096 + k) = M2 ↔ src k = none) := by
    intro k hk
    obtain ⟨q1, q2⟩ := hmk k hk
    refine ⟨fun z => ?_, q2⟩
    cases hs : src k with
    | none => rfl
    | some u =>
      obtain ⟨u1, u2⟩ := q1 u hs
      rw [u2] at z
      rcases R.mr.2.2.2.2 u u1 with y | ⟨x, y1, y2⟩
      · rw [y] at z; exact absurd z.symm M2_M1
      · rw [y2] at z; exact absurd z (nI_m2 (by omega))
  have e3 : ∀ k, k < lf m → src k = none → (pl (svr r2) k m ↔ pl (st0 6) k m) := fun k hk hs => pl_c (hk16 k hk) (fun j hj hjm => by rw [hV _ hjm, v2 k hk hs j hj hjm])
  have eK : ∀ k, k ≤ lf m → K4 r2 m k = KN src (st0 6) m k := fun k hk => sm_congr k (fun i hi => by
    by_cases c : src i = none
    · have c2 := (e2 i (by omega)).mpr c
      by_cases p : pl (st0 6) i m
      · rw [if_neg (fun z => z.2 ((e3 i (by omega) c).mpr p)), if_neg (fun z => z.2 p)]
      · rw [if_pos ⟨c2, fun z => p ((e3 i (by omega) c).mp z)⟩, if_pos ⟨c, p⟩]
    · rw [if_neg (fun z => c ((e2 i (by omega)).mp z.1)), if_neg (fun z => c z.1)])
  obtain ⟨k1, k2⟩ := f_keep (n := n) R.mr hm hn (by omega) ha hfree
  rw [eK _ (Nat.le_refl _)] at k1 k2
  have hKle : KN src (st0 6) m (lf m) ≤ 256 := Nat.le_trans KN_le hl
  by_cases room : KN src (st0 6) m (lf m) ≤ fc
  · obtain ⟨st', fc', F0, N, P', e4⟩ := hyes room
    obtain ⟨rt', D1, D0, D6, D11, D22, D3, D3', D4', D4⟩ := k2 (by omega)
    have RF := ok_new (V := V) (W := st0 6) (src := src) (st0 := st0) (st' := st') (rt' := rt') (fc' := fc') (m := m) R ha ha0 hm hmd s2 s3 sx N P' e4 D6 D11 D22 (fun i hi => by rw [D3 i hi, hV i hi]) D3' D4'
      (fun k hk => ⟨fun u hs => ⟨((hmk k hk).1 u hs).1, by rw [D4 k hk, if_neg (fun z => by rw [(e2 k hk).mp z] at hs; cases hs)]; exact ((hmk k hk).1 u hs).2⟩,
        fun hs p => by rw [D4 k hk, if_pos ((e2 k hk).mpr hs), if_pos ((e3 k hk hs).mpr p)],
        fun hs p => by rw [D4 k hk, if_pos ((e2 k hk).mpr hs), if_neg (fun z => p ((e3 k hk hs).mp z)), eK k (by omega)]⟩) v1 v2
    exact ok_inl RF (by omega) F0 D1 D0
  · obtain ⟨stf, F0, hx⟩ := hno (by omega)
    obtain ⟨rt', D1, D0, D6, D11, D22, D3, D4⟩ := k1 (by omega)
    exact ⟨stf, rt', fc, md, Rel_c R hx D11 D22 (fun j _ => by rw [D3]) D4 D6, by omega, Or.inr ⟨false, 0, F0, D1, D0⟩⟩
/-! copy -/
theorem f_copy38 {n a m : Nat} {X : Int32 → zS → zF Int32} {rt : zS} (ha : a < 16) (em : rt 2 a = nI m) (hm : m ≤ 4096) (hn : 200000 ≤ n) :
    fX3_copy_38 n X n (nI a) (nI 0) rt = X (nI a) (upA rt 3 (fun j => if 65536 ≤ j ∧ j < 65536 + m then rt 3 (a * 4096 + (j - 65536)) else rt 3 j)) := by
  have h2 := ml_2
  have h3 := ml_3
  refine wr_loop (F := fun q i s => fX3_copy_38 n X q (nI a) (nI i) s) (X := fun s => X (nI a) s) (K := 3) (N := m) (b := 65536) (val := fun i => rt 3 (a * 4096 + i)) (st := rt) ?_ ?_ n (by omega)
  · intro q g _
    show fX3_copy_38 n X (q + 1) (nI a) (nI m) _ = _
    rw [fX3_copy_38, if_pos ((inb_nI (by omega)).mpr (by omega)), ncl (by omega), upA_n (by decide), em, if_pos (by rw [nle (by omega) (by omega)]; omega)]
  · intro q i g hi hg
    show fX3_copy_38 n X (q + 1) (nI a) (nI i) _ = fX3_copy_38 n X q (nI a) (nI (i + 1)) _
    rw [fX3_copy_38, if_pos ((inb_nI (by omega)).mpr (by omega)), ncl (show a < 2147483648 by omega), upA_n (k := 2) (by decide), em, if_neg (by rw [nle (by omega) (by omega)]; omega), li4096, nml, nad, if_pos ((inb_nI (by omega)).mpr (by omega)), li65536, nad, if_pos ((inb_nI (by omega)).mpr (by omega)), zl_s, li1, nad, ncl (by omega), ncl (by omega), upA_s, upA_uu, hg _ (by omega), Nat.mul_comm 4096 a]
theorem f_copy77 {n a m : Nat} {X : Int32 → zS → zF Int32} {rt : zS} (ha : a < 16) (em : rt 2 a = nI m) (hm : m ≤ 4096) (hn : 200000 ≤ n) :
    fX3_copy_77 n X n (nI a) (nI 0) rt = X (nI a) (upA rt 4 (fun j => if 4096 ≤ j ∧ j < 4096 + lf m then rt 4 (a * 256 + (j - 4096)) else rt 4 j)) := by
  have h2 := ml_2
  have h4 := ml_4
  have hl : lf m ≤ 256 := by unfold lf; omega
  refine wr_loop (F := fun q i s => fX3_copy_77 n X q (nI a) (nI i) s) (X := fun s => X (nI a) s) (K := 4) (N := lf m) (b := 4096) (val := fun i => rt 4 (a * 256 + i)) (st := rt) ?_ ?_ n (by omega)
  · intro q g _
    show fX3_copy_77 n X (q + 1) (nI a) (nI (lf m)) _ = _
    rw [fX3_copy_77, if_pos ((inb_nI (by omega)).mpr (by omega)), ncl (by omega), upA_n (by decide), em, f_leaves (by omega), zb_s, if_pos (by rw [nle (by omega) (by omega)]; omega)]
  · intro q i g hi hg
    show fX3_copy_77 n X (q + 1) (nI a) (nI i) _ = fX3_copy_77 n X q (nI a) (nI (i + 1)) _
    rw [fX3_copy_77, if_pos ((inb_nI (by omega)).mpr (by omega)), ncl (show a < 2147483648 by omega), upA_n (k := 2) (by decide), em, f_leaves (by omega), zb_s, if_neg (by rw [nle (by omega) (by omega)]; omega), li256, nml, nad, if_pos ((inb_nI (by omega)).mpr (by omega)), li4096, nad, if_pos ((inb_nI (by omega)).mpr (by omega)), zl_s, li1, nad, ncl (by omega), ncl (by omega), upA_s, upA_uu, hg _ (by omega), Nat.mul_comm 256 a]
theorem copy_iae {n : Nat} {i1 : Int32} {st rt : zS} {fc md : Nat} (R : Rel st rt fc md) (hn : 200000 ≤ n) : fX3_copy_14 n i1 (1 : Int32) rt = some (.inl (0 : Int32), upA rt 0 (upd (rt 0) 0 (1 : Int32))) := by
  unfold fX3_copy_14
  rcases free_cases (n := n) R hn with ⟨-, h⟩ | ⟨a, ha, -, -, h⟩
  · rw [h rt rfl, zb_s, if_pos li16.symm, f_ref1, zb_s, if_neg (by decide)]
  · rw [h rt rfl, zb_s, if_neg (by rw [li16, neq (by omega) (by omega)]; omega), f_ref1, zb_s, if_neg (by decide)]
/-- the state in which a new array has begun -/
theorem begun {fc md a m : Nat} {st stn rt : zS} (R : Rel st rt fc md) (ha : a < 16) (ha0 : rt 1 a = 0) (hx : ∀ x, x ≠ 6 → x ≠ 7 → x ≠ 8 → stn x = st x) : ∃ st0, upA stn (9 + a) (upd (upd (stn (9 + a)) 2 1) 3 (nI m)) = st0 ∧ st0 (9 + a) 2 = 1 ∧ st0 (9 + a) 3 = nI m ∧ (∀ x, x ≠ 6 → x ≠ 7 → x ≠ 8 → x ≠ 9 + a → st0 x = st x) ∧ (∀ x, x ≠ 9 + a → st0 x = stn x) ∧ PI st0 fc ∧ st0 2 4 = nI md ∧ (∀ t, t < 4096 → fC st0 t = fC st t) ∧ (∀ t j, t < 4096 → LV st0 t j = LV st t j) ∧ (∀ k, k < 256 → fC st0 (a * 256 + k) = M1) := by
  refine ⟨_, rfl, ?_⟩
  have e : ∀ x, x ≠ 9 + a → upA stn (9 + a) (upd (upd (stn (9 + a)) 2 1) 3 (nI m)) x = stn x := fun x h => upA_n h
  have e0 : ∀ x, x ≠ 6 → x ≠ 7 → x ≠ 8 → x ≠ 9 + a → upA stn (9 + a) (upd (upd (stn (9 + a)) 2 1) 3 (nI m)) x = st x := fun x h6 h7 h8 h => by rw [e x h, hx x h6 h7 h8]
  have f1 : ∀ t, t < 4096 → fC (upA stn (9 + a) (upd (upd (stn (9 + a)) 2 1) 3 (nI m))) t = fC st t := fun t h => fC_keep (fun b hb => e0 _ (by omega) (by omega) (by omega) (by omega)) h
  refine ⟨by rw [upA_s]; rfl, by rw [upA_s, upd_at], e0, e, ⟨by rw [e0 2 (by omega) (by omega) (by omega) (by omega)]; exact R.pi.1, R.pi.2.congr f1 (fun p _ => by rw [e0 4 (by omega) (by omega) (by omega) (by omega)]) (fun p _ => by rw [e0 5 (by omega) (by omega) (by omega) (by omega)])⟩, by rw [e0 2 (by omega) (by omega) (by omega) (by omega)]; exact R.md, f1, fun t j h => LV_keep (f1 t h) (fun _ => by rw [e0 _ (by omega) (by omega) (by omega) (by omega)]) (fun _ => by rw [e0 3 (by omega) (by omega) (by omega) (by omega)]), fun k hk => ?_⟩
  rw [f1 _ (lt4k ha hk)]
  exact R.dead ha hk (Or.inl ha0)
theorem ok_copy {n fc md : Nat} {i : Int32} {st rt : zS} (R : Rel st rt fc md) (hn : 200000 ≤ n) (hmd : md + 256 ≤ 131072) : Ok (fX2_copy n i st) (fX3_copy n i rt) md := by
  rcases there_cases (n := n) R i with ⟨b, hb, rfl, ht, hA, hT, hAt⟩ | ⟨hA, hT, hAt⟩
  · have hm := R.le hb ht
    have hl : lf (LR rt b) ≤ 256 := by unfold lf; omega
    rcases free_cases (n := n) R hn with ⟨hC, hF⟩ | ⟨a, ha, ha0, hC, hF⟩
    · refine ok_ise R (v := (0 : Int32)) ?_ ?_
      · unfold fX2_copy; rw [hAt, zb_s, hC, zb_t]
      · unfold fX3_copy fX3_copy_14; rw [hA rt rfl, zb_s, if_neg (by decide), hF rt rfl, zb_s, if_pos li16.symm, f_ref2, zb_s, if_neg (by decide)]
    · have hab : b ≠ a := fun z => by rw [z, ha0] at ht; exact absurd ht (by decide)
      obtain ⟨st0, hst0, s2, s3, sx, sn, P0, m0, fC0, LV0, dead0⟩ := begun (m := LR rt b) (stn := st) R ha ha0 (fun _ _ _ _ => rfl)
      obtain ⟨st', g1, g2, g3, g4⟩ := share_loop (n := n) (fc0 := fc) (m := LR rt b) (lo := 0) (s := 0) (c := lf (LR rt b)) (W := st0 6) (src := fun k => some (b * 256 + (0 + k))) (X := fun st => some (.inl (), st)) ha hb hab (by omega) (by omega) dead0 (fun k hk => by omega) (fun k hk => by rw [Nat.zero_add]) n 0 st0 (by omega) (by omega) Nxt.refl P0 rfl
      rw [Nat.zero_add] at g2
      have F0 : fX2_copy n (nI b) st = some (.inl (nI a), st') := by
        unfold fX2_copy
        rw [hAt, zb_s, hC, zb_s, if_pos ((inb_nI (by omega)).mpr ha), ncl (by omega), R.len hb ht, f_begin, zb_s, hst0, f_leafCount (m := LR rt b) (by omega) (by rw [sn _ (by omega)]; exact R.len hb ht), zb_s]
        unfold fX2_shareLeaves
        rw [li0, g1, zb_s]
      -- the reference
      generalize hr0 : upA rt 0 (upd (rt 0) 0 0) = r0
      have R0 : Rel st r0 fc md := by rw [← hr0]; exact Rel_code R 0
      have r01 : r0 1 = rt 1 := by rw [← hr0, upA_n (by decide)]
      have r02 : r0 2 = rt 2 := by rw [← hr0, upA_n (by decide)]
      have rb : r0 2 b = nI (LR rt b) := by rw [r02]; exact R.lenR hb ht
      generalize hr1 : upA r0 3 (fun j => if 65536 ≤ j ∧ j < 65536 + LR rt b then r0 3 (b * 4096 + (j - 65536)) else r0 3 j) = r1
      have r1b : r1 2 b = nI (LR rt b) := by rw [← hr1, upA_n (by decide)]; exact rb
      generalize hr2 : upA r1 4 (fun j => if 4096 ≤ j ∧ j < 4096 + lf (LR rt b) then r1 4 (b * 256 + (j - 4096)) else r1 4 j) = r2
      have q1 : r2 1 = r0 1 := by rw [← hr2, upA_n (by decide), ← hr1, upA_n (by decide)]
      have q2 : r2 2 = r0 2 := by rw [← hr2, upA_n (by decide), ← hr1, upA_n (by decide)]
      have q3 : ∀ j, j < 65536 → r2 3 j = r0 3 j := fun j hj => by rw [← hr2, upA_n (by decide), ← hr1, upA_s, if_neg (by omega)]
      have q14 : r1 4 = r0 4 := by rw [← hr1, upA_n (by decide)]
      have q4 : ∀ t, t < 4096 → r2 4 t = r0 4 t := fun t ht => by rw [← hr2, upA_s, if_neg (by omega), q14]
      have R2 : Rel st r2 fc md := Rel_c R0 (fun _ _ _ _ => rfl) q1 q2 q3 q4 (by rw [← hr2, upA_n (by decide), ← hr1, upA_n (by decide)])
      have ht2 : r2 1 b = 1 := by rw [q1, r01]; exact ht
      have hL2 : LR r2 b = LR rt b := congrFun (LR_c (by rw [q2, r02])) b
      have G0 : fX3_copy n (nI b) rt = fX3_keep n (nI (LR rt b)) r2 := by
        unfold fX3_copy fX3_copy_14
        rw [hA rt rfl, zb_s, if_neg (by decide), hF rt rfl, zb_s, if_neg (by rw [li16, neq (by omega) (by omega)]; omega), f_ref0, zb_s, if_pos rfl, hr0, li0, f_copy38 hb rb hm hn, hr1, f_copy77 hb r1b hm hn, hr2, if_pos (by rw [ml_2]; exact (inb_nI (by omega)).mpr hb), zb_ret, ncl (by omega), show r2 2 b = nI (LR rt b) by rw [q2]; exact rb]
      rw [G0]
      refine ok_keep (V := fun i => VR st (9 + b) i) (src := fun k => some (b * 256 + (0 + k))) (st0 := st0) R2 ha (by rw [q1, r01]; exact ha0) hm hmd hn (fun r hr => hF r (by rw [hr, q1, r01])) ?_ ?_ s2 s3 sx ?_ (fun k _ z => (by cases z)) ?_ ?_
      · intro i hi
        unfold svr
        rw [← hr2, upA_n (by decide), ← hr1, upA_s]
        show (if 65536 ≤ 65536 + i ∧ 65536 + i < 65536 + LR rt b then r0 3 (b * 4096 + (65536 + i - 65536)) else r0 3 (65536 + i)) = _
        rw [if_pos (by omega), show 65536 + i - 65536 = i by omega, ← hr0, upA_n (by decide), R.val hb ht hi]
      · intro k hk
        refine ⟨fun u z => ?_, fun z => (by cases z)⟩
        injection z with z
        subst z
        refine ⟨by rw [Nat.zero_add]; exact lt4k hb (by omega), ?_⟩
        rw [Nat.zero_add, R2.mark hb ht2 (by rw [hL2]; exact hk), q4 _ (lt4k hb (by omega)), ← hr2, upA_s]
        show (if 4096 ≤ 4096 + k ∧ 4096 + k < 4096 + lf (LR rt b) then r1 4 (b * 256 + (4096 + k - 4096)) else r1 4 (4096 + k)) = _
        rw [if_pos (by omega), show 4096 + k - 4096 = k by omega, q14]
      · intro k u hk z j hj hjm
        injection z with z
        subst z
        rw [Nat.zero_add, LV0 _ _ (lt4k hb (by omega)), LV_VR (by omega) hj]
      · intro h
        have : KN (fun k => some (b * 256 + (0 + k))) (st0 6) (LR rt b) (lf (LR rt b)) = 0 := KN_0 (fun k _ z => (by cases z))
        omega
      · intro _
        have hK : KN (fun k => some (b * 256 + (0 + k))) (st0 6) (LR rt b) (lf (LR rt b)) = 0 := KN_0 (fun k _ z => (by cases z))
        exact ⟨st', fc, F0, g2, g3, by rw [g4, m0, hK]; rfl⟩
  · refine ok_iae R (v := (0 : Int32)) ?_ ?_
    · unfold fX2_copy; rw [hAt, zb_t]
    · unfold fX3_copy; rw [hA rt rfl, zb_s, if_pos rfl, copy_iae R hn]
