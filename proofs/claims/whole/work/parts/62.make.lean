/-! make -/
theorem f_make43 {n a m : Nat} {v : Int32} {X : Int32 → zS → zF Int32} {st : zS} (ha : a < 16) (em : st (9 + a) 3 = nI m) (hm : m ≤ 4096) (hn : 200000 ≤ n) :
    fX2_make_43 n X n v (nI a) (9 + a) (nI 0) st = X (nI a) (upA st (9 + a + 32) (fun j => if 0 ≤ j ∧ j < 0 + lf m then v else st (9 + a + 32) j)) := by
  have hl : lf m ≤ 256 := by unfold lf; omega
  have hr : isRow (9 + a) := by omega
  refine wr_loop (F := fun q i s => fX2_make_43 n X q v (nI a) (9 + a) (nI i) s) (X := fun s => X (nI a) s) (K := 9 + a + 32) (N := lf m) (b := 0) (val := fun i => v) (st := st) ?_ ?_ n (by omega)
  · intro q g _
    show fX2_make_43 n X (q + 1) v (nI a) (9 + a) (nI (lf m)) _ = _
    rw [fX2_make_43, f_leafCount (m := m) (by omega) (by rw [upA_n (by omega)]; exact em), zb_s, if_pos (by rw [nle (by omega) (by omega)]; omega)]
  · intro q i g hi hg
    show fX2_make_43 n X (q + 1) v (nI a) (9 + a) (nI i) _ = fX2_make_43 n X q v (nI a) (9 + a) (nI (i + 1)) _
    rw [fX2_make_43, f_leafCount (m := m) (by omega) (by rw [upA_n (by omega)]; exact em), zb_s, if_neg (by rw [nle (by omega) (by omega)]; omega), if_pos (by rw [al_n hr]; exact (inb_nI (by omega)).mpr (by omega)), zl_s, ncl (by omega), upA_s, upA_uu, li1, nad, Nat.zero_add]
theorem sm_0 {f : Nat → Nat} : ∀ e, (∀ i, i < e → f i = 0) → sm f e = 0 := by
  intro e
  induction e with
  | zero => intro _; rfl
  | succ e ih => intro h; show sm f e + f e = 0; rw [ih (fun i hi => h i (by omega)), h e (by omega)]
theorem KN_0 {src : Nat → Option Nat} {W : Nat → Int32} {m e : Nat} (h : ∀ k, k < e → src k = none → pl W k m) : KN src W m e = 0 := sm_0 e (fun k hk => if_neg (fun z => z.2 (h k hk z.1)))
theorem make_12 {n : Nat} {i1 i2 : Int32} {st rt : zS} {fc md : Nat} (R : Rel st rt fc md) (hn : 200000 ≤ n) : fX3_make_12 n i1 i2 rt = some (.inl (0 : Int32), upA rt 0 (upd (rt 0) 0 (1 : Int32))) := by
  unfold fX3_make_12 fX3_make_17
  rcases free_cases (n := n) R hn with ⟨-, h⟩ | ⟨a, ha, -, -, h⟩
  · rw [h rt rfl, zb_s, if_pos li16.symm, f_ref1, zb_s, if_neg (by decide)]
  · rw [h rt rfl, zb_s, if_neg (by rw [li16, neq (by omega) (by omega)]; omega), f_ref1, zb_s, if_neg (by decide)]
theorem ok_make {n fc md : Nat} {i v : Int32} {st rt : zS} (R : Rel st rt fc md) (hn : 200000 ≤ n) (hmd : md + 256 ≤ 131072) : Ok (fX2_make n i v st) (fX3_make n i v rt) md := by
  rcases i_cases i with hi | ⟨hi, m, hm0, rfl⟩
  · refine ok_iae R (v := (0 : Int32)) ?_ ?_
    · unfold fX2_make; rw [if_pos hi]
    · unfold fX3_make; rw [if_pos hi, make_12 R hn]
  · by_cases hm : m ≤ 4096
    · have hle : nI m ≤ (4096 : Int32) := by rw [li4096, nle (by omega) (by omega)]; exact hm
      rcases free_cases (n := n) R hn with ⟨hC, hF⟩ | ⟨a, ha, ha0, hC, hF⟩
      · refine ok_ise R (v := (0 : Int32)) ?_ ?_
        · unfold fX2_make; rw [if_neg hi, if_pos hle, hC, zb_t]
        · unfold fX3_make fX3_make_17; rw [if_neg hi, if_pos hle, hF rt rfl, zb_s, if_pos li16.symm, f_ref2, zb_s, if_neg (by decide)]
      · have hl : lf m ≤ 256 := by unfold lf; omega
        have hfc := R.fc
        have F0 : fX2_make n (nI m) v st = some (.inl (nI a), upA (upA st (9 + a) (upd (upd (st (9 + a)) 2 1) 3 (nI m))) (9 + a + 32) (fun j => if 0 ≤ j ∧ j < 0 + lf m then v else st (9 + a + 32) j)) := by
          unfold fX2_make
          rw [if_neg hi, if_pos hle, hC, zb_s, if_pos ((inb_nI (by omega)).mpr ha), ncl (by omega), f_begin, zb_s, li0, f_make43 (m := m) ha (by rw [upA_s, upd_at]) hm hn, upA_n (k := 9 + a + 32) (by omega)]
        generalize hst0 : upA st (9 + a) (upd (upd (st (9 + a)) 2 1) 3 (nI m)) = st0 at F0
        have s0x : ∀ x, x ≠ 9 + a → st0 x = st x := fun x hx => by rw [← hst0, upA_n hx]
        generalize hst' : upA st0 (9 + a + 32) (fun j => if 0 ≤ j ∧ j < 0 + lf m then v else st (9 + a + 32) j) = st' at F0
        have s'x : ∀ x, x ≠ 9 + a + 32 → st' x = st0 x := fun x hx => by rw [← hst', upA_n hx]
        have fC1 : ∀ t, t < 4096 → fC st' t = fC st0 t := fun t h => fC_keep (fun b hb => s'x _ (by omega)) h
        have fC2 : ∀ t, t < 4096 → fC st0 t = fC st t := fun t h => fC_keep (fun b hb => s0x _ (by omega)) h
        -- the reference
        generalize hr0 : upA rt 0 (upd (rt 0) 0 0) = r0
        have R0 : Rel st r0 fc md := by rw [← hr0]; exact Rel_code R 0
        have r01 : r0 1 = rt 1 := by rw [← hr0, upA_n (by decide)]
        generalize hr2 : upA (upA r0 3 (fun j => if 65536 ≤ j ∧ j < 65536 + m then v else r0 3 j)) 4 (fun j => if 4096 ≤ j ∧ j < 4096 + lf m then M1 else upA r0 3 (fun j => if 65536 ≤ j ∧ j < 65536 + m then v else r0 3 j) 4 j) = r2
        have q1 : r2 1 = r0 1 := by rw [← hr2, upA_n (by decide), upA_n (by decide)]
        have q2 : r2 2 = r0 2 := by rw [← hr2, upA_n (by decide), upA_n (by decide)]
        have q3 : ∀ j, j < 65536 → r2 3 j = r0 3 j := fun j hj => by rw [← hr2, upA_n (by decide), upA_s, if_neg (by omega)]
        have q4 : ∀ t, t < 4096 → r2 4 t = r0 4 t := fun t ht => by rw [← hr2, upA_s, if_neg (by omega), upA_n (by decide)]
        have q5 : ∀ i, i < m → svr r2 i = v := fun i hi => by unfold svr; rw [← hr2, upA_n (by decide), upA_s, if_pos (by omega)]
        have q6 : ∀ k, k < lf m → r2 4 (4096 + k) = M1 := fun k hk => by rw [← hr2, upA_s, if_pos (by omega)]
        have R2 : Rel st r2 fc md := Rel_c R0 (fun _ _ _ _ => rfl) q1 q2 q3 q4 (by rw [← hr2, upA_n (by decide), upA_n (by decide)])
        have hfc2 := R2.fc
        have hK : K4 r2 m (lf m) = 0 := sm_0 _ (fun k hk => if_neg (fun z => absurd (z.1.symm.trans (q6 k hk)) M2_M1))
        obtain ⟨rt', D1, D0, D6, D11, D22, D3, D3', D4', D4⟩ := (f_keep (n := n) R2.mr hm hn (by omega) ha (fun r hr => hF r (by rw [hr, q1, r01]))).2 (by omega)
        have G0 : fX3_make n (nI m) v rt = some (.inl (nI a), rt') := by
          unfold fX3_make fX3_make_17
          rw [if_neg hi, if_pos hle, hF rt rfl, zb_s, if_neg (by rw [li16, neq (by omega) (by omega)]; omega), f_ref0, zb_s, if_pos rfl, hr0, li0, f_make41 hm hn, f_make64 hm hn, hr2, zb_ret, D1]
        have hKN : KN (fun _ => none) (fun _ => v) m (lf m) = 0 := KN_0 (fun k _ _ i _ _ => rfl)
        have RF := ok_new (V := fun _ => v) (W := fun _ => v) (src := fun _ => none) (st0 := st0) (st' := st') (rt' := rt') (fc' := fc) (m := m) R2 ha (by rw [q1, r01]; exact ha0) hm hmd
          (by rw [← hst0, upA_s]; rfl) (by rw [← hst0, upA_s, upd_at]) (fun x _ _ _ hx => s0x x hx)
          ⟨fun t h hk => ⟨fC1 t h, fun j _ => LV_keep (fC1 t h) (fun _ => by
              by_cases e : t / 256 = a
              · rw [← hst', e, upA_s]
                show (if 0 ≤ t % 256 ∧ t % 256 < 0 + lf m then v else st (9 + a + 32) (t % 256)) = _
                rw [if_neg (fun z => hk (t % 256) (by omega) (by omega)), s0x _ (by omega)]
              · rw [s'x _ (by omega)]) (fun _ => by rw [s'x 3 (by omega)])⟩,
            fun k hk => ⟨fun u z => (by cases z), fun _ _ => by
              have z : fC st' (a * 256 + k) = M1 := by rw [fC1 _ (lt4k ha (by omega)), fC2 _ (lt4k ha (by omega))]; exact R.dead ha (by omega) (Or.inl ha0)
              refine ⟨z, fun j _ => ?_⟩
              obtain ⟨t1, t2⟩ := lt_t ha (show k < 256 by omega)
              unfold LV
              rw [if_pos z, t1, t2, ← hst', upA_s]
              show (if 0 ≤ k ∧ k < 0 + lf m then v else st (9 + a + 32) k) = _
              rw [if_pos (by omega)], fun _ z => absurd (fun i _ _ => rfl) z⟩,
            fun x hx => s'x x (by omega)⟩
          ⟨by rw [s'x 2 (by omega), s0x 2 (by omega)]; exact R.pi.1, R.pi.2.congr (fun t h => by rw [fC1 t h, fC2 t h]) (fun p _ => by rw [s'x 4 (by omega), s0x 4 (by omega)]) (fun j _ => by rw [s'x 5 (by omega), s0x 5 (by omega)])⟩
          (by rw [s'x 2 (by omega), s0x 2 (by omega), hKN]; exact R.md)
          (by rw [D6, hKN, hK]) D11 D22 (fun i hi => by rw [D3 i hi, q5 i hi]) D3' D4'
          (fun k hk => ⟨fun u z => (by cases z), fun _ _ => by rw [D4 k hk, q6 k hk, if_neg (fun z => M2_M1 z.symm)], fun _ z => absurd (fun i _ _ => rfl) z⟩)
          (fun k u _ z => (by cases z)) (fun k _ _ j _ _ => rfl)
        exact ok_inl RF (by rw [hKN]; omega) F0 G0 D0
    · have hle : ¬ nI m ≤ (4096 : Int32) := by rw [li4096, nle (by omega) (by omega)]; exact hm
      refine ok_iae R (v := (0 : Int32)) ?_ ?_
      · unfold fX2_make; rw [if_neg hi, if_neg hle]
      · unfold fX3_make; rw [if_neg hi, if_neg hle, make_12 R hn]
