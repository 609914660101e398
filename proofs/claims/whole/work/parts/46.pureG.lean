def nmk (st : zS) (w : Nat → Int32) (a m md k : Nat) : Int32 := if planR st w a m k = 1 then M1 else if planR st w a m k = 3 then nI (md + RN st w a m k) else st 4 (a * 256 + k)
def mks (st : zS) (w : Nat → Int32) (a m md i t : Nat) : Int32 := if a * 256 ≤ t ∧ t < a * 256 + i then nmk st w a m md (t - a * 256) else st 4 t
def cur1 (st : zS) (a m md i : Nat) : zS := upA (upA st 4 (mks st (st 6) a m md i)) 0 (upd (st 0) 6 (nI (md + RN st (st 6) a m i)))
theorem cur1_n {st : zS} {a m md i x : Nat} (h0 : x ≠ 0) (h4 : x ≠ 4) : cur1 st a m md i x = st x := by unfold cur1; rw [upA_n h0, upA_n h4]
theorem cur1_4 {st : zS} {a m md i : Nat} : cur1 st a m md i 4 = mks st (st 6) a m md i := by unfold cur1; rw [upA_n (by decide), upA_s]
theorem cur1_0 {st : zS} {a m md i : Nat} : cur1 st a m md i 0 = upd (st 0) 6 (nI (md + RN st (st 6) a m i)) := by unfold cur1; rw [upA_s]
theorem mks_at {st : zS} {w : Nat → Int32} {a m md i : Nat} : mks st w a m md i (a * 256 + i) = st 4 (a * 256 + i) := by unfold mks; rw [if_neg (by omega)]
theorem mks_s {st : zS} {w : Nat → Int32} {a m md i : Nat} {v : Int32} (hv : v = nmk st w a m md i) : upd (mks st w a m md i) (a * 256 + i) v = mks st w a m md (i + 1) := by
  funext t
  unfold upd mks
  by_cases e : t = a * 256 + i
  · rw [if_pos e, if_pos (by omega), hv, e, show a * 256 + i - a * 256 = i by omega]
  · rw [if_neg e]
    by_cases c : a * 256 ≤ t ∧ t < a * 256 + i
    · rw [if_pos c, if_pos (by omega)]
    · rw [if_neg c, if_neg (by omega)]
theorem upd_self {f : Nat → Int32} {k : Nat} : upd f k (f k) = f := by
  funext j
  unfold upd
  split
  · rename_i h; rw [h]
  · rfl
theorem upd_uu {f : Nat → Int32} {k : Nat} {x y : Int32} : upd (upd f k x) k y = upd f k y := by
  funext j
  unfold upd
  split <;> rfl
theorem upd_at {f : Nat → Int32} {k : Nat} {x : Int32} : upd f k x k = x := by unfold upd; rw [if_pos rfl]
theorem cur1_w {st : zS} {a m md i : Nat} {v z : Int32} (hv : v = nmk st (st 6) a m md i) (hz : z = nI (md + RN st (st 6) a m (i + 1))) : upA (upA (cur1 st a m md i) 4 (upd (cur1 st a m md i 4) (a * 256 + i) v)) 0 (upd (cur1 st a m md i 0) 6 z) = cur1 st a m md (i + 1) := by
  rw [cur1_4, cur1_0, mks_s hv, upd_uu, hz]
  funext x
  unfold cur1
  by_cases x0 : x = 0
  · subst x0; rw [upA_s, upA_s]
  · rw [upA_n x0, upA_n x0]
    by_cases x4 : x = 4
    · subst x4; rw [upA_s, upA_s]
    · rw [upA_n x4, upA_n x4, upA_n x0, upA_n x4]
theorem cur1_v {st : zS} {a m md i : Nat} {z : Int32} (hv : st 4 (a * 256 + i) = nmk st (st 6) a m md i) (hz : z = nI (md + RN st (st 6) a m (i + 1))) : upA (cur1 st a m md i) 0 (upd (cur1 st a m md i 0) 6 z) = cur1 st a m md (i + 1) := by
  rw [← cur1_w hv hz]
  have e : upd (cur1 st a m md i 4) (a * 256 + i) (st 4 (a * 256 + i)) = cur1 st a m md i 4 := by
    have h := mks_at (st := st) (w := st 6) (a := a) (m := m) (md := md) (i := i)
    rw [cur1_4, ← h, upd_self]
  rw [e, upA_id]
theorem turn1 {n md a m : Nat} {i2 i3 : Int32} {X : Int32 → Int32 → Int32 → Int32 → zS → zF Unit} {st : zS} (M : MR st md) (N : CN (fR st) md (st 5) 4096) (ha : a < 16) (ht : st 1 a = 1) (em : LR st a = m) (hn : 200000 ≤ n) : ∀ (q i : Nat), i ≤ lf m → lf m - i < q → fX3_change_19 n X q (nI a) i2 i3 (nI 1) (nI i) (cur1 st a m md i) = X (nI a) i2 i3 (nI 1) (cur1 st a m md (lf m)) := by
  have h2 := ml_2
  have h4 := ml_4
  have hmd := M.2.2.2.1
  obtain ⟨e2, e3⟩ := M.2.1 a ha ht
  rw [em] at e2 e3
  have hl : lf m ≤ 256 := by unfold lf; omega
  intro q
  induction q with
  | zero => intro i _ h; omega
  | succ q ih =>
    intro i h1 hq
    by_cases h : lf m ≤ i
    · have e : i = lf m := by omega
      subst e
      rw [fX3_change_19, if_pos ((inb_nI (by omega)).mpr (by omega)), ncl (by omega), cur1_n (by decide) (by decide), e2, f_leaves (by omega), zb_s, if_pos (by rw [nle (by omega) (by omega)]; omega)]
    · have hmo : RN st (st 6) a m i ≤ 256 := Nat.le_trans (sm_le (fun i => by split <;> omega) i) (by omega)
      have h06 : cur1 st a m md i 0 6 = nI (md + RN st (st 6) a m i) := by rw [cur1_0, upd_at]
      rw [ch_leaf M N ha ht em (by omega) (cur1_n (by decide) (by decide)) (cur1_n (by decide) (by decide)) (cur1_n (by decide) (by decide)) (cur1_n (by decide) (by decide)) (by rw [cur1_4, mks_at]) hn]
      -- made grows where the leaf is new
      have goon : fX3_change_19 n X q (nI a) i2 i3 (nI 1) (nI (i + 1)) (cur1 st a m md (i + 1)) = X (nI a) i2 i3 (nI 1) (cur1 st a m md (lf m)) := ih (i + 1) (by omega) (by omega)
      have w256 : ∀ s9 : zS, s9 0 = cur1 st a m md i 0 → upA s9 0 (upd (s9 0) 6 (nI (md + RN st (st 6) a m (i + 1)))) = cur1 st a m md (i + 1) → fX3_change_256 n (fun (i1 : Int32) (i2 : Int32) (i3 : Int32) (i4 : Int32) (i5 : Int32) (st : zS) => fX3_change_19 n X q i1 i2 i3 i4 i5 st) (nI a) i2 i3 (nI 1) (nI i) (fl (planR st (st 6) a m i = 3)) s9 = X (nI a) i2 i3 (nI 1) (cur1 st a m md (lf m)) := by
        intro s9 e0 es
        unfold fX3_change_256
        rw [RN_s] at es
        by_cases p : planR st (st 6) a m i = 3
        · rw [if_neg (by rw [fl_0]; exact fun z => z p), zl_s, e0, h06, li1, nad, nad]
          rw [if_pos p, ← Nat.add_assoc, e0] at es
          rw [es]
          exact goon
        · rw [if_pos (by rw [fl_0]; exact p), zl_s, e0, h06, li0, li1, nad, nad]
          rw [if_neg p, e0] at es
          rw [show md + RN st (st 6) a m i + 0 = md + (RN st (st 6) a m i + 0) from rfl, es]
          exact goon
      have w255 : ∀ v : Int32, v = nmk st (st 6) a m md i → fX3_change_255 n (fun (i1 : Int32) (i2 : Int32) (i3 : Int32) (i4 : Int32) (i5 : Int32) (st : zS) => fX3_change_19 n X q i1 i2 i3 i4 i5 st) (nI a) i2 i3 (nI 1) (nI i) (fl (planR st (st 6) a m i = 3)) v (((256 : Int32) * nI a) + nI i) (cur1 st a m md i) = X (nI a) i2 i3 (nI 1) (cur1 st a m md (lf m)) := by
        intro v hv
        unfold fX3_change_255
        rw [li256, nml, nad, if_pos ((inb_nI (by omega)).mpr (by omega)), zl_s, ncl (by omega), show 256 * a + i = a * 256 + i by omega]
        refine w256 _ (upA_n (by decide)) ?_
        have e0 : upA (cur1 st a m md i) 4 (upd (cur1 st a m md i 4) (a * 256 + i) v) 0 = cur1 st a m md i 0 := upA_n (by decide)
        rw [e0]
        exact cur1_w hv rfl
      unfold fX3_change_192
      rw [if_neg (by decide)]
      by_cases d1 : sam (fun i => st 3 (a * 4096 + i)) (st 6) i m
      · have hp : planR st (st 6) a m i = 0 := by unfold planR; rw [if_pos d1]
        rw [if_neg (by rw [fl_0]; exact fun z => z d1)]
        refine w256 _ rfl (cur1_v ?_ rfl)
        unfold nmk
        rw [hp, if_neg (by decide), if_neg (by decide)]
      · rw [if_pos (by rw [fl_0]; exact d1)]
        by_cases d2 : pl (st 6) i m
        · have hp : planR st (st 6) a m i = 1 := by unfold planR; rw [if_neg d1, if_pos d2]
          rw [if_neg (by rw [fl_0]; exact fun z => z d2)]
          refine w255 _ ?_
          unfold nmk
          rw [hp, if_pos rfl, M1e]
        · rw [if_pos (by rw [fl_0]; exact d2)]
          by_cases d3 : planR st (st 6) a m i = 3
          · rw [if_neg (by rw [fl_0]; exact fun z => z d3), h06]
            refine w255 _ ?_
            unfold nmk
            rw [d3, if_neg (by decide), if_pos rfl]
          · have hp : planR st (st 6) a m i = 2 := by
              unfold planR at d3 ⊢
              rw [if_neg d1, if_neg d2] at d3 ⊢
              by_cases d4 : st 4 (a * 256 + i) ≠ M1 ∧ cnt (fR st) (st 4 (a * 256 + i)) 4096 = 1
              · rw [if_pos d4]
              · rw [if_neg d4] at d3
                exact absurd rfl d3
            rw [if_pos (by rw [fl_0]; exact d3)]
            refine w255 _ ?_
            unfold nmk
            rw [hp, if_neg (by decide), if_neg (by decide)]
