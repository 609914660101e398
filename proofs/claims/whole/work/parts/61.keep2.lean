theorem dst_c {f g : Nat → Int32} (h : ∀ t, t < 4096 → f t = g t) : dst f 4096 = dst g 4096 := Eqv_dst (fun t u ht hu => by rw [h t ht, h u hu]; exact ⟨Iff.rfl, Iff.rfl⟩) 4096 (Nat.le_refl _)
theorem f_keep {n md m a : Nat} {rt : zS} (M : MR rt md) (hm : m ≤ 4096) (hn : 200000 ≤ n) (hd : dst (fR rt) 4096 ≤ 512) (ha : a < 16) (hfree : ∀ r : zS, r 1 = rt 1 → fX3_free n r = some (.inl (nI a), r)) :
    (512 - dst (fR rt) 4096 < K4 rt m (lf m) → ∃ rt', fX3_keep n (nI m) rt = some (.inl (0 : Int32), rt') ∧ rt' 0 0 = nI 2 ∧ rt' 0 6 = rt 0 6 ∧ rt' 1 = rt 1 ∧ rt' 2 = rt 2 ∧ rt' 3 = rt 3 ∧ ∀ t, t < 4096 → rt' 4 t = rt 4 t) ∧
    (K4 rt m (lf m) ≤ 512 - dst (fR rt) 4096 → ∃ rt', fX3_keep n (nI m) rt = some (.inl (nI a), rt') ∧ rt' 0 0 = nI 0 ∧ rt' 0 6 = nI (md + K4 rt m (lf m)) ∧ rt' 1 = upd (rt 1) a 1 ∧ rt' 2 = upd (rt 2) a (nI m) ∧ (∀ i, i < m → rt' 3 (a * 4096 + i) = svr rt i) ∧ (∀ j, j < 65536 → j < a * 4096 ∨ a * 4096 + m ≤ j → rt' 3 j = rt 3 j) ∧ (∀ t, t < 4096 → t < a * 256 ∨ a * 256 + lf m ≤ t → rt' 4 t = rt 4 t) ∧
      ∀ k, k < lf m → rt' 4 (a * 256 + k) = if rt 4 (4096 + k) = M2 then (if pl (svr rt) k m then M1 else nI (md + K4 rt m k)) else rt 4 (4096 + k)) := by
  have hl : lf m ≤ 256 := by unfold lf; omega
  have hK : K4 rt m (lf m) ≤ 256 := Nat.le_trans K4_le hl
  have m1 := ml_1
  have m2 := ml_2
  have M1s : MR (upA rt 4 (gk rt m (lf m))) md := MR_c M (upA_n (by decide)) (upA_n (by decide)) (fun t h => by rw [upA_s]; exact gk_lo h) (by rw [upA_n (by decide)])
  have hdst : dst (fR (upA rt 4 (gk rt m (lf m)))) 4096 = dst (fR rt) 4096 := dst_c (fun t h => fR_c (upA_n (by decide)) (upA_n (by decide)) (fun t h => by rw [upA_s]; exact gk_lo h) h)
  obtain ⟨g, c1, -⟩ := f_countAll M1s hn
  rw [hdst] at c1
  have g0 : gk rt m 0 = rt 4 := by funext j; unfold gk; rw [if_neg (by omega)]
  have base : fX3_keep n (nI m) rt = (if nI (K4 rt m (lf m)) ≤ ((512 : Int32) - nI (dst (fR rt) 4096)) then fX3_keep_102 n (nI m) (0 : Int32) (0 : Int32) (upA (upA rt 4 (gk rt m (lf m))) 5 g) else fX3_keep_102 n (nI m) (1 : Int32) (0 : Int32) (upA (upA rt 4 (gk rt m (lf m))) 5 g)) := by
    unfold fX3_keep
    have h := keep4 (n := n) (rt := rt) (X := fun (i1 : Int32) (i2 : Int32) (st : zS) => (zb (fX3_countAll n  st) (fun (v19 : Int32) (u18 : zS) => (if i2 ≤ ((512 : Int32) - v19) then fX3_keep_102 n i1 (0 : Int32) (0 : Int32) u18 else fX3_keep_102 n i1 (1 : Int32) (0 : Int32) u18)))) hm hn n 0 (by omega) (by omega)
    rw [g0, upA_id, show K4 rt m 0 = 0 from rfl, c1, zb_s] at h
    exact h
  rw [li512, nsb hd] at base
  refine ⟨fun h => ?_, fun h => ?_⟩
  · rw [base, if_neg (by rw [nle (by omega) (by omega)]; omega)]
    unfold fX3_keep_102
    rw [f_ref2, zb_s, if_neg (by decide)]
    refine ⟨_, rfl, code_at, ?_, ?_, ?_, ?_, fun t ht => ?_⟩
    · rw [upA_s, upA_n (by decide), upA_n (by decide)]; rfl
    · rw [upA_n (by decide), upA_n (by decide), upA_n (by decide)]
    · rw [upA_n (by decide), upA_n (by decide), upA_n (by decide)]
    · rw [upA_n (by decide), upA_n (by decide), upA_n (by decide)]
    · rw [upA_n (by decide), upA_n (by decide), upA_s]; exact gk_lo ht
  · rw [base, if_pos (by rw [nle (by omega) (by omega)]; omega)]
    generalize hs : upA (upA rt 4 (gk rt m (lf m))) 5 g = s2
    have a0 : s2 0 = rt 0 := by rw [← hs, upA_n (by decide), upA_n (by decide)]
    have a1 : s2 1 = rt 1 := by rw [← hs, upA_n (by decide), upA_n (by decide)]
    have a2 : s2 2 = rt 2 := by rw [← hs, upA_n (by decide), upA_n (by decide)]
    have a3 : s2 3 = rt 3 := by rw [← hs, upA_n (by decide), upA_n (by decide)]
    have a4 : s2 4 = gk rt m (lf m) := by rw [← hs, upA_n (by decide), upA_s]
    unfold fX3_keep_102
    rw [f_ref0, zb_s, if_pos rfl, hfree _ (by rw [upA_n (by decide)]; exact a1), zb_s, if_pos ((inb_nI (by omega)).mpr (by omega)), zl_s, if_pos ((inb_nI (by omega)).mpr (by omega)), zl_s, ncl (by omega), li0, keep132 ha hm hn, ← li0]
    rw [upA_n (K := 1) (k := 2) (by decide), upA_n (K := 0) (k := 2) (by decide), upA_n (K := 0) (k := 1) (by decide), a0, a1, a2, upA_n (K := 2) (k := 3) (by decide), upA_n (K := 1) (k := 3) (by decide), upA_n (K := 0) (k := 3) (by decide), a3]
    generalize hs6 : upA (upA (upA (upA s2 0 (upd (rt 0) 0 0)) 1 (upd (rt 1) a 1)) 2 (upd (rt 2) a (nI m))) 3 (fun j => if a * 4096 ≤ j ∧ j < a * 4096 + m then rt 3 (65536 + (j - a * 4096)) else rt 3 j) = s6
    have b0 : s6 0 = upd (rt 0) 0 0 := by rw [← hs6, upA_n (by decide), upA_n (by decide), upA_n (by decide), upA_s]
    have b1 : s6 1 = upd (rt 1) a 1 := by rw [← hs6, upA_n (by decide), upA_n (by decide), upA_s]
    have b2 : s6 2 = upd (rt 2) a (nI m) := by rw [← hs6, upA_n (by decide), upA_s]
    have b3 : s6 3 = (fun j => if a * 4096 ≤ j ∧ j < a * 4096 + m then rt 3 (65536 + (j - a * 4096)) else rt 3 j) := by rw [← hs6, upA_s]
    have b4 : s6 4 = gk rt m (lf m) := by rw [← hs6, upA_n (by decide), upA_n (by decide), upA_n (by decide), upA_n (by decide), a4]
    have b06 : s6 0 6 = nI md := by rw [b0]; exact M.2.2.1
    have hz := curk_z (a := a) b06
    have hk := keep170 (n := n) (X := fun (i3 : Int32) (st : zS) => some (.inl i3, st)) (s := s6) (md := md) ha hm hn n 0 (by omega) (by omega)
    rw [hz] at hk
    have gke : ∀ k, k < lf m → gk rt m (lf m) (4096 + k) = if rt 4 (4096 + k) = M2 ∧ pl (svr rt) k m then M1 else rt 4 (4096 + k) := by
      intro k hk
      unfold gk
      by_cases c : rt 4 (4096 + k) = M2 ∧ pl (svr rt) k m
      · rw [if_pos ⟨by omega, by omega, c.1, by rw [show 4096 + k - 4096 = k by omega]; exact c.2⟩, if_pos c]
      · rw [if_neg (fun z => c ⟨z.2.2.1, by have := z.2.2.2; rw [show 4096 + k - 4096 = k by omega] at this; exact this⟩), if_neg c]
    have gm2 : ∀ k, k < lf m → (s6 4 (4096 + k) = M2 ↔ rt 4 (4096 + k) = M2 ∧ ¬ pl (svr rt) k m) := by
      intro k hk
      rw [b4, gke k hk]
      by_cases c : rt 4 (4096 + k) = M2 ∧ pl (svr rt) k m
      · rw [if_pos c]
        exact ⟨fun z => absurd z.symm M2_M1, fun z => absurd c.2 z.2⟩
      · rw [if_neg c]
        exact ⟨fun z => ⟨z, fun y => c ⟨z, y⟩⟩, fun z => z.1⟩
    have KKe : ∀ k, k ≤ lf m → KK s6 k = K4 rt m k := fun k hk => sm_congr k (fun i hi => by
      by_cases c : s6 4 (4096 + i) = M2
      · rw [if_pos c, if_pos ((gm2 i (by omega)).mp c)]
      · rw [if_neg c, if_neg (fun z => c ((gm2 i (by omega)).mpr z))])
    refine ⟨_, hk, ?_, ?_, ?_, ?_, fun i hi => ?_, fun j hj hjj => ?_, fun t ht htt => ?_, fun k hk2 => ?_⟩
    · rw [curk_0, b0]; rfl
    · rw [curk_0, upd_at, KKe _ (Nat.le_refl _)]
    · rw [curk_n (by decide) (by decide), b1]
    · rw [curk_n (by decide) (by decide), b2]
    · rw [curk_n (by decide) (by decide), b3]
      show (if a * 4096 ≤ a * 4096 + i ∧ a * 4096 + i < a * 4096 + m then rt 3 (65536 + (a * 4096 + i - a * 4096)) else rt 3 (a * 4096 + i)) = _
      rw [if_pos (by omega), show a * 4096 + i - a * 4096 = i by omega]; rfl
    · rw [curk_n (by decide) (by decide), b3]
      show (if a * 4096 ≤ j ∧ j < a * 4096 + m then rt 3 (65536 + (j - a * 4096)) else rt 3 j) = _
      rw [if_neg (by omega)]
    · rw [curk_4]; unfold km; rw [if_neg (by omega), b4, gk_lo ht]
    · rw [curk_4]; unfold km; rw [if_pos (by omega), show a * 256 + k - a * 256 = k by omega]
      unfold kv
      by_cases c : rt 4 (4096 + k) = M2
      · rw [if_pos c]
        by_cases p : pl (svr rt) k m
        · rw [if_pos p, if_neg (fun z => ((gm2 k hk2).mp z).2 p), b4, gke k hk2, if_pos ⟨c, p⟩]
        · rw [if_neg p, if_pos ((gm2 k hk2).mpr ⟨c, p⟩), KKe k (by omega)]
      · rw [if_neg c, if_neg (fun z => c ((gm2 k hk2).mp z).1), b4, gke k hk2, if_neg (fun z => c z.1)]
/-! the rows that keep reads -/
theorem f_make41 {n m : Nat} {v : Int32} {X : Int32 → zS → zF Int32} {rt : zS} (hm : m ≤ 4096) (hn : 200000 ≤ n) :
    fX3_make_41 n X n (nI m) v (nI 0) rt = X (nI m) (upA rt 3 (fun j => if 65536 ≤ j ∧ j < 65536 + m then v else rt 3 j)) := by
  have h3 := ml_3
  refine wr_loop (F := fun q i s => fX3_make_41 n X q (nI m) v (nI i) s) (X := fun s => X (nI m) s) (K := 3) (N := m) (b := 65536) (val := fun i => v) (st := rt) ?_ ?_ n (by omega)
  · intro q g _
    show fX3_make_41 n X (q + 1) (nI m) v (nI m) _ = _
    rw [fX3_make_41, if_pos (by rw [nle (by omega) (by omega)]; omega)]
  · intro q i g hi hg
    show fX3_make_41 n X (q + 1) (nI m) v (nI i) _ = fX3_make_41 n X q (nI m) v (nI (i + 1)) _
    rw [fX3_make_41, if_neg (by rw [nle (by omega) (by omega)]; omega), li65536, nad, if_pos ((inb_nI (by omega)).mpr (by omega)), zl_s, li1, nad, ncl (by omega), upA_s, upA_uu]
theorem f_make64 {n m : Nat} {X : Int32 → zS → zF Int32} {rt : zS} (hm : m ≤ 4096) (hn : 200000 ≤ n) :
    fX3_make_64 n X n (nI m) (nI 0) rt = X (nI m) (upA rt 4 (fun j => if 4096 ≤ j ∧ j < 4096 + lf m then M1 else rt 4 j)) := by
  have h4 := ml_4
  have hl : lf m ≤ 256 := by unfold lf; omega
  refine wr_loop (F := fun q i s => fX3_make_64 n X q (nI m) (nI i) s) (X := fun s => X (nI m) s) (K := 4) (N := lf m) (b := 4096) (val := fun i => M1) (st := rt) ?_ ?_ n (by omega)
  · intro q g _
    show fX3_make_64 n X (q + 1) (nI m) (nI (lf m)) _ = _
    rw [fX3_make_64, f_leaves (by omega), zb_s, if_pos (by rw [nle (by omega) (by omega)]; omega)]
  · intro q i g hi hg
    show fX3_make_64 n X (q + 1) (nI m) (nI i) _ = fX3_make_64 n X q (nI m) (nI (i + 1)) _
    rw [fX3_make_64, f_leaves (by omega), zb_s, if_neg (by rw [nle (by omega) (by omega)]; omega), li4096, nad, if_pos ((inb_nI (by omega)).mpr (by omega)), zl_s, ncl (by omega), upA_s, upA_uu, M1e, li1, nad]
theorem zb_ret {F : zF Int32} : zb F (fun (v : Int32) (u : zS) => some (.inl v, u)) = F := by
  match F with
  | none => rfl
  | some (.inl _, u) => rfl
  | some (.inr b, u) => rfl
