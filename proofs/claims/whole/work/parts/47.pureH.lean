/-! a loop that writes one stretch of one array -/
theorem wr_loop {β : Type} {F : Nat → Nat → zS → zF β} {X : zS → zF β} {K N b : Nat} {val : Nat → Int32} {st : zS}
    (hstop : ∀ q g, (∀ j, j < b ∨ b + N ≤ j → g j = st K j) → F (q + 1) N (upA st K g) = X (upA st K g))
    (hstep : ∀ q i g, i < N → (∀ j, j < b ∨ b + N ≤ j → g j = st K j) → F (q + 1) i (upA st K g) = F q (i + 1) (upA st K (upd g (b + i) (val i)))) :
    ∀ q, N < q → F q 0 st = X (upA st K (fun j => if b ≤ j ∧ j < b + N then val (j - b) else st K j)) := by
  have key : ∀ (q i : Nat) (g : Nat → Int32), i ≤ N → N - i < q → (∀ j, j < b ∨ b + N ≤ j → g j = st K j) → F q i (upA st K g) = X (upA st K (fun j => if b + i ≤ j ∧ j < b + N then val (j - b) else g j)) := by
    intro q
    induction q with
    | zero => intro i g _ h; omega
    | succ q ih =>
      intro i g h1 h2 hg
      by_cases h : i = N
      · subst h
        rw [hstop q g hg]
        refine congrArg X (upA_c (fun j => ?_))
        rw [if_neg (by omega)]
      · rw [hstep q i g (by omega) hg, ih (i + 1) _ (by omega) (by omega) (fun j hj => by unfold upd; rw [if_neg (by omega)]; exact hg j hj)]
        refine congrArg X (upA_c (fun j => ?_))
        unfold upd
        by_cases c : b + (i + 1) ≤ j ∧ j < b + N
        · rw [if_pos c, if_pos (by omega)]
        · rw [if_neg c]
          by_cases d : j = b + i
          · rw [if_pos d, if_pos (by omega), d, show b + i - b = i by omega]
          · rw [if_neg d, if_neg (by omega)]
  intro q hq
  have h := key q 0 (st K) (by omega) (by omega) (fun _ _ => rfl)
  rw [upA_id] at h
  rw [h, Nat.add_zero]
/-! the reference's change -/
theorem f_ref0 {n : Nat} {st : zS} : fX3_refuses n (0 : Int32) (0 : Int32) st = some (.inl (0 : Int32), upA st 0 (upd (st 0) 0 (0 : Int32))) := by
  unfold fX3_refuses
  rw [if_pos rfl, if_pos rfl, zl_s, upA_s, upd_at, if_pos (by decide)]
theorem f_ref2 {n : Nat} {st : zS} : fX3_refuses n (0 : Int32) (1 : Int32) st = some (.inl (1 : Int32), upA st 0 (upd (st 0) 0 (2 : Int32))) := by
  unfold fX3_refuses
  rw [if_pos rfl, if_neg (by decide), zl_s, upA_s, upd_at, if_neg (by decide)]
theorem f_ref1 {n : Nat} {i2 : Int32} {st : zS} : fX3_refuses n (1 : Int32) i2 st = some (.inl (1 : Int32), upA st 0 (upd (st 0) 0 (1 : Int32))) := by
  unfold fX3_refuses
  rw [if_neg (by decide), zl_s, upA_s, upd_at, if_neg (by decide)]
theorem LR_c {rt rt' : zS} (h : rt' 2 = rt 2) : LR rt' = LR rt := by funext a; unfold LR; rw [h]
theorem fR_c {rt rt' : zS} (h1 : rt' 1 = rt 1) (h2 : rt' 2 = rt 2) (h4 : ∀ t, t < 4096 → rt' 4 t = rt 4 t) {t : Nat} (ht : t < 4096) : fR rt' t = fR rt t := by unfold fR; rw [h1, LR_c h2, h4 t ht]
theorem cnt_c {f g : Nat → Int32} {x : Int32} {T : Nat} (h : ∀ t, t < T → f t = g t) : cnt f x T = cnt g x T := cnt_congr T (fun t ht => by rw [h t ht])
theorem MR_c {rt rt' : zS} {md : Nat} (M : MR rt md) (h1 : rt' 1 = rt 1) (h2 : rt' 2 = rt 2) (h4 : ∀ t, t < 4096 → rt' 4 t = rt 4 t) (h0 : rt' 0 6 = rt 0 6) : MR rt' md := by
  obtain ⟨m1, m2, m3, m4, m5⟩ := M
  refine ⟨?_, ?_, by rw [h0]; exact m3, m4, ?_⟩
  · rw [h1]; exact m1
  · rw [h1, h2, LR_c h2]; exact m2
  · intro t ht; rw [fR_c h1 h2 h4 ht]; exact m5 t ht
theorem planR_c {rt rt' : zS} {w : Nat → Int32} {a m k : Nat} (h1 : rt' 1 = rt 1) (h2 : rt' 2 = rt 2) (h3 : rt' 3 = rt 3) (h4 : rt' 4 = rt 4) : planR rt' w a m k = planR rt w a m k := by
  unfold planR
  rw [h3, h4, cnt_c (fun t ht => fR_c h1 h2 (fun _ _ => by rw [h4]) ht)]
theorem RN_c {rt rt' : zS} {w : Nat → Int32} {a m k : Nat} (h1 : rt' 1 = rt 1) (h2 : rt' 2 = rt 2) (h3 : rt' 3 = rt 3) (h4 : rt' 4 = rt 4) : RN rt' w a m k = RN rt w a m k := sm_congr k (fun i _ => by rw [planR_c h1 h2 h3 h4])
theorem CN_c {f f' g : Nat → Int32} {md T : Nat} (h : ∀ t, t < T → f' t = f t) (N : CN f md g T) : CN f' md g T := fun x hx => by rw [N x hx, cnt_c h]
theorem cur1_z {st : zS} {a m md : Nat} (h : st 0 6 = nI md) : cur1 st a m md 0 = st := by
  funext x
  by_cases x0 : x = 0
  · subst x0; rw [cur1_0]
    have e : RN st (st 6) a m 0 = 0 := rfl
    rw [e, Nat.add_zero, ← h, upd_self]
  · by_cases x4 : x = 4
    · subst x4; rw [cur1_4]; funext t; unfold mks; rw [if_neg (by omega)]
    · exact cur1_n x0 x4
theorem f_ch318 {n a m : Nat} {X : zS → zF Unit} {st : zS} (ha : a < 16) (hm : m ≤ 4096) (em : st 2 a = nI m) (hn : 200000 ≤ n) :
    fX3_change_318 n X n (nI a) (nI 0) st = X (upA st 3 (fun j => if a * 4096 ≤ j ∧ j < a * 4096 + m then st 6 (j - a * 4096) else st 3 j)) := by
  have h2 := ml_2
  have h3 := ml_3
  have h6 := ml_6
  refine wr_loop (F := fun q i s => fX3_change_318 n X q (nI a) (nI i) s) (K := 3) (N := m) (b := a * 4096) (val := fun i => st 6 i) (st := st) ?_ ?_ n (by omega)
  · intro q g _
    show fX3_change_318 n X (q + 1) (nI a) (nI m) _ = _
    rw [fX3_change_318, if_pos ((inb_nI (by omega)).mpr (by omega)), ncl (by omega), upA_n (by decide), em, if_pos (by rw [nle (by omega) (by omega)]; omega)]
  · intro q i g hi _
    show fX3_change_318 n X (q + 1) (nI a) (nI i) _ = fX3_change_318 n X q (nI a) (nI (i + 1)) _
    rw [fX3_change_318, if_pos ((inb_nI (by omega)).mpr (by omega)), ncl (by omega), upA_n (by decide), em, if_neg (by rw [nle (by omega) (by omega)]; omega), if_pos ((inb_nI (by omega)).mpr (by omega)), li4096, nml, nad, if_pos ((inb_nI (by omega)).mpr (by omega)), zl_s, li1, nad, ncl (by omega), ncl (by omega), upA_s, upA_n (by decide), upA_uu, Nat.mul_comm 4096 a]
theorem f_changeR {n md a m : Nat} {rt : zS} (M : MR rt md) (ha : a < 16) (ht : rt 1 a = 1) (em : LR rt a = m) (hn : 200000 ≤ n) (hd : dst (fR rt) 4096 ≤ 512) :
    (512 - dst (fR rt) 4096 < RN rt (rt 6) a m (lf m) → ∃ rt', fX3_change n (nI a) rt = some (.inl (), rt') ∧ rt' 0 0 = nI 2 ∧ rt' 0 6 = rt 0 6 ∧ rt' 1 = rt 1 ∧ rt' 2 = rt 2 ∧ rt' 3 = rt 3 ∧ rt' 4 = rt 4) ∧
    (RN rt (rt 6) a m (lf m) ≤ 512 - dst (fR rt) 4096 → ∃ rt', fX3_change n (nI a) rt = some (.inl (), rt') ∧ rt' 0 0 = nI 0 ∧ rt' 0 6 = nI (md + RN rt (rt 6) a m (lf m)) ∧ rt' 1 = rt 1 ∧ rt' 2 = rt 2 ∧ rt' 4 = mks rt (rt 6) a m md (lf m) ∧ rt' 3 = fun j => if a * 4096 ≤ j ∧ j < a * 4096 + m then rt 6 (j - a * 4096) else rt 3 j) := by
  obtain ⟨e2, e3⟩ := M.2.1 a ha ht
  rw [em] at e2 e3
  have hl : lf m ≤ 256 := by unfold lf; omega
  have hRN : RN rt (rt 6) a m (lf m) ≤ 256 := Nat.le_trans (sm_le (fun i => by split <;> omega) _) hl
  obtain ⟨g, c1, c2⟩ := f_countAll M hn
  have fRu : ∀ t, t < 4096 → fR (upA rt 5 g) t = fR rt t := fun t h => fR_c (upA_n (by decide)) (upA_n (by decide)) (fun _ _ => by rw [upA_n (by decide)]) h
  have Mu : MR (upA rt 5 g) md := MR_c M (upA_n (by decide)) (upA_n (by decide)) (fun _ _ => by rw [upA_n (by decide)]) (by rw [upA_n (by decide)])
  have Nu : CN (fR (upA rt 5 g)) md (upA rt 5 g 5) 4096 := by rw [upA_s]; exact CN_c fRu c2
  have RNu : ∀ k, RN (upA rt 5 g) (upA rt 5 g 6) a m k = RN rt (rt 6) a m k := fun k => by rw [upA_n (K := 5) (by decide)]; exact RN_c (upA_n (by decide)) (upA_n (by decide)) (upA_n (by decide)) (upA_n (by decide))
  have htu : upA rt 5 g 1 a = 1 := by rw [upA_n (by decide)]; exact ht
  have emu : LR (upA rt 5 g) a = m := by rw [LR_c (rt := rt) (upA_n (by decide))]; exact em
  have base : fX3_change n (nI a) rt = (if nI (RN rt (rt 6) a m (lf m)) ≤ nI (512 - dst (fR rt) 4096) then (zb (fX3_refuses n (0 : Int32) (0 : Int32) (upA rt 5 g)) (fun (v42 : Int32) (u41 : zS) => (if v42 = 0 then fX3_change_10 n (fun (i1 : Int32) (st : zS) => fX3_change_318 n (fun  (st : zS) => some (.inl (), st)) n i1 (0 : Int32) st) (fun  (st : zS) => some (.inl (), st)) (n - 1) (nI a) (nI (dst (fR rt) 4096)) (nI (RN rt (rt 6) a m (lf m))) (nI 1) u41 else some (.inl (), u41)))) else (zb (fX3_refuses n (0 : Int32) (1 : Int32) (upA rt 5 g)) (fun (v46 : Int32) (u45 : zS) => (if v46 = 0 then fX3_change_10 n (fun (i1 : Int32) (st : zS) => fX3_change_318 n (fun  (st : zS) => some (.inl (), st)) n i1 (0 : Int32) st) (fun  (st : zS) => some (.inl (), st)) (n - 1) (nI a) (nI (dst (fR rt) 4096)) (nI (RN rt (rt 6) a m (lf m))) (nI 1) u45 else some (.inl (), u45))))) := by
    unfold fX3_change
    rw [c1, zb_s]
    obtain ⟨n', rfl⟩ : ∃ n', n = n' + 1 := ⟨n - 1, by omega⟩
    conv => lhs; rw [fX3_change_10]
    rw [if_neg (by decide), li0, turn0 Mu Nu ha htu emu hn (n' + 1) 0 0 (by omega) (by omega) (by omega), if_pos rfl, RNu, RNu, show RN rt (rt 6) a m 0 = 0 from rfl, Nat.sub_zero, Nat.zero_add, li512, nsb hd, li1, nad]
    rfl
  refine ⟨fun h => ?_, fun h => ?_⟩
  · rw [base, if_neg (by rw [nle (by omega) (by omega)]; omega), f_ref2, zb_s, if_neg (by decide)]
    exact ⟨_, rfl, by rw [upA_s, upd_at]; rfl, by rw [upA_s, upA_n (by decide)]; rfl, by rw [upA_n (by decide), upA_n (by decide)], by rw [upA_n (by decide), upA_n (by decide)], by rw [upA_n (by decide), upA_n (by decide)], by rw [upA_n (by decide), upA_n (by decide)]⟩
  · rw [base, if_pos (by rw [nle (by omega) (by omega)]; omega), f_ref0, zb_s, if_pos rfl]
    obtain ⟨n', rfl⟩ : ∃ n', n = n' + 3 := ⟨n - 3, by omega⟩
    have ez : upA (upA rt 5 g) 0 (upd (upA rt 5 g 0) 0 0) 0 6 = nI md := by rw [upA_s, upA_n (by decide)]; exact M.2.2.1
    generalize hs : upA (upA rt 5 g) 0 (upd (upA rt 5 g 0) 0 0) = s at ez ⊢
    have s1 : s 1 = rt 1 := by rw [← hs, upA_n (by decide), upA_n (by decide)]
    have s2 : s 2 = rt 2 := by rw [← hs, upA_n (by decide), upA_n (by decide)]
    have s3 : s 3 = rt 3 := by rw [← hs, upA_n (by decide), upA_n (by decide)]
    have s4 : s 4 = rt 4 := by rw [← hs, upA_n (by decide), upA_n (by decide)]
    have s5 : s 5 = g := by rw [← hs, upA_n (by decide), upA_s]
    have s6 : s 6 = rt 6 := by rw [← hs, upA_n (by decide), upA_n (by decide)]
    have s00 : s 0 0 = nI 0 := by rw [← hs, upA_s, upd_at]; rfl
    have Ms : MR s md := MR_c M s1 s2 (fun _ _ => by rw [s4]) (by rw [ez, M.2.2.1])
    have Ns : CN (fR s) md (s 5) 4096 := by rw [s5]; exact CN_c (fun t h => fR_c s1 s2 (fun _ _ => by rw [s4]) h) c2
    have RNs : ∀ k, RN s (s 6) a m k = RN rt (rt 6) a m k := fun k => by rw [s6]; exact RN_c s1 s2 s3 s4
    rw [show n' + 3 - 1 = (n' + 1) + 1 from rfl, fX3_change_10, if_neg (by decide)]
    have hts : s 1 a = 1 := by rw [s1]; exact ht
    have ems : LR s a = m := by rw [LR_c s2]; exact em
    have hz := cur1_z (a := a) (m := m) ez
    conv in fX3_change_19 _ _ _ _ _ _ _ _ s => rw [← hz]
    rw [li0, turn1 Ms Ns ha hts ems hn (n' + 3) 0 (by omega) (by omega), if_neg (by decide), li1, nad, fX3_change_10, if_pos (by decide)]
    rw [f_ch318 ha e3 (by rw [cur1_n (by decide) (by decide), s2]; exact e2) hn]
    refine ⟨_, rfl, ?_, ?_, ?_, ?_, ?_, ?_⟩
    · rw [upA_n (by decide), cur1_0]; exact s00
    · rw [upA_n (by decide), cur1_0, upd_at, RNs]
    · rw [upA_n (by decide), cur1_n (by decide) (by decide), s1]
    · rw [upA_n (by decide), cur1_n (by decide) (by decide), s2]
    · rw [upA_n (by decide), cur1_4]
      funext t
      unfold mks nmk
      rw [s4, s6]
      split
      · rw [planR_c s1 s2 s3 s4, RN_c s1 s2 s3 s4]
      · rfl
    · rw [upA_s, cur1_n (by decide) (by decide), cur1_n (by decide) (by decide), s6, s3]
