/-! the least number that isn't there -/
theorem least_ex {P : Nat → Prop} [DecidablePred P] : ∀ N, (∀ b, b < N → ¬ P b) ∨ ∃ a, a < N ∧ P a ∧ ∀ b, b < a → ¬ P b := by
  intro N
  induction N with
  | zero => exact Or.inl (fun b hb => by omega)
  | succ N ih =>
    rcases ih with h | ⟨a, h1, h2, h3⟩
    · by_cases c : P N
      · exact Or.inr ⟨N, by omega, c, h⟩
      · refine Or.inl (fun b hb => ?_)
        by_cases e : b = N
        · rw [e]; exact c
        · exact h b (by omega)
    · exact Or.inr ⟨a, by omega, h2, h3⟩
theorem free_loop {n a0 : Nat} {X : Int32 → zS → zF Int32} {r : zS} (h0 : a0 ≤ 16) (h1 : a0 < 16 → r 1 a0 = 0) : ∀ (k a : Nat), a ≤ a0 → a0 - a < k → (∀ b, a ≤ b → b < a0 → r 1 b ≠ 0) → fX3_free_2 n X k (nI a) r = X (nI a0) r := by
  have m1 := ml_1
  intro k
  induction k with
  | zero => intro a _ h; omega
  | succ k ih =>
    intro a h2 h3 h4
    by_cases c : a = 16
    · have : a0 = 16 := by omega
      subst c; subst this
      rw [fX3_free_2, if_pos (by rw [li16, nle (by omega) (by omega)]; omega)]
    · rw [fX3_free_2, if_neg (by rw [li16, nle (by omega) (by omega)]; omega), if_pos ((inb_nI (by omega)).mpr (by omega)), ncl (by omega)]
      by_cases d : a = a0
      · subst d; rw [if_pos (h1 (by omega))]
      · rw [if_neg (h4 a (Nat.le_refl _) (by omega)), li1, nad, ih (a + 1) (by omega) (by omega) (fun b hb hb2 => h4 b (by omega) hb2)]
theorem free_cases {n fc md : Nat} {st rt : zS} (R : Rel st rt fc md) (hn : 200000 ≤ n) :
    (fX2_numberForNewArray n st = some (.inr false, st) ∧ ∀ r : zS, r 1 = rt 1 → fX3_free n r = some (.inl (nI 16), r)) ∨
    (∃ a0, a0 < 16 ∧ rt 1 a0 = 0 ∧ fX2_numberForNewArray n st = some (.inl (nI a0), st) ∧ ∀ r : zS, r 1 = rt 1 → fX3_free n r = some (.inl (nI a0), r)) := by
  rcases least_ex (P := fun b => rt 1 b = 0) 16 with h | ⟨a0, h1, h2, h3⟩
  · refine Or.inl ⟨?_, fun r hr => ?_⟩
    · unfold fX2_numberForNewArray
      rw [li0, nfn_none n 0 (by omega) (by omega) (fun b _ hb => by rw [R.there hb]; exact h b hb)]
    · unfold fX3_free
      rw [li0, free_loop (a0 := 16) (Nat.le_refl _) (fun h => by omega) n 0 (by omega) (by omega) (fun b _ hb => by rw [hr]; exact h b hb)]
  · refine Or.inr ⟨a0, h1, h2, ?_, fun r hr => ?_⟩
    · unfold fX2_numberForNewArray
      rw [li0, nfn_some h1 (by rw [R.there h1]; exact h2) n 0 (by omega) (by omega) (fun b _ hb => by rw [R.there (by omega)]; exact h3 b hb)]
    · unfold fX3_free
      rw [li0, free_loop (a0 := a0) (by omega) (fun _ => by rw [hr]; exact h2) n 0 (by omega) (by omega) (fun b _ hb => by rw [hr]; exact h3 b hb)]
theorem f_begin {n r : Nat} {v : Int32} {st : zS} : fX1_begin n r v st = some (.inl (), upA st r (upd (upd (st r) 2 1) 3 v)) := by
  unfold fX1_begin
  rw [zl_s, zl_s, upA_s, upA_uu]
/-! release -/
theorem rel_loop {n a m : Nat} {X : Nat → zS → zF Int32} {st0 : zS} (ha : a < 16) (hm : m ≤ 4096) (em : st0 (9 + a) 3 = nI m) : ∀ (q i fc : Nat) (st : zS), i ≤ lf m → lf m - i < q → PI st fc → (∀ t, t < 4096 → (∀ k, k < i → t ≠ a * 256 + k) → fC st t = fC st0 t ∧ ∀ j, j < 16 → LV st t j = LV st0 t j) → (∀ k, k < i → fC st (a * 256 + k) = M1) → (∀ x, 6 ≤ x ∧ x < 25 → st x = st0 x) → st 2 4 = st0 2 4 →
    ∃ st' fc', fX2_release_19 n X q (9 + a) (nI i) st = X (9 + a) st' ∧ PI st' fc' ∧ (∀ t, t < 4096 → (∀ k, k < lf m → t ≠ a * 256 + k) → fC st' t = fC st0 t ∧ ∀ j, j < 16 → LV st' t j = LV st0 t j) ∧ (∀ k, k < lf m → fC st' (a * 256 + k) = M1) ∧ (∀ x, 6 ≤ x ∧ x < 25 → st' x = st0 x) ∧ st' 2 4 = st0 2 4 := by
  have hl : lf m ≤ 256 := by unfold lf; omega
  intro q
  induction q with
  | zero => intro i fc st _ h; omega
  | succ q ih =>
    intro i fc st h1 hq P H1 H2 H3 H4
    have e3 : st (9 + a) 3 = nI m := by rw [H3 _ (by omega)]; exact em
    by_cases c : lf m ≤ i
    · have e : i = lf m := by omega
      subst e
      refine ⟨st, fc, ?_, P, H1, H2, H3, H4⟩
      rw [fX2_release_19, f_leafCount (by omega) e3, zb_s, if_pos (by rw [nle (by omega) (by omega)]; exact c)]
    · obtain ⟨st1, fc1, g1, g2, g3, g4, g5, g6, g7⟩ := step_const (n := n) (k := i) (v := 0) P ha (by omega)
      obtain ⟨st2, fc2, b1, b2⟩ := ih (i + 1) fc1 st1 (by omega) (by omega) g2
        (fun t ht hk => by
          obtain ⟨l1, l2⟩ := g4.1 t ht (hk i (by omega))
          obtain ⟨l3, l4⟩ := H1 t ht (fun k hk' => hk k (by omega))
          exact ⟨by rw [l1, l3], fun j hj => by rw [l2 j hj, l4 j hj]⟩)
        (fun k hk => by
          by_cases e : k = i
          · rw [e]; exact g5
          · rw [(g4.1 (a * 256 + k) (lt4k ha (by omega)) (by omega)).1]; exact H2 k (by omega))
        (fun x hx => by rw [g4.2 x hx, H3 x hx]) (by rw [g7, H4])
      refine ⟨st2, fc2, ?_, b2⟩
      rw [fX2_release_19, f_leafCount (by omega) e3, zb_s, if_neg (by rw [nle (by omega) (by omega)]; exact c), g1, zb_s, li1, nad, b1]
theorem ok_release {n fc md : Nat} {i : Int32} {st rt : zS} (R : Rel st rt fc md) (hn : 200000 ≤ n) : Ok (fX2_release n i st) (fX3_release n i rt) md := by
  rcases there_cases (n := n) R i with ⟨a, ha, rfl, ht, hA, hT, hAt⟩ | ⟨hA, hT, hAt⟩
  · have hm := R.le ha ht
    have hl : lf (LR rt a) ≤ 256 := by unfold lf; omega
    obtain ⟨st1, fc1, g1, P1, g3, g4, g5, g6⟩ := rel_loop (n := n) (X := fun (r2 : Nat) (st : zS) => (zl (upA st r2 (upd (st r2) 2 (0 : Int32))) (fun (s13 : zS) => some (.inl (1 : Int32), s13)))) ha hm (R.len ha ht) n 0 fc st (by omega) (by omega) R.pi (fun _ _ _ => ⟨rfl, fun _ _ => rfl⟩) (fun k hk => by omega) (fun _ _ => rfl) rfl
    have F0 : fX2_release n (nI a) st = some (.inl (1 : Int32), upA st1 (9 + a) (upd (st1 (9 + a)) 2 0)) := by
      unfold fX2_release
      rw [hT, zb_s, if_neg (by decide), if_pos ((inb_nI (by omega)).mpr ha), ncl (by omega)]
      exact g1
    have G0 : fX3_release n (nI a) rt = some (.inl (1 : Int32), upA (upA rt 0 (upd (rt 0) 0 0)) 1 (upd (rt 1) a 0)) := by
      unfold fX3_release
      rw [zl_s, hA _ (upA_n (by decide)), zb_s, if_neg (by decide), if_pos (by rw [ml_1]; exact (inb_nI (by omega)).mpr ha), zl_s, if_pos (Or.inr rfl), ncl (by omega), upA_n (k := 1) (by decide)]
    have a_st : ∀ b, b < 16 → fC (upA st1 (9 + a) (upd (st1 (9 + a)) 2 0)) = fC st1 := by
      intro b hb
      funext t
      unfold fC
      rw [upA_n (by omega)]
    have hf' : fC (upA st1 (9 + a) (upd (st1 (9 + a)) 2 0)) = fC st1 := a_st 0 (by omega)
    have hV : ∀ b i, VR (upA st1 (9 + a) (upd (st1 (9 + a)) 2 0)) (9 + b) i = VR st1 (9 + b) i := fun b i => VR_upA (by omega) (by omega) (by omega)
    refine ok_inl (fc := fc1) (md' := md) ?_ (by omega) F0 G0 ?_
    · have r1 : ∀ b, b ≠ a → upA (upA rt 0 (upd (rt 0) 0 0)) 1 (upd (rt 1) a 0) 1 b = rt 1 b := fun b hb => by rw [upA_s, upd_ne hb]
      have r1a : upA (upA rt 0 (upd (rt 0) 0 0)) 1 (upd (rt 1) a 0) 1 a = 0 := by rw [upA_s, upd_at]
      have r2 : upA (upA rt 0 (upd (rt 0) 0 0)) 1 (upd (rt 1) a 0) 2 = rt 2 := by rw [upA_n (by decide), upA_n (by decide)]
      have r3 : upA (upA rt 0 (upd (rt 0) 0 0)) 1 (upd (rt 1) a 0) 3 = rt 3 := by rw [upA_n (by decide), upA_n (by decide)]
      have r4 : upA (upA rt 0 (upd (rt 0) 0 0)) 1 (upd (rt 1) a 0) 4 = rt 4 := by rw [upA_n (by decide), upA_n (by decide)]
      have r0 : upA (upA rt 0 (upd (rt 0) 0 0)) 1 (upd (rt 1) a 0) 0 6 = rt 0 6 := by rw [upA_n (by decide), upA_s]; rfl
      generalize upA (upA rt 0 (upd (rt 0) 0 0)) 1 (upd (rt 1) a 0) = rt' at r1 r1a r2 r3 r4 r0
      have hL : LR rt' = LR rt := LR_c r2
      have fR1 : ∀ t, t < 4096 → t / 256 = a → fR rt' t = M1 := by
        intro t h e
        unfold fR
        rw [e, r1a, if_neg (fun z => z.1 rfl)]
      have fR2 : ∀ t, t < 4096 → t / 256 ≠ a → fR rt' t = fR rt t := by
        intro t h e
        unfold fR
        rw [r1 _ e, hL, r4]
      have cl : ∀ t, t < 4096 → t / 256 = a → fC st1 t = M1 := by
        intro t h e
        by_cases k : t % 256 < lf (LR rt a)
        · have := g4 (t % 256) k
          rw [show a * 256 + t % 256 = t by omega] at this
          exact this
        · rw [(g3 t h (fun k' hk' => by omega)).1]
          have := R.dead (a := a) (k := t % 256) ha (by omega) (Or.inr (by omega))
          rw [show a * 256 + t % 256 = t by omega] at this
          exact this
      refine ⟨?_, ⟨?_, ?_, ?_, R.mr.2.2.2.1, ?_⟩, ?_, ?_, ?_, ?_, ?_, ?_⟩
      · exact ⟨by rw [upA_n (by omega)]; exact P1.1, by rw [hf', upA_n (by omega), upA_n (by omega)]; exact P1.2⟩
      · intro b hb
        by_cases e : b = a
        · rw [e]; exact Or.inl r1a
        · rw [r1 b e]; exact R.mr.1 b hb
      · intro b hb h1
        by_cases e : b = a
        · rw [e, r1a] at h1; exact absurd h1 (by decide)
        · rw [r1 b e] at h1; rw [r2, hL]; exact R.mr.2.1 b hb h1
      · rw [r0]; exact R.mr.2.2.1
      · intro t h
        by_cases e : t / 256 = a
        · exact Or.inl (fR1 t h e)
        · rw [fR2 t h e]; exact R.mr.2.2.2.2 t h
      · rw [upA_n (by omega), g6]; exact R.md
      · intro b hb
        by_cases e : b = a
        · rw [e, upA_s, upd_at, r1a]
        · rw [upA_n (by omega), g5 _ (by omega), r1 b e]; exact R.there hb
      · intro b hb h1
        by_cases e : b = a
        · rw [e, r1a] at h1; exact absurd h1 (by decide)
        · rw [r1 b e] at h1
          rw [upA_n (by omega), g5 _ (by omega), hL]; exact R.len hb h1
      · intro b k hb hk hd
        rw [hf']
        by_cases e : b = a
        · exact cl _ (lt4k hb hk) (by omega)
        · rw [r1 b e, hL] at hd
          rw [(g3 _ (lt4k hb hk) (fun k' hk' => by omega)).1]
          exact R.dead hb hk hd
      · intro b i hb h1 hi
        by_cases e : b = a
        · rw [e, r1a] at h1; exact absurd h1 (by decide)
        · rw [r1 b e] at h1
          rw [hL] at hi
          have hbm := R.le hb h1
          rw [r3, hV, VR_LV (by omega), (g3 _ (lt4k hb (show i / 16 < 256 by omega)) (fun k' hk' => by omega)).2 _ (by omega), ← VR_LV (by omega)]
          exact R.val hb h1 hi
      · rw [hf']
        refine Eqv.pat (π := fun t => if t / 256 = a then some none else some (some t)) R.eqv ?_ ?_
        · intro t h
          by_cases e : t / 256 = a
          · simp only [if_pos e]
            exact ⟨fun u z => (by cases z), fun _ => cl t h e, fun z => (by cases z)⟩
          · simp only [if_neg e]
            refine ⟨fun u z => ?_, fun z => (by cases z), fun z => (by cases z)⟩
            injection z with z
            injection z with z
            subst z
            exact ⟨h, (g3 t h (fun k' hk' => by omega)).1⟩
        · intro t h
          by_cases e : t / 256 = a
          · simp only [if_pos e]
            exact ⟨fun u z => (by cases z), fun _ => fR1 t h e, fun z => (by cases z)⟩
          · simp only [if_neg e]
            refine ⟨fun u z => ?_, fun z => (by cases z), fun z => (by cases z)⟩
            injection z with z
            injection z with z
            subst z
            exact ⟨h, fR2 t h e⟩
    · rw [upA_n (by decide), code_at]; rfl
  · refine ok_inl (Rel_code R 0) (by omega) (v := (0 : Int32)) ?_ ?_ code_at
    · unfold fX2_release; rw [hT, zb_s, if_pos rfl]
    · unfold fX3_release; rw [zl_s, hA _ (upA_n (by decide)), zb_s, if_pos rfl, if_pos (Or.inl rfl)]
