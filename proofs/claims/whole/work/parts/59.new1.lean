/-! a new array, on both sides: from what the two calls leave to the relation -/
def KN (src : Nat → Option Nat) (W : Nat → Int32) (m : Nat) : Nat → Nat := sm (fun k => if src k = none ∧ ¬ pl W k m then 1 else 0)
theorem KN_le {src : Nat → Option Nat} {W : Nat → Int32} {m k : Nat} : KN src W m k ≤ k := sm_le (fun i => by split <;> omega) k
theorem KN_lt {src : Nat → Option Nat} {W : Nat → Int32} {m k e : Nat} (h : k < e) (h1 : src k = none) (h2 : ¬ pl W k m) : KN src W m k < KN src W m e := by
  have h3 : KN src W m (k + 1) ≤ KN src W m e := sm_mono h
  have h4 : KN src W m (k + 1) = KN src W m k + (if src k = none ∧ ¬ pl W k m then 1 else 0) := rfl
  rw [if_pos ⟨h1, h2⟩] at h4
  omega
theorem ok_new {fc md a m fc' : Nat} {st rt st0 st' rt' : zS} {W V : Nat → Int32} {src : Nat → Option Nat} (R : Rel st rt fc md) (ha : a < 16) (ha0 : rt 1 a = 0) (hm : m ≤ 4096) (hmd : md + 256 ≤ 131072)
    (s2 : st0 (9 + a) 2 = 1) (s3 : st0 (9 + a) 3 = nI m) (sx : ∀ x, x ≠ 6 → x ≠ 7 → x ≠ 8 → x ≠ 9 + a → st0 x = st x)
    (N : Nxt st0 st' W src a m (lf m)) (P' : PI st' fc') (e4 : st' 2 4 = nI (md + KN src W m (lf m)))
    (d0 : rt' 0 6 = nI (md + KN src W m (lf m))) (d1 : rt' 1 = upd (rt 1) a 1) (d2 : rt' 2 = upd (rt 2) a (nI m)) (d3 : ∀ i, i < m → rt' 3 (a * 4096 + i) = V i) (d3' : ∀ j, j < 65536 → j < a * 4096 ∨ a * 4096 + m ≤ j → rt' 3 j = rt 3 j)
    (d4' : ∀ t, t < 4096 → t < a * 256 ∨ a * 256 + lf m ≤ t → rt' 4 t = rt 4 t)
    (d4 : ∀ k, k < lf m → (∀ u, src k = some u → u < 4096 ∧ rt' 4 (a * 256 + k) = fR rt u) ∧ (src k = none → pl W k m → rt' 4 (a * 256 + k) = M1) ∧ (src k = none → ¬ pl W k m → rt' 4 (a * 256 + k) = nI (md + KN src W m k)))
    (v1 : ∀ k u, k < lf m → src k = some u → ∀ j, j < 16 → k * 16 + j < m → LV st0 u j = V (k * 16 + j)) (v2 : ∀ k, k < lf m → src k = none → ∀ j, j < 16 → k * 16 + j < m → W (k * 16 + j) = V (k * 16 + j)) :
    Rel st' rt' fc' (md + KN src W m (lf m)) := by
  have hl : lf m ≤ 256 := by unfold lf; omega
  have hK : KN src W m (lf m) ≤ 256 := Nat.le_trans KN_le hl
  obtain ⟨N1, N2, N3⟩ := N
  have fC0 : ∀ t, t < 4096 → fC st0 t = fC st t := fun t h => fC_keep (fun b hb => sx _ (by omega) (by omega) (by omega) (by omega)) h
  have LV0 : ∀ t j, t < 4096 → LV st0 t j = LV st t j := fun t j h => LV_keep (fC0 t h) (fun _ => by rw [sx _ (by omega) (by omega) (by omega) (by omega)]) (fun _ => by rw [sx 3 (by omega) (by omega) (by omega) (by omega)])
  have L1 : LR rt' a = m := by unfold LR; rw [d2, upd_at, ncl (by omega)]
  have L2 : ∀ b, b ≠ a → LR rt' b = LR rt b := fun b h => by unfold LR; rw [d2, upd_ne h]
  have t1 : rt' 1 a = 1 := by rw [d1, upd_at]
  have t2 : ∀ b, b ≠ a → rt' 1 b = rt 1 b := fun b h => by rw [d1, upd_ne h]
  have fRa : ∀ t, t < 4096 → t / 256 = a → fR rt t = M1 := fun t h e => by unfold fR; rw [e, ha0, if_neg (fun z => z.1 rfl)]
  have fR1 : ∀ k, k < lf m → fR rt' (a * 256 + k) = rt' 4 (a * 256 + k) := by
    intro k hk
    obtain ⟨q1, q2⟩ := lt_t ha (show k < 256 by omega)
    unfold fR
    rw [q1, q2, L1, t1, if_pos ⟨by decide, hk⟩]
  have fR2 : ∀ t, t < 4096 → t < a * 256 ∨ a * 256 + lf m ≤ t → fR rt' t = fR rt t := by
    intro t h c
    by_cases e : t / 256 = a
    · rw [fRa t h e]
      unfold fR
      rw [e, L1, if_neg (fun z => by omega)]
    · unfold fR
      rw [t2 _ e, L2 _ e, d4' t h c]
  have Mm := R.mr.2.2.2.2
  refine ⟨P', ⟨?_, ?_, d0, by omega, ?_⟩, e4, ?_, ?_, ?_, ?_, ?_⟩
  · intro b hb
    by_cases e : b = a
    · rw [e]; exact Or.inr t1
    · rw [t2 b e]; exact R.mr.1 b hb
  · intro b hb h1
    by_cases e : b = a
    · rw [e, L1, d2, upd_at]; exact ⟨rfl, hm⟩
    · rw [t2 b e] at h1; rw [L2 b e, d2, upd_ne e]; exact R.mr.2.1 b hb h1
  · intro t h
    by_cases c : t < a * 256 ∨ a * 256 + lf m ≤ t
    · rw [fR2 t h c]
      rcases Mm t h with z | ⟨x, z1, z2⟩
      · exact Or.inl z
      · exact Or.inr ⟨x, by omega, z2⟩
    · have hk : t - a * 256 < lf m := by omega
      have := fR1 _ hk
      rw [show a * 256 + (t - a * 256) = t by omega] at this
      obtain ⟨q1, q2, q3⟩ := d4 _ hk
      rw [show a * 256 + (t - a * 256) = t by omega] at q1 q2 q3
      rw [this]
      cases hs : src (t - a * 256) with
      | some u =>
        obtain ⟨u1, u2⟩ := q1 u hs
        rw [u2]
        rcases Mm u u1 with z | ⟨x, z1, z2⟩
        · exact Or.inl z
        · exact Or.inr ⟨x, by omega, z2⟩
      | none =>
        by_cases p : pl W (t - a * 256) m
        · exact Or.inl (q2 hs p)
        · exact Or.inr ⟨_, Nat.add_lt_add_left (KN_lt hk hs p) md, q3 hs p⟩
  · intro b hb
    by_cases e : b = a
    · rw [e, N3 _ (by omega), s2, t1]
    · rw [N3 _ (by omega), sx _ (by omega) (by omega) (by omega) (by omega), t2 b e]; exact R.there hb
  · intro b hb h1
    by_cases e : b = a
    · rw [e, N3 _ (by omega), s3, L1]
    · rw [t2 b e] at h1
      rw [N3 _ (by omega), sx _ (by omega) (by omega) (by omega) (by omega), L2 b e]; exact R.len hb h1
  · intro b k hb hk hd
    by_cases e : b = a
    · subst e
      rw [t1, L1] at hd
      have hk2 : lf m ≤ k := by
        rcases hd with z | z
        · exact absurd z (by decide)
        · exact z
      rw [(N1 _ (lt4k hb hk) (fun k' hk' => by omega)).1, fC0 _ (lt4k hb hk)]
      exact R.dead hb hk (Or.inl ha0)
    · rw [t2 b e, L2 b e] at hd
      rw [(N1 _ (lt4k hb hk) (fun k' hk' => by omega)).1, fC0 _ (lt4k hb hk)]
      exact R.dead hb hk hd
  · intro b i hb h1 hi
    by_cases e : b = a
    · subst e
      rw [L1] at hi
      rw [d3 i hi, VR_LV (by omega)]
      have hk : i / 16 < lf m := by unfold lf; omega
      have hv : i % 16 < vin m (i / 16) := by unfold vin; split <;> omega
      have ei : i / 16 * 16 + i % 16 = i := by omega
      obtain ⟨n1, n2, n3⟩ := N2 _ hk
      cases hs : src (i / 16) with
      | some u =>
        rw [(n1 u hs).2 _ (by omega), v1 _ u hk hs _ (by omega) (by omega), ei]
      | none =>
        have w0 := v2 _ hk hs (i % 16) (by omega) (by omega)
        rw [ei] at w0
        by_cases p : pl W (i / 16) m
        · have w1 := p (i % 16) (by omega) (by omega)
          rw [ei] at w1
          rw [(n2 hs p).2 _ (by omega), ← w1, w0]
        · rw [(n3 hs p).2.2 _ hv, ei, w0]
    · rw [t2 b e] at h1
      rw [L2 b e] at hi
      have hbm := R.le hb h1
      rw [d3' _ (by omega) (by omega), VR_LV (by omega), (N1 _ (lt4k hb (show i / 16 < 256 by omega)) (fun k' hk' => by omega)).2 _ (by omega), LV0 _ _ (lt4k hb (by omega)), ← VR_LV (by omega)]
      exact R.val hb h1 hi
  · refine Eqv.pat (π := fun t => if t < a * 256 ∨ a * 256 + lf m ≤ t then some (some t) else match src (t - a * 256) with
      | some u => some (some u)
      | none => if pl W (t - a * 256) m then some none else none) R.eqv ?_ ?_
    · intro t h
      by_cases c : t < a * 256 ∨ a * 256 + lf m ≤ t
      · simp only [if_pos c]
        refine ⟨fun u z => ?_, fun z => (by cases z), fun z => (by cases z)⟩
        injection z with z
        injection z with z
        subst z
        exact ⟨h, by rw [(N1 t h (fun k hk => by omega)).1, fC0 t h]⟩
      · have hk : t - a * 256 < lf m := by omega
        obtain ⟨n1, n2, n3⟩ := N2 _ hk
        obtain ⟨q1, -, -⟩ := d4 _ hk
        rw [show a * 256 + (t - a * 256) = t by omega] at n1 n2 n3
        simp only [if_neg c]
        cases hs : src (t - a * 256) with
        | some u =>
          refine ⟨fun u' z => ?_, fun z => (by cases z), fun z => (by cases z)⟩
          injection z with z
          injection z with z
          subst z
          exact ⟨(q1 u hs).1, by rw [(n1 u hs).1, fC0 _ (q1 u hs).1]⟩
        | none =>
          by_cases p : pl W (t - a * 256) m
          · simp only [if_pos p]
            exact ⟨fun u z => (by cases z), fun _ => (n2 hs p).1, fun z => (by cases z)⟩
          · simp only [if_neg p]
            exact ⟨fun u z => (by cases z), fun z => (by cases z), fun _ => ⟨(n3 hs p).1, (n3 hs p).2.1⟩⟩
    · have small : ∀ t, t < 4096 → ∀ x, md ≤ x → x < 2147483648 → fR rt t ≠ nI x := by
        intro t h x hx hx2 z
        rcases Mm t h with y | ⟨y, y1, y2⟩
        · rw [y] at z; exact nI_m1 hx2 z.symm
        · rw [y2] at z
          have := (nI_eq (by omega) hx2).mp z
          omega
      intro t h
      by_cases c : t < a * 256 ∨ a * 256 + lf m ≤ t
      · simp only [if_pos c]
        refine ⟨fun u z => ?_, fun z => (by cases z), fun z => (by cases z)⟩
        injection z with z
        injection z with z
        subst z
        exact ⟨h, fR2 t h c⟩
      · have hk : t - a * 256 < lf m := by omega
        have ft := fR1 _ hk
        obtain ⟨q1, q2, q3⟩ := d4 _ hk
        rw [show a * 256 + (t - a * 256) = t by omega] at ft q1 q2 q3
        simp only [if_neg c]
        cases hs : src (t - a * 256) with
        | some u =>
          refine ⟨fun u' z => ?_, fun z => (by cases z), fun z => (by cases z)⟩
          injection z with z
          injection z with z
          subst z
          exact ⟨(q1 u hs).1, by rw [ft, (q1 u hs).2]⟩
        | none =>
          by_cases p : pl W (t - a * 256) m
          · simp only [if_pos p]
            exact ⟨fun u z => (by cases z), fun _ => by rw [ft, q2 hs p], fun z => (by cases z)⟩
          · simp only [if_neg p]
            have hlt := KN_lt hk hs p
            refine ⟨fun u z => (by cases z), fun z => (by cases z), fun _ => ⟨by rw [ft, q3 hs p]; exact nI_m1 (by omega), fun t' h' hne => ?_⟩⟩
            rw [ft, q3 hs p]
            by_cases c' : t' < a * 256 ∨ a * 256 + lf m ≤ t'
            · rw [fR2 t' h' c']; exact small t' h' _ (by omega) (by omega)
            · have hk' : t' - a * 256 < lf m := by omega
              have ft' := fR1 _ hk'
              obtain ⟨q1', q2', q3'⟩ := d4 _ hk'
              rw [show a * 256 + (t' - a * 256) = t' by omega] at ft' q1' q2' q3'
              rw [ft']
              cases hs' : src (t' - a * 256) with
              | some u =>
                obtain ⟨u1, u2⟩ := q1' u hs'
                rw [u2]; exact small u u1 _ (by omega) (by omega)
              | none =>
                by_cases p' : pl W (t' - a * 256) m
                · rw [q2' hs' p']; exact fun z => nI_m1 (by omega) z.symm
                · rw [q3' hs' p']
                  have hlt' := KN_lt hk' hs' p'
                  intro z
                  have z2 := (nI_eq (by omega) (by omega)).mp z
                  rcases Nat.lt_or_gt_of_ne (show t' - a * 256 ≠ t - a * 256 by omega) with y | y
                  · have := KN_lt y hs' p'; omega
                  · have := KN_lt y hs p; omega
