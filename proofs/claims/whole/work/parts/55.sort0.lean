/-! rising order: two rows in rising order with the same counts are the same row -/
def Srt (f : Nat → Int32) (m : Nat) : Prop := ∀ p q, p ≤ q → q < m → f p ≤ f q
theorem cnt_ex {f : Nat → Int32} {x : Int32} {T : Nat} (h : 0 < cnt f x T) : ∃ t, t < T ∧ f t = x := by
  by_cases c : ∃ t, t < T ∧ f t = x
  · exact c
  · have := cnt_none (f := f) (x := x) T (fun t ht e => c ⟨t, ht, e⟩)
    omega
theorem cnt_s {f : Nat → Int32} {x : Int32} {T : Nat} : cnt f x (T + 1) = cnt f x T + (if f T = x then 1 else 0) := rfl
theorem srt_eq {f g : Nat → Int32} : ∀ m, Srt f m → Srt g m → (∀ x, cnt f x m = cnt g x m) → ∀ i, i < m → f i = g i := by
  intro m
  induction m with
  | zero => intro _ _ _ i h; omega
  | succ m ih =>
    intro hf hg hc i hi
    have e : f m = g m := by
      have p1 : 0 < cnt g (f m) (m + 1) := by rw [← hc]; exact cnt_pos (m + 1) (Nat.lt_succ_self m) rfl
      have p2 : 0 < cnt f (g m) (m + 1) := by rw [hc]; exact cnt_pos (m + 1) (Nat.lt_succ_self m) rfl
      obtain ⟨t, t1, t2⟩ := cnt_ex p1
      obtain ⟨u, u1, u2⟩ := cnt_ex p2
      have l1 := hg t m (by omega) (by omega)
      have l2 := hf u m (by omega) (by omega)
      rw [t2] at l1
      rw [u2] at l2
      exact Int32.le_antisymm l1 l2
    by_cases c : i = m
    · rw [c, e]
    · refine ih (fun p q h1 h2 => hf p q h1 (by omega)) (fun p q h1 h2 => hg p q h1 (by omega)) (fun x => ?_) i (by omega)
      have := hc x
      rw [cnt_s, cnt_s, e] at this
      omega
/-! the counts of a stretch -/
def sg (f : Nat → Int32) (x : Int32) : Nat → Nat → Nat
  | _, 0 => 0
  | a, d + 1 => (if f a = x then 1 else 0) + sg f x (a + 1) d
theorem sg_c {f g : Nat → Int32} {x : Int32} : ∀ (d a : Nat), (∀ j, a ≤ j → j < a + d → f j = g j) → sg f x a d = sg g x a d := by
  intro d
  induction d with
  | zero => intro a _; rfl
  | succ d ih => intro a h; rw [sg, sg, h a (by omega) (by omega), ih (a + 1) (fun j h1 h2 => h j (by omega) (by omega))]
theorem sg_end {f : Nat → Int32} {x : Int32} : ∀ (d a : Nat), sg f x a (d + 1) = sg f x a d + (if f (a + d) = x then 1 else 0) := by
  intro d
  induction d with
  | zero => intro a; exact Nat.add_comm (if f a = x then 1 else 0) 0
  | succ d ih => intro a; rw [sg, ih (a + 1), sg, show a + 1 + d = a + (d + 1) by omega]; omega
theorem cnt_sg {f : Nat → Int32} {x : Int32} (a : Nat) : ∀ d, cnt f x (a + d) = cnt f x a + sg f x a d := by
  intro d
  induction d with
  | zero => rfl
  | succ d ih => rw [show a + (d + 1) = a + d + 1 by omega, cnt_s, ih, sg_end]; omega
theorem cnt_upd {f : Nat → Int32} {x y : Int32} {t0 T : Nat} (h : t0 < T) : cnt (upd f t0 y) x T + (if f t0 = x then 1 else 0) = cnt f x T + (if y = x then 1 else 0) := cnt_fup T h
theorem upd_ne {f : Nat → Int32} {k j : Nat} {x : Int32} (h : j ≠ k) : upd f k x j = f j := by unfold upd; rw [if_neg h]
/-! the reference's sort -/
def Ins (f : Nat → Int32) (k : Nat) (v : Int32) (i : Nat) : Prop := (∀ p q, p ≤ q → q ≤ i → p ≠ k → q ≠ k → f p ≤ f q) ∧ (∀ q, k < q → q ≤ i → v < f q)
theorem sort58 {n a gap i m : Nat} {v : Int32} {X : Int32 → Int32 → Int32 → Int32 → Int32 → zS → zF Unit} {st : zS} (hg : 1 ≤ gap) (hi : i < m) (hm : m ≤ 4096) (hgl : gap ≤ 2048) : ∀ (q k : Nat) (f : Nat → Int32), k ≤ i → k < q →
    ∃ k' f', fX3_sort_58 n X q (nI a) (nI gap) (nI i) v (nI k) (upA st 6 f) = X (nI a) (nI gap) (nI i) v (nI k') (upA st 6 f') ∧ k' ≤ i ∧ (∀ x, cnt (upd f' k' v) x m = cnt (upd f k v) x m) ∧ (∀ j, m ≤ j → f' j = f j) ∧ (gap = 1 → Ins f k v i → Srt (upd f' k' v) (i + 1)) := by
  have h6 := ml_6
  intro q
  induction q with
  | zero => intro k f _ h; omega
  | succ q ih =>
    intro k f hk hq
    by_cases c : k < gap
    · refine ⟨k, f, ?_, hk, fun _ => rfl, fun _ _ => rfl, ?_⟩
      · rw [fX3_sort_58, if_pos (by rw [nlt (by omega) (by omega)]; exact c)]
      · intro g1 ⟨I1, I2⟩ p q' h1 h2
        have k0 : k = 0 := by omega
        subst k0
        by_cases p0 : p = 0
        · subst p0
          rw [upd_at]
          by_cases q0 : q' = 0
          · subst q0; rw [upd_at]; exact Int32.le_refl _
          · rw [upd_ne q0]; exact Int32.le_of_lt (I2 q' (by omega) (by omega))
        · rw [upd_ne p0, upd_ne (by omega)]; exact I1 p q' h1 (by omega) p0 (by omega)
    · by_cases d : f (k - gap) ≤ v
      · refine ⟨k, f, ?_, hk, fun _ => rfl, fun _ _ => rfl, ?_⟩
        · rw [fX3_sort_58, if_neg (by rw [nlt (by omega) (by omega)]; exact c), nsb (by omega), if_pos ((inb_nI (by omega)).mpr (by omega)), ncl (by omega), upA_s, if_pos d]
        · intro g1 ⟨I1, I2⟩ p q' h1 h2
          subst g1
          have dk : ∀ p, p < k → f p ≤ v := fun p hp => Int32.le_trans (I1 p (k - 1) (by omega) (by omega) (by omega) (by omega)) d
          by_cases pk : p = k
          · subst pk
            rw [upd_at]
            by_cases qk : q' = p
            · subst qk; rw [upd_at]; exact Int32.le_refl _
            · rw [upd_ne qk]; exact Int32.le_of_lt (I2 q' (by omega) (by omega))
          · rw [upd_ne pk]
            by_cases qk : q' = k
            · subst qk; rw [upd_at]; exact dk p (by omega)
            · rw [upd_ne qk]; exact I1 p q' h1 (by omega) pk qk
      · obtain ⟨k', f', e1, e2, e3, e5, e4⟩ := ih (k - gap) (upd f k (f (k - gap))) (by omega) (by omega)
        refine ⟨k', f', ?_, e2, ?_, ?_, ?_⟩
        · rw [fX3_sort_58, if_neg (by rw [nlt (by omega) (by omega)]; exact c), nsb (by omega), if_pos ((inb_nI (by omega)).mpr (by omega)), ncl (show k - gap < 2147483648 by omega), upA_s, if_neg d, if_pos ((inb_nI (by omega)).mpr (by omega)), if_pos ((inb_nI (by omega)).mpr (by omega)), zl_s, ncl (show k < 2147483648 by omega), upA_uu, e1]
        · intro x
          rw [e3 x]
          have a1 := cnt_upd (f := upd f k (f (k - gap))) (x := x) (y := v) (t0 := k - gap) (T := m) (by omega)
          have a2 := cnt_upd (f := f) (x := x) (y := f (k - gap)) (t0 := k) (T := m) (by omega)
          have a3 := cnt_upd (f := f) (x := x) (y := v) (t0 := k) (T := m) (by omega)
          rw [upd_ne (by omega)] at a1
          omega
        · intro j hj; rw [e5 j hj, upd_ne (by omega)]
        · intro g1 ⟨I1, I2⟩
          subst g1
          refine e4 rfl ⟨fun p q' h1 h2 h3 h4 => ?_, fun q' h1 h2 => ?_⟩
          · by_cases pk : p = k
            · subst pk
              rw [upd_at]
              by_cases qk : q' = p
              · subst qk; rw [upd_at]; exact Int32.le_refl _
              · rw [upd_ne qk]; exact I1 (p - 1) q' (by omega) h2 (by omega) qk
            · rw [upd_ne pk]
              by_cases qk : q' = k
              · subst qk; rw [upd_at]; exact I1 p (q' - 1) (by omega) (by omega) pk (by omega)
              · rw [upd_ne qk]; exact I1 p q' h1 h2 pk qk
          · by_cases qk : q' = k
            · subst qk; rw [upd_at]; exact Int32.not_le.mp d
            · rw [upd_ne qk]; exact I2 q' (by omega) h2
theorem sort37 {n a gap m : Nat} {X : Int32 → Int32 → zS → zF Unit} {st : zS} (ha : a < 16) (em : st 2 a = nI m) (hg : 1 ≤ gap) (hm : m ≤ 4096) (hgl : gap ≤ 2048) (hn : 200000 ≤ n) : ∀ (q i : Nat) (f : Nat → Int32), i ≤ 4096 → m - i < q →
    ∃ f', fX3_sort_37 n X q (nI a) (nI gap) (nI i) (upA st 6 f) = X (nI a) (nI gap) (upA st 6 f') ∧ (∀ x, cnt f' x m = cnt f x m) ∧ (gap = 1 → Srt f i → Srt f' m) := by
  have h2 := ml_2
  have h6 := ml_6
  intro q
  induction q with
  | zero => intro i f _ h; omega
  | succ q ih =>
    intro i f hi hq
    by_cases c : m ≤ i
    · refine ⟨f, ?_, fun _ => rfl, fun _ S p q' h1 h2 => S p q' h1 (by omega)⟩
      rw [fX3_sort_37, if_pos ((inb_nI (by omega)).mpr (by omega)), ncl (by omega), upA_n (by decide), em, if_pos (by rw [nle (by omega) (by omega)]; exact c)]
    · obtain ⟨k', f', e1, e2, e3, e5, e4⟩ := sort58 (n := n) (a := a) (v := f i) (st := st) (X := fun (i1 : Int32) (i2 : Int32) (i3 : Int32) (i4 : Int32) (i5 : Int32) (st : zS) => (if inb i5 (ml 6) then (zl (upA st 6 (upd (st 6) (i5).toNatClampNeg i4)) (fun (s23 : zS) => fX3_sort_37 n X q i1 i2 (i3 + (1 : Int32)) s23)) else none)) hg (show i < m by omega) hm hgl n i f (Nat.le_refl _) (by omega)
      obtain ⟨f2, g1, g2, g3⟩ := ih (i + 1) (upd f' k' (f i)) (by omega) (by omega)
      refine ⟨f2, ?_, fun x => ?_, fun hg1 S => ?_⟩
      · rw [fX3_sort_37, if_pos ((inb_nI (by omega)).mpr (by omega)), ncl (show a < 2147483648 by omega), upA_n (k := 2) (by decide), em, if_neg (by rw [nle (by omega) (by omega)]; exact c), if_pos ((inb_nI (by omega)).mpr (by omega)), ncl (show i < 2147483648 by omega), upA_s, e1, if_pos ((inb_nI (by omega)).mpr (by omega)), zl_s, ncl (by omega), upA_s, upA_uu, li1, nad, g1]
      · rw [g2 x, e3 x, upd_self]
      · refine g3 hg1 (e4 hg1 ⟨fun p q' h1 h2 h3 h4 => S p q' h1 (by omega), fun q' h1 h2 => by omega⟩)
theorem sort31 {n a m : Nat} {X : Int32 → zS → zF Unit} {st : zS} (ha : a < 16) (em : st 2 a = nI m) (hm : m ≤ 4096) (hn : 200000 ≤ n) : ∀ (q gap : Nat) (f : Nat → Int32), gap ≤ 2048 → gap < q →
    ∃ f', fX3_sort_31 n X q (nI a) (nI gap) (upA st 6 f) = X (nI a) (upA st 6 f') ∧ (∀ x, cnt f' x m = cnt f x m) ∧ (1 ≤ gap → Srt f' m) ∧ (gap = 0 → f' = f) := by
  intro q
  induction q with
  | zero => intro i f _ h; omega
  | succ q ih =>
    intro gap f hg hq
    by_cases c : gap = 0
    · subst c
      refine ⟨f, ?_, fun _ => rfl, fun h => by omega, fun _ => rfl⟩
      rw [fX3_sort_31, if_pos (by decide)]
    · obtain ⟨f1, a1, a2, a3⟩ := sort37 (n := n) (gap := gap) (st := st) (X := fun (i1 : Int32) (i2 : Int32) (st : zS) => fX3_sort_31 n X q i1 (i2 / (2 : Int32)) st) ha em (by omega) hm hg hn n gap f (by omega) (by omega)
      obtain ⟨f2, b1, b2, b3, b4⟩ := ih (gap / 2) f1 (by omega) (by omega)
      refine ⟨f2, ?_, fun x => ?_, fun _ => ?_, fun h => absurd h c⟩
      · rw [fX3_sort_31, if_neg (by rw [li0, nle (by omega) (by omega)]; omega), a1, li2, ndv (by omega) (by omega) (by omega), b1]
      · rw [b2 x, a2 x]
      · by_cases g1 : gap = 1
        · rw [b4 (by omega)]
          refine a3 g1 (fun p q' h1 h2 => ?_)
          have : p = q' := by omega
          rw [this]; exact Int32.le_refl _
        · exact b3 (by omega)
