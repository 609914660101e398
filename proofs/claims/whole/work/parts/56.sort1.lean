/-! the class's sort: two stretches in rising order are merged -/
def Rng (f : Nat → Int32) (lo hi : Nat) : Prop := ∀ p q, lo ≤ p → p ≤ q → q < hi → f p ≤ f q
def MI (f s : Nat → Int32) (lo mid hi left right i : Nat) : Prop :=
  lo ≤ left ∧ left ≤ mid ∧ mid ≤ right ∧ right ≤ hi ∧ i + mid = left + right ∧
  Rng f lo i ∧ (∀ p l, lo ≤ p → p < i → left ≤ l → l < mid → f p ≤ s l) ∧ (∀ p r, lo ≤ p → p < i → right ≤ r → r < hi → f p ≤ f r) ∧ Rng s left mid ∧ Rng f right hi
def MC (f s f0 : Nat → Int32) (lo mid hi left right i : Nat) : Prop := (∀ x, sg f x lo (i - lo) + sg s x left (mid - left) + sg f x right (hi - right) = sg f0 x lo (hi - lo)) ∧ ∀ j, j < lo ∨ hi ≤ j → f j = f0 j
theorem MC_A {f s f0 : Nat → Int32} {lo mid hi left right i : Nat} (M : MI f s lo mid hi left right i) (C : MC f s f0 lo mid hi left right i) (hl : left < mid) (hr : right < hi) : MC (upd f i (f right)) s f0 lo mid hi left (right + 1) (i + 1) := by
  obtain ⟨a1, a2, a3, a4, a5, _⟩ := M
  refine ⟨fun x => ?_, fun j hj => by rw [upd_ne (by omega)]; exact C.2 j hj⟩
  have h := C.1 x
  rw [show i + 1 - lo = (i - lo) + 1 by omega, sg_end, show lo + (i - lo) = i by omega, upd_at, sg_c (g := f) (i - lo) lo (fun j j1 j2 => upd_ne (by omega)), sg_c (f := upd f i (f right)) (g := f) (hi - (right + 1)) (right + 1) (fun j j1 j2 => upd_ne (by omega))]
  rw [show hi - right = (hi - (right + 1)) + 1 by omega] at h
  have e : sg f x right (hi - (right + 1) + 1) = (if f right = x then 1 else 0) + sg f x (right + 1) (hi - (right + 1)) := rfl
  rw [e] at h
  omega
theorem MC_B {f s f0 : Nat → Int32} {lo mid hi left right i : Nat} (M : MI f s lo mid hi left right i) (C : MC f s f0 lo mid hi left right i) (hl : left < mid) : MC (upd f i (s left)) s f0 lo mid hi (left + 1) right (i + 1) := by
  obtain ⟨a1, a2, a3, a4, a5, _⟩ := M
  refine ⟨fun x => ?_, fun j hj => by rw [upd_ne (by omega)]; exact C.2 j hj⟩
  have h := C.1 x
  rw [show i + 1 - lo = (i - lo) + 1 by omega, sg_end, show lo + (i - lo) = i by omega, upd_at, sg_c (g := f) (i - lo) lo (fun j j1 j2 => upd_ne (by omega)), sg_c (f := upd f i (s left)) (g := f) (hi - right) right (fun j j1 j2 => upd_ne (by omega))]
  rw [show mid - left = (mid - (left + 1)) + 1 by omega] at h
  have e : sg s x left (mid - (left + 1) + 1) = (if s left = x then 1 else 0) + sg s x (left + 1) (mid - (left + 1)) := rfl
  rw [e] at h
  omega
theorem MI_A {f s : Nat → Int32} {lo mid hi left right i : Nat} (M : MI f s lo mid hi left right i) (hl : left < mid) (hr : right < hi) (h : f right < s left) : MI (upd f i (f right)) s lo mid hi left (right + 1) (i + 1) := by
  obtain ⟨a1, a2, a3, a4, a5, b1, b2, b3, b4, b5⟩ := M
  refine ⟨a1, a2, by omega, by omega, by omega, ?_, ?_, ?_, b4, ?_⟩
  · intro p q h1 h2 h3
    by_cases qi : q = i
    · subst qi
      rw [upd_at]
      by_cases pi : p = q
      · subst pi; rw [upd_at]; exact Int32.le_refl _
      · rw [upd_ne pi]; exact b3 p right h1 (by omega) (Nat.le_refl _) hr
    · rw [upd_ne qi, upd_ne (by omega)]; exact b1 p q h1 h2 (by omega)
  · intro p l h1 h2 h3 h4
    by_cases pi : p = i
    · subst pi; rw [upd_at]; exact Int32.le_trans (Int32.le_of_lt h) (b4 left l (Nat.le_refl _) h3 h4)
    · rw [upd_ne pi]; exact b2 p l h1 (by omega) h3 h4
  · intro p r h1 h2 h3 h4
    rw [upd_ne (k := i) (j := r) (by omega)]
    by_cases pi : p = i
    · subst pi; rw [upd_at]; exact b5 right r (Nat.le_refl _) (by omega) h4
    · rw [upd_ne pi]; exact b3 p r h1 (by omega) (by omega) h4
  · intro p q h1 h2 h3
    rw [upd_ne (by omega), upd_ne (by omega)]; exact b5 p q (by omega) h2 h3
theorem MI_B {f s : Nat → Int32} {lo mid hi left right i : Nat} (M : MI f s lo mid hi left right i) (hl : left < mid) (h : right < hi → s left ≤ f right) : MI (upd f i (s left)) s lo mid hi (left + 1) right (i + 1) := by
  obtain ⟨a1, a2, a3, a4, a5, b1, b2, b3, b4, b5⟩ := M
  refine ⟨by omega, by omega, by omega, by omega, by omega, ?_, ?_, ?_, ?_, ?_⟩
  · intro p q h1 h2 h3
    by_cases qi : q = i
    · subst qi
      rw [upd_at]
      by_cases pi : p = q
      · subst pi; rw [upd_at]; exact Int32.le_refl _
      · rw [upd_ne pi]; exact b2 p left h1 (by omega) (Nat.le_refl _) hl
    · rw [upd_ne qi, upd_ne (by omega)]; exact b1 p q h1 h2 (by omega)
  · intro p l h1 h2 h3 h4
    by_cases pi : p = i
    · subst pi; rw [upd_at]; exact b4 left l (Nat.le_refl _) (by omega) h4
    · rw [upd_ne pi]; exact b2 p l h1 (by omega) (by omega) h4
  · intro p r h1 h2 h3 h4
    rw [upd_ne (k := i) (j := r) (by omega)]
    by_cases pi : p = i
    · subst pi; rw [upd_at]; exact Int32.le_trans (h (by omega)) (b5 right r (Nat.le_refl _) h3 h4)
    · rw [upd_ne pi]; exact b3 p r h1 (by omega) h3 h4
  · intro p q h1 h2 h3; exact b4 p q (by omega) h2 h3
  · intro p q h1 h2 h3
    rw [upd_ne (by omega), upd_ne (by omega)]; exact b5 p q h1 h2 h3
theorem merge43 {n lo mid hi : Nat} {f0 s : Nat → Int32} {X : zS → zF Unit} {st : zS} (hh : hi ≤ 4096) (hs : st 7 = s) : ∀ (q left right i : Nat) (f : Nat → Int32), hi - i < q → MI f s lo mid hi left right i → MC f s f0 lo mid hi left right i →
    ∃ f', fX2_mergeInNext_43 n X q (nI mid) (nI hi) (nI left) (nI right) (nI i) (upA st 6 f) = X (upA st 6 f') ∧ Rng f' lo hi ∧ (∀ x, sg f' x lo (hi - lo) = sg f0 x lo (hi - lo)) ∧ ∀ j, j < lo ∨ hi ≤ j → f' j = f0 j := by
  have h6 := al_6
  have h7 := al_7
  have fin : ∀ (left right i : Nat) (f : Nat → Int32), left = mid → MI f s lo mid hi left right i → MC f s f0 lo mid hi left right i → Rng f lo hi ∧ (∀ x, sg f x lo (hi - lo) = sg f0 x lo (hi - lo)) ∧ ∀ j, j < lo ∨ hi ≤ j → f j = f0 j := by
    intro left right i f e M C
    obtain ⟨a1, a2, a3, a4, a5, b1, b2, b3, b4, b5⟩ := M
    refine ⟨fun p q h1 h2 h3 => ?_, fun x => ?_, C.2⟩
    · by_cases qi : q < i
      · exact b1 p q h1 h2 qi
      · by_cases pi : p < i
        · exact b3 p q h1 pi (by omega) h3
        · exact b5 p q (by omega) h2 h3
    · have h := C.1 x
      rw [e, Nat.sub_self, show i = right by omega] at h
      have e1 : sg s x mid 0 = 0 := rfl
      have c1 := cnt_sg (f := f) (x := x) lo (right - lo)
      have c2 := cnt_sg (f := f) (x := x) right (hi - right)
      have c3 := cnt_sg (f := f) (x := x) lo (hi - lo)
      rw [show lo + (right - lo) = right by omega] at c1
      rw [show right + (hi - right) = hi by omega] at c2
      rw [show lo + (hi - lo) = hi by omega] at c3
      omega
  intro q
  induction q with
  | zero => intro left right i f h; omega
  | succ q ih =>
    intro left right i f hq M C
    have M' := M
    obtain ⟨a1, a2, a3, a4, a5, -⟩ := M'
    by_cases c1 : hi ≤ i
    · refine ⟨f, ?_, fin left right i f (by omega) M C⟩
      rw [fX2_mergeInNext_43, if_pos (by rw [nle (by omega) (by omega)]; exact c1)]
    · by_cases c2 : mid ≤ left
      · refine ⟨f, ?_, fin left right i f (by omega) M C⟩
        rw [fX2_mergeInNext_43, if_neg (by rw [nle (by omega) (by omega)]; exact c1), if_pos (by rw [nle (by omega) (by omega)]; exact c2)]
      · have takeB : (right < hi → s left ≤ f right) → ∃ f', fX2_mergeInNext_98 n (fun (i2 : Int32) (i3 : Int32) (i4 : Int32) (i5 : Int32) (i6 : Int32) (st : zS) => fX2_mergeInNext_43 n X q i2 i3 i4 i5 i6 st) (nI mid) (nI hi) (nI left) (nI right) (nI i) (upA st 6 f) = X (upA st 6 f') ∧ Rng f' lo hi ∧ (∀ x, sg f' x lo (hi - lo) = sg f0 x lo (hi - lo)) ∧ ∀ j, j < lo ∨ hi ≤ j → f' j = f0 j := by
          intro h
          obtain ⟨f', g1, g2⟩ := ih (left + 1) right (i + 1) (upd f i (s left)) (by omega) (MI_B M (by omega) h) (MC_B M C (by omega))
          refine ⟨f', ?_, g2⟩
          unfold fX2_mergeInNext_98
          rw [if_pos ((inb_nI (by omega)).mpr (by omega)), if_pos ((inb_nI (by omega)).mpr (by omega)), zl_s, ncl (by omega), ncl (by omega), upA_s, upA_uu, upA_n (by decide), hs, li1, nad, nad]
          exact g1
        by_cases c3 : hi ≤ right
        · obtain ⟨f', g1, g2⟩ := takeB (fun z => by omega)
          refine ⟨f', ?_, g2⟩
          rw [fX2_mergeInNext_43, if_neg (by rw [nle (by omega) (by omega)]; exact c1), if_neg (by rw [nle (by omega) (by omega)]; exact c2), if_pos (by rw [nle (by omega) (by omega)]; exact c3), g1]
        · by_cases c4 : s left ≤ f right
          · obtain ⟨f', g1, g2⟩ := takeB (fun _ => c4)
            refine ⟨f', ?_, g2⟩
            rw [fX2_mergeInNext_43, if_neg (by rw [nle (by omega) (by omega)]; exact c1), if_neg (by rw [nle (by omega) (by omega)]; exact c2), if_neg (by rw [nle (by omega) (by omega)]; exact c3), if_pos ((inb_nI (by omega)).mpr (by omega)), if_pos ((inb_nI (by omega)).mpr (by omega)), ncl (by omega), ncl (by omega), upA_s, upA_n (k := 7) (by decide), hs, if_pos c4, g1]
          · obtain ⟨f', g1, g2⟩ := ih left (right + 1) (i + 1) (upd f i (f right)) (by omega) (MI_A M (by omega) (by omega) (Int32.not_le.mp c4)) (MC_A M C (by omega) (by omega))
            refine ⟨f', ?_, g2⟩
            rw [fX2_mergeInNext_43, if_neg (by rw [nle (by omega) (by omega)]; exact c1), if_neg (by rw [nle (by omega) (by omega)]; exact c2), if_neg (by rw [nle (by omega) (by omega)]; exact c3), if_pos ((inb_nI (by omega)).mpr (by omega)), if_pos ((inb_nI (by omega)).mpr (by omega)), ncl (show left < 2147483648 by omega), ncl (show right < 2147483648 by omega), upA_s, upA_n (k := 7) (by decide), hs, if_neg c4, if_pos ((inb_nI (by omega)).mpr (by omega)), if_pos ((inb_nI (by omega)).mpr (by omega)), zl_s, ncl (by omega), upA_uu, li1, nad, nad, g1]
