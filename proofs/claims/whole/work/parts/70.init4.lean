/-! constructors: SharedLeaves -/
theorem va_D1 {A : Nat → Prop} {q : Nat} {e : va_E} (h : A q) : va_D A [(q, e)] := by
  refine ⟨fun i j p p' hi hj _ => ?_, fun k p hk => ?_⟩
  · have hi2 := (List.getElem?_eq_some_iff.mp hi).1
    have hj2 := (List.getElem?_eq_some_iff.mp hj).1
    simp at hi2 hj2
    omega
  · have hk2 := (List.getElem?_eq_some_iff.mp hk).1
    simp at hk2
    subst hk2
    cases hk
    exact h
theorem va_glue {D : va_G} {cl : List vw_C} {A : Nat → Prop} {wr w1 : va_W} {q : Nat} {e : va_E} {H H1 : Heap} (hP : va_P D cl (wr ++ [(q, e)]) H) (hD : va_D A (wr ++ [(q, e)])) (hk : ∀ x : Nat, x < H.size → ¬ va_A [(q, e)] H.size x → H1[x]? = H[x]?) (hF : ∀ x, va_A [(q, e)] H.size x → A x) (hP1 : va_P D cl w1 H1) (hD1 : va_D (va_A [(q, e)] H.size) w1) : va_P D cl (wr ++ w1) H1 ∧ va_D A (wr ++ w1) := by
  have hat : ∀ (i : Nat) (p : Nat × va_E), wr[i]? = some p → (wr ++ [(q, e)])[i]? = some p := fun i p hi => by
    rw [List.getElem?_append_left (List.getElem?_eq_some_iff.mp hi).1]; exact hi
  have hlast : (wr ++ [(q, e)])[wr.length]? = some (q, e) := by rw [List.getElem?_append_right (Nat.le_refl _), Nat.sub_self]; rfl
  have hno : ∀ (i : Nat) (p : Nat × va_E), wr[i]? = some p → ¬ va_A [(q, e)] H.size p.1 := by
    intro i p hi h
    rcases h with ⟨k, e', h⟩ | h
    · have hk2 := (List.getElem?_eq_some_iff.mp h).1
      simp at hk2
      subst hk2
      cases h
      have := hD.1 i wr.length p (p.1, e) (hat i p hi) hlast rfl
      have := (List.getElem?_eq_some_iff.mp hi).1
      omega
    · have := (hP i p (hat i p hi)).lt
      omega
  refine ⟨va_P.app (fun k p hk' => (hP k p (hat k p hk')).kept (hk p.1 ((hP k p (hat k p hk')).lt) (hno k p hk'))) hP1, va_D.app ⟨fun i j p p' hi hj he => hD.1 i j p p' (hat i p hi) (hat j p' hj) he, fun k p hk' => hD.2 k p (hat k p hk')⟩ (hD1.weaken (fun _ _ _ h => hF _ h)) (fun i j p p' hi hj he => ?_)⟩
  exact hno i p hi (by rw [he]; exact hD1.2 j p' hj)
theorem va_free1 {A : Nat → Prop} {wr : va_W} {q : Nat} {e : va_E} {H0 H : Heap} {locs : List Loc} (hD : va_D A (wr ++ [(q, e)])) (hS : va_S A H0 H locs) (hA : ∀ x, H0.size ≤ x → A x) : ∀ x, va_A [(q, e)] H.size x → A x := by
  intro x h
  rcases h with ⟨k, e', h⟩ | h
  · have hk2 := (List.getElem?_eq_some_iff.mp h).1
    simp at hk2
    subst hk2
    cases h
    exact hD.2 wr.length (_, e) (by rw [List.getElem?_append_right (Nat.le_refl _), Nat.sub_self]; rfl)
  · exact hA x (Nat.le_trans hS.1 h)
theorem va_P1 {D : va_G} {cl : List vw_C} {wr : va_W} {q : Nat} {e : va_E} {H : Heap} (hP : va_P D cl (wr ++ [(q, e)]) H) : va_P D cl [(q, e)] H := by
  intro k p hk
  have hk2 := (List.getElem?_eq_some_iff.mp hk).1
  simp at hk2
  subst hk2
  cases hk
  exact hP wr.length (q, e) (by rw [List.getElem?_append_right (Nat.le_refl _), Nat.sub_self]; rfl)
/-- the rows that are made -/
def plR (cI : ClassId) (ra pa na : Nat → Nat) (mf : Nat → Nat → Int32) : Nat → va_W
  | 0 => []
  | i + 1 => plR cI ra pa na mf i ++ [(ra i, .inr (1, [.ref (pa i), .ref (na i), .int 0, .int 0])), (pa i, .inl (cI, 256, .inl (mf i))), (na i, .inl (cI, 256, .inl (fun _ => 0)))]
theorem plR_len {cI : ClassId} {ra pa na : Nat → Nat} {mf : Nat → Nat → Int32} : ∀ i, (plR cI ra pa na mf i).length = 3 * i := by
  intro i
  induction i with
  | zero => rfl
  | succ i ih => rw [plR, List.length_append, ih]; simp; omega
theorem plR_c {cI : ClassId} {ra pa na ra' pa' na' : Nat → Nat} {mf mf' : Nat → Nat → Int32} : ∀ i, (∀ j, j < i → ra' j = ra j ∧ pa' j = pa j ∧ na' j = na j ∧ mf' j = mf j) → plR cI ra' pa' na' mf' i = plR cI ra pa na mf i := by
  intro i
  induction i with
  | zero => intro _; rfl
  | succ i ih =>
    intro h
    obtain ⟨h1, h2, h3, h4⟩ := h i (by omega)
    rw [plR, plR, ih (fun j hj => h j (by omega)), h1, h2, h3, h4]
theorem plR_at {cI : ClassId} {ra pa na : Nat → Nat} {mf : Nat → Nat → Int32} : ∀ i j, j < i → (plR cI ra pa na mf i)[3 * j]? = some (ra j, .inr (1, [.ref (pa j), .ref (na j), .int 0, .int 0])) ∧ (plR cI ra pa na mf i)[3 * j + 1]? = some (pa j, .inl (cI, 256, .inl (mf j))) ∧ (plR cI ra pa na mf i)[3 * j + 2]? = some (na j, .inl (cI, 256, .inl (fun _ => 0))) := by
  intro i
  induction i with
  | zero => intro j h; omega
  | succ i ih =>
    intro j h
    have hl := plR_len (cI := cI) (ra := ra) (pa := pa) (na := na) (mf := mf) i
    by_cases e : j = i
    · subst e
      rw [plR, List.getElem?_append_right (by omega), List.getElem?_append_right (by omega), List.getElem?_append_right (by omega), hl, show 3 * j - 3 * j = 0 by omega, show 3 * j + 1 - 3 * j = 1 by omega, show 3 * j + 2 - 3 * j = 2 by omega]
      exact ⟨rfl, rfl, rfl⟩
    · rw [plR, List.getElem?_append_left (by omega), List.getElem?_append_left (by omega), List.getElem?_append_left (by omega)]
      exact ih j (by omega)
def upN (f : Nat → Nat) (i x : Nat) : Nat → Nat := fun j => if j = i then x else f j
def upM (f : Nat → Nat → Int32) (i : Nat) (x : Nat → Int32) : Nat → Nat → Int32 := fun j => if j = i then x else f j
/-- how the class's contents begin -/
def Ini (st : zS) : Prop := st 2 3 = nI 512 ∧ st 2 4 = nI 0 ∧ (∀ a, a < 16 → st (9 + a) 2 = 0 ∧ st (9 + a) 3 = 0 ∧ ∀ k, k < 256 → st (9 + a + 16) k = M1) ∧ (∀ j, j < 512 → st 5 j = nI j ∧ st 4 j = 0)
abbrev wS0 (q0 : Nat) : va_W := [(q0, .inr (2, [.null, .null, .null, .null, .null]))]
abbrev wS9 (cI cR : ClassId) (q0 r b0 b1 b2 b3 x1 x2 x3 : Nat) (fr : Nat → Int32) (f : Nat → Option Nat) : va_W := [(q0, .inr (2, [.ref r, .ref b0, .ref x1, .ref x2, .ref x3])), (r, .inl (cR, 16, .inr (.inr (.inr (.inr f))))), (b0, .inr (0, [.ref b1, .ref b2, .ref b3, .int (nI 512), .int 0])), (b1, .inl (cI, 8192, .inl (fun _ => 0))), (b2, .inl (cI, 512, .inl (fun _ => 0))), (b3, .inl (cI, 512, .inl fr)), (x1, .inl (cI, 4096, .inl (fun _ => 0))), (x2, .inl (cI, 4096, .inl (fun _ => 0))), (x3, .inl (cI, 256, .inl (fun _ => 0)))]
def adS (q0 r b0 b1 b2 b3 x1 x2 x3 : Nat) (ra pa na : Nat → Nat) (k : Nat) : Nat := if k = 0 then q0 else if k = 1 then r else if k = 2 then b0 else if k = 3 then b1 else if k = 4 then b2 else if k = 5 then b3 else if k = 6 then x1 else if k = 7 then x2 else if k = 8 then x3 else if k < 25 then ra (k - 9) else if k < 41 then pa (k - 25) else na (k - 41)
def stS (fr : Nat → Int32) (mf : Nat → Nat → Int32) : zS := fun k j => if k = 2 then (if j = 3 then nI 512 else 0) else if k = 5 then fr j else if 25 ≤ k ∧ k < 41 then mf (k - 25) j else 0
def ixS (k : Nat) : Nat := if k < 9 then k else if k < 25 then 9 + 3 * (k - 9) else if k < 41 then 9 + (3 * (k - 25) + 1) else 9 + (3 * (k - 41) + 2)
theorem adS_at {cI cR : ClassId} {q0 r b0 b1 b2 b3 x1 x2 x3 : Nat} {fr : Nat → Int32} {f : Nat → Option Nat} {ra pa na : Nat → Nat} {mf : Nat → Nat → Int32} (k : Nat) (hk : k < 57) :
    ∃ e, (wS9 cI cR q0 r b0 b1 b2 b3 x1 x2 x3 fr f ++ plR cI ra pa na mf 16)[ixS k]? = some (adS q0 r b0 b1 b2 b3 x1 x2 x3 ra pa na k, e) ∧ (k ≠ 1 → e = sce cI cR (adS q0 r b0 b1 b2 b3 x1 x2 x3 ra pa na) (stS fr mf) k) ∧ (k = 1 → e = .inl (cR, 16, .inr (.inr (.inr (.inr f))))) := by
  have hlen : (wS9 cI cR q0 r b0 b1 b2 b3 x1 x2 x3 fr f).length = 9 := rfl
  by_cases h9 : k < 9
  · have : k = 0 ∨ k = 1 ∨ k = 2 ∨ k = 3 ∨ k = 4 ∨ k = 5 ∨ k = 6 ∨ k = 7 ∨ k = 8 := by omega
    rcases this with rfl | rfl | rfl | rfl | rfl | rfl | rfl | rfl | rfl
    · exact ⟨_, rfl, fun _ => rfl, fun z => by cases z⟩
    · exact ⟨_, rfl, fun z => absurd rfl z, fun _ => rfl⟩
    all_goals exact ⟨_, rfl, fun _ => rfl, fun z => by cases z⟩
  · by_cases h25 : k < 25
    · obtain ⟨p1, -, -⟩ := plR_at (cI := cI) (ra := ra) (pa := pa) (na := na) (mf := mf) 16 (k - 9) (by omega)
      refine ⟨.inr (1, [.ref (pa (k - 9)), .ref (na (k - 9)), .int 0, .int 0]), ?_, fun _ => ?_, fun z => by omega⟩
      · unfold ixS adS
        rw [if_neg h9, if_pos h25, List.getElem?_append_right (by rw [hlen]; omega), hlen, show 9 + 3 * (k - 9) - 9 = 3 * (k - 9) by omega, p1, if_neg (by omega), if_neg (by omega), if_neg (by omega), if_neg (by omega), if_neg (by omega), if_neg (by omega), if_neg (by omega), if_neg (by omega), if_neg (by omega), if_pos h25]
      · rw [sce_row ⟨by omega, h25⟩]
        have a1 : adS q0 r b0 b1 b2 b3 x1 x2 x3 ra pa na (k + 16) = pa (k - 9) := by unfold adS; rw [if_neg (by omega), if_neg (by omega), if_neg (by omega), if_neg (by omega), if_neg (by omega), if_neg (by omega), if_neg (by omega), if_neg (by omega), if_neg (by omega), if_neg (by omega), if_pos (by omega), show k + 16 - 25 = k - 9 by omega]
        have a2 : adS q0 r b0 b1 b2 b3 x1 x2 x3 ra pa na (k + 32) = na (k - 9) := by unfold adS; rw [if_neg (by omega), if_neg (by omega), if_neg (by omega), if_neg (by omega), if_neg (by omega), if_neg (by omega), if_neg (by omega), if_neg (by omega), if_neg (by omega), if_neg (by omega), if_neg (by omega), show k + 32 - 41 = k - 9 by omega]
        have a3 : ∀ j, stS fr mf k j = 0 := fun j => by unfold stS; rw [if_neg (by omega), if_neg (by omega), if_neg (by omega)]
        rw [a1, a2, a3, a3]
    · by_cases h41 : k < 41
      · obtain ⟨-, p1, -⟩ := plR_at (cI := cI) (ra := ra) (pa := pa) (na := na) (mf := mf) 16 (k - 25) (by omega)
        refine ⟨.inl (cI, 256, .inl (mf (k - 25))), ?_, fun _ => ?_, fun z => by omega⟩
        · unfold ixS adS
          rw [if_neg h9, if_neg h25, if_pos h41, List.getElem?_append_right (by rw [hlen]; omega), hlen, show 9 + (3 * (k - 25) + 1) - 9 = 3 * (k - 25) + 1 by omega, p1, if_neg (by omega), if_neg (by omega), if_neg (by omega), if_neg (by omega), if_neg (by omega), if_neg (by omega), if_neg (by omega), if_neg (by omega), if_neg (by omega), if_neg h25, if_pos h41]
        · rw [sce_arr (Or.inr ⟨by omega, by omega⟩)]
          have a3 : stS fr mf k = mf (k - 25) := by funext j; unfold stS; rw [if_neg (by omega), if_neg (by omega), if_pos (by omega)]
          have a4 : al k = 256 := by unfold al; rw [if_neg (by omega), if_neg (by omega), if_neg (by omega)]
          rw [a3, a4]
      · obtain ⟨-, -, p1⟩ := plR_at (cI := cI) (ra := ra) (pa := pa) (na := na) (mf := mf) 16 (k - 41) (by omega)
        refine ⟨.inl (cI, 256, .inl (fun _ => 0)), ?_, fun _ => ?_, fun z => by omega⟩
        · unfold ixS adS
          rw [if_neg h9, if_neg h25, if_neg h41, List.getElem?_append_right (by rw [hlen]; omega), hlen, show 9 + (3 * (k - 41) + 2) - 9 = 3 * (k - 41) + 2 by omega, p1, if_neg (by omega), if_neg (by omega), if_neg (by omega), if_neg (by omega), if_neg (by omega), if_neg (by omega), if_neg (by omega), if_neg (by omega), if_neg (by omega), if_neg h25, if_neg h41]
        · rw [sce_arr (Or.inr ⟨by omega, by omega⟩)]
          have a3 : stS fr mf k = fun _ => 0 := by funext j; unfold stS; rw [if_neg (by omega), if_neg (by omega), if_neg (by omega)]
          have a4 : al k = 256 := by unfold al; rw [if_neg (by omega), if_neg (by omega), if_neg (by omega)]
          rw [a3, a4]
theorem adS_ix {k k' : Nat} (h1 : k < 57) (h2 : k' < 57) (e : ixS k = ixS k') : k = k' := by
  unfold ixS at e
  repeat' (split at e)
  all_goals omega
theorem arrV_c {cA : ClassId} {n : Nat} {f g : Nat → Option Nat} (h : ∀ j, j < n → f j = g j) : vp_cell cA (n, .inr (.inr (.inr (.inr f)))) = vp_cell cA (n, .inr (.inr (.inr (.inr g)))) := by
  rw [vp_cell_q, vp_cell_q]
  unfold arrV
  congr 1
  apply Array.ext
  · simp
  · intro i h1 h2
    simp at h1 h2 ⊢
    rw [h i h1]
theorem adS_P {D : va_G} {A : Nat → Prop} {cI cR : ClassId} {q0 r b0 b1 b2 b3 x1 x2 x3 : Nat} {fr : Nat → Int32} {f : Nat → Option Nat} {ra pa na : Nat → Nat} {mf : Nat → Nat → Int32} {H : Heap} (hf : ∀ j, j < 16 → f j = some (ra j)) (hP : va_P D zcl (wS9 cI cR q0 r b0 b1 b2 b3 x1 x2 x3 fr f ++ plR cI ra pa na mf 16) H) (hD : va_D A (wS9 cI cR q0 r b0 b1 b2 b3 x1 x2 x3 fr f ++ plR cI ra pa na mf 16)) :
    va_P D zcl (zw 57 (adS q0 r b0 b1 b2 b3 x1 x2 x3 ra pa na) (sce cI cR (adS q0 r b0 b1 b2 b3 x1 x2 x3 ra pa na) (stS fr mf))) H ∧ va_D A (zw 57 (adS q0 r b0 b1 b2 b3 x1 x2 x3 ra pa na) (sce cI cR (adS q0 r b0 b1 b2 b3 x1 x2 x3 ra pa na) (stS fr mf))) := by
  refine ⟨fun k q hk => ?_, fun i j p q hi hj e => ?_, fun k q hk => ?_⟩
  · obtain ⟨h1, rfl⟩ := zw_inv hk
    obtain ⟨e, e1, e2, e3⟩ := adS_at (cI := cI) (cR := cR) (q0 := q0) (r := r) (b0 := b0) (b1 := b1) (b2 := b2) (b3 := b3) (x1 := x1) (x2 := x2) (x3 := x3) (fr := fr) (f := f) (ra := ra) (pa := pa) (na := na) (mf := mf) k h1
    have h := hP _ _ e1
    by_cases c : k = 1
    · subst c
      rw [e3 rfl] at h
      show H[adS q0 r b0 b1 b2 b3 x1 x2 x3 ra pa na 1]? = some (vp_cell cR (16, .inr (.inr (.inr (.inr (fun j => some (adS q0 r b0 b1 b2 b3 x1 x2 x3 ra pa na (9 + j))))))))
      rw [← arrV_c (f := f) (fun j hj => ?_)]
      · exact h
      · rw [hf j hj]
        unfold adS
        rw [if_neg (by omega), if_neg (by omega), if_neg (by omega), if_neg (by omega), if_neg (by omega), if_neg (by omega), if_neg (by omega), if_neg (by omega), if_neg (by omega), if_pos (by omega), show 9 + j - 9 = j by omega]
    · rw [← e2 c]; exact h
  · obtain ⟨h1, rfl⟩ := zw_inv hi
    obtain ⟨h2, rfl⟩ := zw_inv hj
    obtain ⟨_, e1, -⟩ := adS_at (cI := cI) (cR := cR) (q0 := q0) (r := r) (b0 := b0) (b1 := b1) (b2 := b2) (b3 := b3) (x1 := x1) (x2 := x2) (x3 := x3) (fr := fr) (f := f) (ra := ra) (pa := pa) (na := na) (mf := mf) i h1
    obtain ⟨_, e2, -⟩ := adS_at (cI := cI) (cR := cR) (q0 := q0) (r := r) (b0 := b0) (b1 := b1) (b2 := b2) (b3 := b3) (x1 := x1) (x2 := x2) (x3 := x3) (fr := fr) (f := f) (ra := ra) (pa := pa) (na := na) (mf := mf) j h2
    exact adS_ix h1 h2 (hD.1 _ _ _ _ e1 e2 e)
  · obtain ⟨h1, rfl⟩ := zw_inv hk
    obtain ⟨_, e1, -⟩ := adS_at (cI := cI) (cR := cR) (q0 := q0) (r := r) (b0 := b0) (b1 := b1) (b2 := b2) (b3 := b3) (x1 := x1) (x2 := x2) (x3 := x3) (fr := fr) (f := f) (ra := ra) (pa := pa) (na := na) (mf := mf) k h1
    have h := hD.2 _ _ e1
    exact h
theorem stS_ini {fr : Nat → Int32} {mf : Nat → Nat → Int32} (h1 : ∀ j, j < 512 → fr j = nI j) (h2 : ∀ a, a < 16 → ∀ k, k < 256 → mf a k = M1) : Ini (stS fr mf) := by
  refine ⟨rfl, rfl, fun a ha => ⟨?_, ?_, fun k hk => ?_⟩, fun j hj => ⟨?_, rfl⟩⟩
  · unfold stS; rw [if_neg (by omega), if_neg (by omega), if_neg (by omega)]
  · unfold stS; rw [if_neg (by omega), if_neg (by omega), if_neg (by omega)]
  · unfold stS; rw [if_neg (by omega), if_neg (by omega), if_pos (by omega), show 9 + a + 16 - 25 = a by omega]; exact h2 a ha k hk
  · exact h1 j hj
