/-! calls that never throw -/
def NT {α : Type} (F : zF α) : Prop := ∀ (b : Bool) (u : zS), F ≠ some (.inr b, u)
theorem NT_n {α : Type} : NT (none : zF α) := fun _ _ z => by cases z
theorem NT_l {α : Type} {v : α} {u : zS} : NT (some (.inl v, u) : zF α) := fun _ _ z => by cases z
theorem NT_b {α β : Type} {F : zF α} {K : α → zS → zF β} (h : NT F) (hk : ∀ v u, NT (K v u)) : NT (zb F K) := by
  match F, h with
  | none, _ => exact NT_n
  | some (.inl v, u), _ => exact hk v u
  | some (.inr b, u), h => exact absurd rfl (h b u)
theorem NT_i {α : Type} {c : Prop} [Decidable c] {A B : zF α} (h1 : NT A) (h2 : NT B) : NT (if c then A else B) := by split; exact h1; exact h2
theorem NT_z {α β : Type} {x : α} {K : α → zF β} (h : NT (K x)) : NT (zl x K) := h
theorem NT_it {n : Nat} {a : Int32} {st : zS} : NT (fX2_isThere n a st) := by
  unfold fX2_isThere
  exact NT_i NT_l (NT_i NT_l (NT_i (NT_i NT_l NT_l) NT_n))
theorem NT_lf {n : Nat} {a : Int32} {st : zS} : NT (fX2_leavesFor n a st) := NT_l
theorem NT_lc {n r : Nat} {st : zS} : NT (fX1_leafCount n r st) := NT_b NT_lf (fun _ _ => NT_l)
theorem NT_ilt {n : Nat} {a b : Int32} {st : zS} : NT (fX2_isLeafThere n a b st) := by
  unfold fX2_isLeafThere
  exact NT_b NT_it (fun _ _ => NT_i NT_l (NT_i NT_l (NT_i (NT_b NT_lc (fun _ _ => NT_i NT_l NT_l)) NT_n)))
theorem NT_is {n : Nat} {a : Int32} {st : zS} : NT (fX0_isShared n a st) := by
  unfold fX0_isShared
  exact NT_i (NT_i NT_l NT_l) NT_n
theorem NT_dh {n : Nat} {a : Int32} {st : zS} : NT (fX0_dropHolder n a st) := by
  unfold fX0_dropHolder
  exact NT_i (NT_i (NT_z (NT_i (NT_i (NT_i (NT_z (NT_z NT_l)) NT_n) NT_l) NT_n)) NT_n) NT_n
theorem NT_lg {n : Nat} {a : Int32} {st : zS} : NT (fX2_letGo n a st) := by
  unfold fX2_letGo
  repeat' (first | exact NT_n | exact NT_l | exact NT_dh | apply NT_i | (apply NT_b; rotate_left; intro _ _) | apply NT_z)
theorem NT_sc {n r : Nat} {a b : Int32} {st : zS} : NT (fX2_setConstant n r a b st) := by
  unfold fX2_setConstant
  exact NT_i (NT_b NT_lg (fun _ _ => NT_i (NT_z (NT_i (NT_z NT_l) NT_n)) NT_n)) NT_n
theorem NT_r19 {n : Nat} : ∀ (k r : Nat) (i : Int32) (st : zS), NT (fX2_release_19 n (fun (r2 : Nat) (st : zS) => (zl (upA st r2 (upd (st r2) 2 (0 : Int32))) (fun (s13 : zS) => some (.inl (1 : Int32), s13)))) k r i st) := by
  intro k
  induction k with
  | zero => intro r i st; exact NT_n
  | succ k ih =>
    intro r i st
    rw [fX2_release_19]
    exact NT_b NT_lc (fun _ _ => NT_i (NT_z NT_l) (NT_b NT_sc (fun _ _ => ih _ _ _)))
theorem NT_release {n : Nat} {a : Int32} {st : zS} : NT (fX2_release n a st) := by
  unfold fX2_release
  exact NT_b NT_it (fun _ _ => NT_i NT_l (NT_i (NT_r19 _ _ _ _) NT_n))
theorem NT_length {n : Nat} {a : Int32} {st : zS} : NT (fX2_length n a st) := by
  unfold fX2_length
  exact NT_b NT_it (fun _ _ => NT_i NT_l (NT_i NT_l NT_n))
theorem NT_used {n : Nat} {st : zS} : NT (fX2_used n st) := NT_l
theorem NT_made {n : Nat} {st : zS} : NT (fX2_made n st) := NT_l
theorem NT_leaf {n : Nat} {a b : Int32} {st : zS} : NT (fX2_leaf n a b st) := by
  unfold fX2_leaf
  exact NT_b NT_ilt (fun _ _ => NT_i NT_l (NT_i (NT_i (NT_i NT_l (NT_b NT_is (fun _ _ => NT_i NT_l NT_l))) NT_n) NT_n))
theorem NT_alike {n : Nat} {a b c d : Int32} {st : zS} : NT (fX2_alike n a b c d st) := by
  unfold fX2_alike
  exact NT_b NT_ilt (fun _ _ => NT_i NT_l (NT_b NT_ilt (fun _ _ => NT_i NT_l (NT_i (NT_i (NT_i NT_l (NT_i (NT_i (NT_i NT_l NT_l) NT_n) NT_n)) NT_n) NT_n))))
theorem lcmp0 {x y : Int64} (h : x = y) : lg_cmp x y = 0 := by
  subst h
  unfold lg_cmp
  rw [if_neg (Int64.lt_irrefl), if_pos rfl]
theorem updL_at {f : Nat → Int64} {x : Int64} : vp_updL f 0 x 0 = x := if_pos rfl
