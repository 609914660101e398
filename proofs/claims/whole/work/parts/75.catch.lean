/-! the helpers' catches -/
section
variable {p : Program} {l : Launch} {e : Env} {R : Room} {s : State} {m : MethodId} {args : Array Value} {below : List Frame} {meth : Method} {c : Code} {Q : State → Prop} {D : va_G} {cI cR cZ cJ : ClassId} {ad : Nat → Nat} {nL : Nat} {cells slots pc : Nat} {lv lv' : List (Nat × Value)} {rest stk : List Value} {cc : ByteArray} {own : String} {Ts : List Cond} {E : Nat → va_E}
theorem l_catchA (C : zC p s m args meth c cc own Ts D zcl (lty cI cR cZ cJ) 65 ad nL) (hT : lT ad s.heap.size s) {a0 b0 h0 c0 : Nat} {tl : List (Nat × Nat × Nat × Nat)} (htab : c.exceptionTable.toList = tableOf ((a0, b0, h0, c0) :: tl)) (hcov : covers ⟨a0, b0, h0, c0⟩ pc = true) (hc0 : c0 ≠ 0) (hlink : Cond.classLink own c0 "java/lang/IllegalArgumentException" ∈ Ts)
    {H : Heap} {locs : List Loc} {ls : Array Slot} {q : Nat} {ce9 : Cell} (hP : va_P D zcl (zw 65 ad E) H) (hS : va_S (zA 65 ad s.heap.size) s.heap H locs) (hl : lv_has ls nL lv) (h1 : H[q]? = some ce9) (h2 : ce9.vm = .none) (h3 : s.vm.findClass (zexn true) = some ce9.cls)
    (kk : zJ p l e R s m args below meth c Q D zcl 65 ad nL E cells slots h0 lv [.ref q]) : vx_W p l e R s m args below meth c H locs cells slots Q (F0 m pc ls rest) q :=
  vx_catch (own := own) (name := "java/lang/IllegalArgumentException") (E := "java/lang/IllegalArgumentException") C.1.2.2.2.1 [] ⟨a0, b0, h0, c0⟩ (tableOf tl) (by rw [htab]; rfl) (fun z hz => by cases hz) hcov hc0 (C.1.2.2.2.2 _ hlink) (va_Nw.use (sbad_ot _ (List.mem_of_getElem? (i := 0) rfl)) (hT.2.2.2.1 _ (List.mem_of_getElem? (i := 0) rfl))) h1 h2 h3 (kk H locs ls hP hS hl)
theorem l_catchS (C : zC p s m args meth c cc own Ts D zcl (lty cI cR cZ cJ) 65 ad nL) (hT : lT ad s.heap.size s) {a0 b0 h0 c0 a1 b1 h1' c1 : Nat} {tl : List (Nat × Nat × Nat × Nat)} (htab : c.exceptionTable.toList = tableOf ((a0, b0, h0, c0) :: (a1, b1, h1', c1) :: tl)) (hcov : covers ⟨a1, b1, h1', c1⟩ pc = true) (hc0 : c0 ≠ 0) (hc1 : c1 ≠ 0) (hlink0 : Cond.classLink own c0 "java/lang/IllegalArgumentException" ∈ Ts) (hlink : Cond.classLink own c1 "java/lang/IllegalStateException" ∈ Ts)
    {H : Heap} {locs : List Loc} {ls : Array Slot} {q : Nat} {ce9 : Cell} (hP : va_P D zcl (zw 65 ad E) H) (hS : va_S (zA 65 ad s.heap.size) s.heap H locs) (hl : lv_has ls nL lv) (h1 : H[q]? = some ce9) (h2 : ce9.vm = .none) (h3 : s.vm.findClass (zexn false) = some ce9.cls)
    (kk : zJ p l e R s m args below meth c Q D zcl 65 ad nL E cells slots h1' lv [.ref q]) : vx_W p l e R s m args below meth c H locs cells slots Q (F0 m pc ls rest) q :=
  vx_catch (own := own) (name := "java/lang/IllegalStateException") (E := "java/lang/IllegalStateException") C.1.2.2.2.1 [⟨a0, b0, h0, c0⟩] ⟨a1, b1, h1', c1⟩ (tableOf tl) (by rw [htab]; rfl) (fun z hz => by
      rcases List.mem_singleton.mp hz with rfl
      exact Or.inr ⟨hc0, "java/lang/IllegalArgumentException", C.1.2.2.2.2 _ hlink0, hT.2.2.2.2.2⟩) hcov hc1 (C.1.2.2.2.2 _ hlink) (va_Nw.use (sbad_ot _ (List.mem_of_getElem? (i := 1) rfl)) (hT.2.2.2.1 _ (List.mem_of_getElem? (i := 1) rfl))) h1 h2 h3 (kk H locs ls hP hS hl)
end
theorem lce_ne {cI cR cZ cJ : ClassId} {ad : Nat → Nat} {st rt : zS} {o o' : Nat → Int64} (j : Nat) (hj : j < 65) (h : j ≠ 64) : lce cI cR cZ cJ ad st rt o' j = lce cI cR cZ cJ ad st rt o j := by
  unfold lce
  by_cases c : j < 57
  · rw [if_pos c, if_pos c]
  · rw [if_neg c, if_neg c, if_pos (by omega), if_pos (by omega)]
/-! calls that never throw IllegalStateException -/
def NF {α : Type} (F : zF α) : Prop := ∀ u, F ≠ some (.inr false, u)
theorem NF_n {α : Type} : NF (none : zF α) := fun _ z => by cases z
theorem NF_l {α : Type} {v : α} {u : zS} : NF (some (.inl v, u) : zF α) := fun _ z => by cases z
theorem NF_t {α : Type} {u : zS} : NF (some (.inr true, u) : zF α) := fun _ z => by cases z
theorem NF_b {α β : Type} {F : zF α} {K : α → zS → zF β} (h : NF F) (hk : ∀ v u, NF (K v u)) : NF (zb F K) := by
  match F, h with
  | none, _ => exact NF_n
  | some (.inl v, u), _ => exact hk v u
  | some (.inr true, u), _ => exact NF_t
  | some (.inr false, u), h => exact absurd rfl (h u)
theorem NF_i {α : Type} {c : Prop} [Decidable c] {A B : zF α} (h1 : NF A) (h2 : NF B) : NF (if c then A else B) := by split; exact h1; exact h2
theorem NF_z {α β : Type} {x : α} {K : α → zF β} (h : NF (K x)) : NF (zl x K) := h
theorem NF_rc {n : Nat} {a b c : Int32} {st : zS} : NF (fJ7_rangeCheck_23922 n a b c st) := by
  unfold fJ7_rangeCheck_23922
  repeat' (first | exact NF_n | exact NF_l | exact NF_t | apply NF_i | (apply NF_b; rotate_left; intro _ _) | apply NF_z)
theorem NF_f10 {n T : Nat} {b v : Int32} : ∀ (k : Nat) (a : Int32) (st : zS), NF (fJ7_fill_fda19_10 n (fun st => some (.inl (), st)) k T b v a st) := by
  intro k
  induction k with
  | zero => intro a st; exact NF_n
  | succ k ih =>
    intro a st
    rw [fJ7_fill_fda19_10]
    exact NF_i NF_l (NF_i (NF_z (ih _ _)) NF_n)
theorem NF_fill {n T : Nat} {a b v : Int32} {st : zS} : NF (fJ7_fill_fda19 n T a b v st) := by
  unfold fJ7_fill_fda19
  exact NF_b NF_rc (fun _ _ => NF_f10 _ _ _)
theorem NF_lf {n : Nat} {a : Int32} {st : zS} : NF (fX2_leavesFor n a st) := NF_l
theorem NF_read {n T : Nat} {a b c d : Int32} {st : zS} : NF (fX0_read n a b T c d st) := by
  unfold fX0_read
  exact NF_i (NF_z NF_l) NF_n
theorem NF_rv6 {n : Nat} : ∀ (k r : Nat) (i2 i3 : Int32) (r4 : Nat) (i5 i6 : Int32) (st : zS), NF (fX2_readValues_6 n (fun st => some (.inl (), st)) k r i2 i3 r4 i5 i6 st) := by
  intro k
  induction k with
  | zero => intro r i2 i3 r4 i5 i6 st; exact NF_n
  | succ k ih =>
    intro r i2 i3 r4 i5 i6 st
    rw [fX2_readValues_6]
    exact NF_b NF_lf (fun _ _ => NF_i NF_l (NF_i (NF_i (NF_i (NF_b NF_fill (fun _ _ => ih _ _ _ _ _ _ _)) NF_n) (NF_b NF_read (fun _ _ => ih _ _ _ _ _ _ _))) NF_n))
theorem NF_rv {n r r4 : Nat} {a b c : Int32} {st : zS} : NF (fX2_readValues n r a b r4 c st) := NF_rv6 _ _ _ _ _ _ _ _
theorem NF_it {n : Nat} {a : Int32} {st : zS} : NF (fX2_isThere n a st) := by
  unfold fX2_isThere
  exact NF_i NF_l (NF_i NF_l (NF_i (NF_i NF_l NF_l) NF_n))
theorem NF_at {n : Nat} {a : Int32} {st : zS} : NF (fX2_arrayThere n a st) := by
  unfold fX2_arrayThere
  exact NF_b NF_it (fun _ _ => NF_i NF_t (NF_i NF_l NF_n))
theorem NF_ci {n r : Nat} {a : Int32} {st : zS} : NF (fX2_checkIndex n r a st) := by
  unfold fX2_checkIndex
  exact NF_i NF_t (NF_i NF_l NF_t)
theorem NF_cr {n r : Nat} {a b : Int32} {st : zS} : NF (fX2_checkRange n r a b st) := by
  unfold fX2_checkRange
  exact NF_i NF_t (NF_i NF_t (NF_i NF_l NF_t))
theorem NF_va {n : Nat} {a b : Int32} {st : zS} : NF (fX0_valueAt n a b st) := by
  unfold fX0_valueAt
  exact NF_i NF_l NF_n
theorem NF_get {n : Nat} {a b : Int32} {st : zS} : NF (fX2_get n a b st) := by
  unfold fX2_get
  exact NF_b NF_at (fun _ _ => NF_b NF_ci (fun _ _ => NF_i (NF_i (NF_i NF_l NF_n) (NF_b NF_va (fun _ _ => NF_l))) NF_n))
theorem NF_sum3 {n : Nat} : ∀ (k : Nat) (i3 : Int32) (s : Int64) (i : Int32) (st : zS), NF (fX2_sum_33 n (fun (l5 : Int64) (st : zS) => some (.inl l5, st)) k i3 s i st) := by
  intro k
  induction k with
  | zero => intro i3 s i st; exact NF_n
  | succ k ih => intro i3 s i st; rw [fX2_sum_33]; exact NF_i NF_l (NF_i (ih _ _ _ _) NF_n)
theorem NF_sum {n : Nat} {a b c : Int32} {st : zS} : NF (fX2_sum n a b c st) := by
  unfold fX2_sum
  exact NF_b NF_at (fun _ _ => NF_b NF_cr (fun _ _ => NF_b NF_rv (fun _ _ => NF_sum3 _ _ _ _ _)))
theorem NF_bnd {n : Nat} : ∀ (k : Nat) (i3 i4 s i : Int32) (st : zS), NF (fX2_bound_65 n (fun (i6 : Int32) (st : zS) => some (.inl i6, st)) k i3 i4 s i st) := by
  intro k
  induction k with
  | zero => intro i3 i4 s i st; exact NF_n
  | succ k ih => intro i3 i4 s i st; rw [fX2_bound_65]; exact NF_i NF_l (NF_i (NF_i (ih _ _ _ _ _) NF_n) (NF_i (ih _ _ _ _ _) NF_n))
theorem NF_bound {n : Nat} {a b c d : Int32} {st : zS} : NF (fX2_bound n a b c d st) := by
  unfold fX2_bound fX2_bound_35
  exact NF_b NF_at (fun _ _ => NF_b NF_cr (fun _ _ => NF_i (NF_b NF_rv (fun _ _ => NF_i (NF_bnd _ _ _ _ _ _) (NF_bnd _ _ _ _ _ _))) (NF_i (NF_b NF_rv (fun _ _ => NF_i (NF_bnd _ _ _ _ _ _) (NF_bnd _ _ _ _ _ _))) NF_t)))
theorem NF_fnd {n : Nat} : ∀ (k : Nat) (i3 : Int32) (r : Nat) (i : Int32) (st : zS), NF (fX2_find_38 n (fun  (st : zS) => some (.inl ((-1) : Int32), st)) (fun (i5 : Int32) (st : zS) => some (.inl i5, st)) k i3 r i st) := by
  intro k
  induction k with
  | zero => intro i3 r i st; exact NF_n
  | succ k ih => intro i3 r i st; rw [fX2_find_38]; exact NF_i NF_l (NF_i (NF_i NF_l (ih _ _ _ _)) NF_n)
theorem NF_find {n : Nat} {a b c : Int32} {st : zS} : NF (fX2_find n a b c st) := by
  unfold fX2_find
  exact NF_b NF_at (fun _ _ => NF_b NF_cr (fun _ _ => NF_b NF_rv (fun _ _ => NF_fnd _ _ _ _ _)))
theorem NF_dif {n : Nat} : ∀ (k r r' : Nat) (i5 i : Int32) (st : zS), NF (fX2_difference_62 n (fun (r3 : Nat) (r4 : Nat) (i5 : Int32) (st : zS) => (if (st r3 3) = (st r4 3) then some (.inl ((-1) : Int32), st) else some (.inl i5, st))) (fun (i6 : Int32) (st : zS) => some (.inl i6, st)) k r r' i5 i st) := by
  intro k
  induction k with
  | zero => intro r r' i5 i st; exact NF_n
  | succ k ih => intro r r' i5 i st; rw [fX2_difference_62]; exact NF_i (NF_i NF_l NF_l) (NF_i (NF_i (NF_i (ih _ _ _ _ _) NF_l) NF_n) NF_n)
theorem NF_difference {n : Nat} {a b : Int32} {st : zS} : NF (fX2_difference n a b st) := by
  unfold fX2_difference
  exact NF_b NF_at (fun _ _ => NF_b NF_at (fun _ _ => NF_b NF_rv (fun _ _ => NF_b NF_rv (fun _ _ => NF_dif _ _ _ _ _ _))))
