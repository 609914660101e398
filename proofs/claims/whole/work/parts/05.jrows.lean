/-! The world of an object: N cells at the addresses ad 0 .. ad (N-1), cell k holding E k. The judgement zJ: the machine stands at pc with the locals lv and the stack stk, and the heap holds the world. -/
section
def zw (N : Nat) (ad : Nat → Nat) (E : Nat → va_E) : va_W := (List.range N).map (fun k => (ad k, E k))
theorem zw_get {N k : Nat} {ad : Nat → Nat} {E : Nat → va_E} (h : k < N) : (zw N ad E)[k]? = some (ad k, E k) := by
  unfold zw
  rw [List.getElem?_map, List.getElem?_range h]
  rfl
theorem zw_inv {N k : Nat} {ad : Nat → Nat} {E : Nat → va_E} {q : Nat × va_E} (h : (zw N ad E)[k]? = some q) : k < N ∧ q = (ad k, E k) := by
  by_cases hk : k < N
  · rw [zw_get hk] at h
    exact ⟨hk, (Option.some.inj h).symm⟩
  · exfalso
    unfold zw at h
    rw [List.getElem?_map, List.getElem?_eq_none (by rw [List.length_range]; omega)] at h
    cases h
theorem zw_len {N : Nat} {ad : Nat → Nat} {E : Nat → va_E} : (zw N ad E).length = N := by
  unfold zw
  rw [List.length_map, List.length_range]
theorem zw_set {N k : Nat} {ad : Nat → Nat} {E E' : Nat → va_E} (h : k < N) (hE : ∀ j, j < N → j ≠ k → E' j = E j) : (zw N ad E).set k (ad k, E' k) = zw N ad E' := by
  apply List.ext_getElem?
  intro j
  by_cases hj : j < N
  · rw [zw_get hj, List.getElem?_set]
    by_cases e : k = j
    · subst e
      rw [if_pos rfl, if_pos (by rw [zw_len]; exact hj)]
    · rw [if_neg e, zw_get hj, hE j hj (fun q => e q.symm)]
  · rw [List.getElem?_eq_none (by rw [List.length_set, zw_len]; omega), List.getElem?_eq_none (by rw [zw_len]; omega)]
theorem zw_D {N : Nat} {ad : Nat → Nat} {E E' : Nat → va_E} {A : Nat → Prop} (h : va_D A (zw N ad E)) : va_D A (zw N ad E') := by
  refine ⟨fun i j p q hi hj e => ?_, fun k q hk => ?_⟩
  · obtain ⟨h1, rfl⟩ := zw_inv hi
    obtain ⟨h2, rfl⟩ := zw_inv hj
    exact h.1 i j _ _ (zw_get h1) (zw_get h2) e
  · obtain ⟨h1, rfl⟩ := zw_inv hk
    exact h.2 k (ad k, E k) (zw_get h1)
def zA (N : Nat) (ad : Nat → Nat) (sz : Nat) : Nat → Prop := fun q => (∃ k, k < N ∧ ad k = q) ∨ sz ≤ q
theorem zw_self {N sz : Nat} {ad : Nat → Nat} {E : Nat → va_E} {A : Nat → Prop} (h : va_D A (zw N ad E)) : va_D (zA N ad sz) (zw N ad E) := by
  refine ⟨h.1, fun k q hk => ?_⟩
  obtain ⟨h1, rfl⟩ := zw_inv hk
  exact Or.inl ⟨k, h1, rfl⟩
theorem zA_mono {N sz sz' : Nat} {ad : Nat → Nat} (h : sz ≤ sz') : ∀ q, zA N ad sz' q → zA N ad sz q := fun _ hq => hq.elim Or.inl (fun h2 => Or.inr (Nat.le_trans h h2))
theorem zw_lt {D : va_G} {cl : List vw_C} {N k : Nat} {ad : Nat → Nat} {E : Nat → va_E} {H : Heap} (h : va_P D cl (zw N ad E) H) (hk : k < N) : ad k < H.size := (h k _ (zw_get hk)).lt
def zJ (p : Program) (l : Launch) (e : Env) (R : Room) (s : State) (m : MethodId) (args : Array Value) (below : List Frame) (meth : Method) (c : Code) (Q : State → Prop) (D : va_G) (cl : List vw_C) (N : Nat) (ad : Nat → Nat) (nL : Nat) (E : Nat → va_E) (cells slots pc : Nat) (lv : List (Nat × Value)) (stk : List Value) : Prop :=
  ∀ (H : Heap) (locs : List Loc) (ls : Array Slot), va_P D cl (zw N ad E) H → va_S (zA N ad s.heap.size) s.heap H locs → lv_has ls nL lv → W p l e R s m args below meth c H locs cells slots Q (F0 m pc ls stk)
/-- what holds all along a walk -/
def zC (p : Program) (s : State) (m : MethodId) (args : Array Value) (meth : Method) (c : Code) (cc : ByteArray) (own : String) (Ts : List Cond) (D : va_G) (cl : List vw_C) (tys : List (ClassId × FieldType)) (N : Nat) (ad : Nat → Nat) (nL : Nat) : Prop :=
  CallFix p m c cc nL s args Ts own ∧ va_K D cl tys s ∧ (∀ E : Nat → va_E, va_D (zA N ad s.heap.size) (zw N ad E)) ∧ meth.locks = false
variable {p : Program} {l : Launch} {e : Env} {R : Room} {s : State} {m : MethodId} {args : Array Value} {below : List Frame} {meth : Method} {c : Code} {Q : State → Prop} {D : va_G} {cl : List vw_C} {tys : List (ClassId × FieldType)} {N : Nat} {ad : Nat → Nat} {nL : Nat} {E : Nat → va_E} {cells slots pc : Nat} {lv lv' : List (Nat × Value)} {rest : List Value} {cc : ByteArray} {own : String} {Ts : List Cond}
theorem j_iload_n (C : zC p s m args meth c cc own Ts D cl tys N ad nL) {k : Fin 4} {i : Nat} {x : Int32} (hdg : decode cc pc = .ok (.iload_n k, 1)) (hi : (k : Nat) = i) (j : Nat) (hl : lv[j]? = some (i, .int x)) (kk : zJ p l e R s m args below meth c Q D cl N ad nL E cells slots (pc + 1) lv (.int x :: rest)) : zJ p l e R s m args below meth c Q D cl N ad nL E cells slots pc lv rest :=
  fun H locs ls hP hS h => lv_iload_n C.1.1 C.1.2.1 hdg hi (lv_at h j hl) (kk H locs ls hP hS h)
theorem j_iload (C : zC p s m args meth c cc own Ts D cl tys N ad nL) {i : Nat} {x : Int32} (hdg : decode cc pc = .ok (.iload i, 2)) (j : Nat) (hl : lv[j]? = some (i, .int x)) (kk : zJ p l e R s m args below meth c Q D cl N ad nL E cells slots (pc + 2) lv (.int x :: rest)) : zJ p l e R s m args below meth c Q D cl N ad nL E cells slots pc lv rest :=
  fun H locs ls hP hS h => lv_iload C.1.1 C.1.2.1 hdg (lv_at h j hl) (kk H locs ls hP hS h)
theorem j_aload_n (C : zC p s m args meth c cc own Ts D cl tys N ad nL) {k : Fin 4} {i : Nat} {x : Nat} (hdg : decode cc pc = .ok (.aload_n k, 1)) (hi : (k : Nat) = i) (j : Nat) (hl : lv[j]? = some (i, .ref x)) (kk : zJ p l e R s m args below meth c Q D cl N ad nL E cells slots (pc + 1) lv (.ref x :: rest)) : zJ p l e R s m args below meth c Q D cl N ad nL E cells slots pc lv rest :=
  fun H locs ls hP hS h => lv_aload_n C.1.1 C.1.2.1 hdg hi (lv_at h j hl) (kk H locs ls hP hS h)
theorem j_aload (C : zC p s m args meth c cc own Ts D cl tys N ad nL) {i : Nat} {x : Nat} (hdg : decode cc pc = .ok (.aload i, 2)) (j : Nat) (hl : lv[j]? = some (i, .ref x)) (kk : zJ p l e R s m args below meth c Q D cl N ad nL E cells slots (pc + 2) lv (.ref x :: rest)) : zJ p l e R s m args below meth c Q D cl N ad nL E cells slots pc lv rest :=
  fun H locs ls hP hS h => lv_aload C.1.1 C.1.2.1 hdg (lv_at h j hl) (kk H locs ls hP hS h)
theorem j_lload (C : zC p s m args meth c cc own Ts D cl tys N ad nL) {i : Nat} {x : Int64} (hdg : decode cc pc = .ok (.lload i, 2)) (j : Nat) (hl : lv[j]? = some (i, .long x)) (kk : zJ p l e R s m args below meth c Q D cl N ad nL E cells slots (pc + 2) lv (.long x :: rest)) : zJ p l e R s m args below meth c Q D cl N ad nL E cells slots pc lv rest :=
  fun H locs ls hP hS h => lv_lload C.1.1 C.1.2.1 hdg (lv_at h j hl) (kk H locs ls hP hS h)
theorem j_iconst (C : zC p s m args meth c cc own Ts D cl tys N ad nL) {n : Int} {v : Int32} (hdg : decode cc pc = .ok (.iconst n, 1)) (hv : Int32.ofInt n = v) (kk : zJ p l e R s m args below meth c Q D cl N ad nL E cells slots (pc + 1) lv (.int v :: rest)) : zJ p l e R s m args below meth c Q D cl N ad nL E cells slots pc lv rest :=
  fun H locs ls hP hS h => lv_iconst C.1.1 C.1.2.1 hdg hv (kk H locs ls hP hS h)
theorem j_bipush (C : zC p s m args meth c cc own Ts D cl tys N ad nL) {n : Int} {v : Int32} (hdg : decode cc pc = .ok (.bipush n, 2)) (hv : (Int8.ofInt n).toInt32 = v) (kk : zJ p l e R s m args below meth c Q D cl N ad nL E cells slots (pc + 2) lv (.int v :: rest)) : zJ p l e R s m args below meth c Q D cl N ad nL E cells slots pc lv rest :=
  fun H locs ls hP hS h => lv_bipush C.1.1 C.1.2.1 hdg hv (kk H locs ls hP hS h)
theorem j_sipush (C : zC p s m args meth c cc own Ts D cl tys N ad nL) {n : Int} {v : Int32} (hdg : decode cc pc = .ok (.sipush n, 3)) (hv : (Int16.ofInt n).toInt32 = v) (kk : zJ p l e R s m args below meth c Q D cl N ad nL E cells slots (pc + 3) lv (.int v :: rest)) : zJ p l e R s m args below meth c Q D cl N ad nL E cells slots pc lv rest :=
  fun H locs ls hP hS h => lv_sipush C.1.1 C.1.2.1 hdg hv (kk H locs ls hP hS h)
theorem j_lconst (C : zC p s m args meth c cc own Ts D cl tys N ad nL) {n : Fin 2} {v : Int64} (hdg : decode cc pc = .ok (.lconst n, 1)) (hv : Int64.ofNat (n : Nat) = v) (kk : zJ p l e R s m args below meth c Q D cl N ad nL E cells slots (pc + 1) lv (.long v :: rest)) : zJ p l e R s m args below meth c Q D cl N ad nL E cells slots pc lv rest :=
  fun H locs ls hP hS h => lv_lconst C.1.1 C.1.2.1 hdg hv (kk H locs ls hP hS h)
theorem j_ldc (C : zC p s m args meth c cc own Ts D cl tys N ad nL) {index : Nat} {v : Int32} (hc : Jvm.Cond.constant own index v ∈ Ts) (hdg : decode cc pc = .ok (.ldc index, 2)) (kk : zJ p l e R s m args below meth c Q D cl N ad nL E cells slots (pc + 2) lv (.int v :: rest)) : zJ p l e R s m args below meth c Q D cl N ad nL E cells slots pc lv rest :=
  fun H locs ls hP hS h => lv_ldc C.1.1 C.1.2.1 C.1.2.2.2.1 (C.1.2.2.2.2 _ hc) hdg (kk H locs ls hP hS h)
theorem j_istore_n (C : zC p s m args meth c cc own Ts D cl tys N ad nL) {k : Fin 4} {i : Nat} {x : Int32} (hdg : decode cc pc = .ok (.istore_n k, 1)) (hi : (k : Nat) = i) (hn : i < nL) (hl : (i, Value.int x) :: lv.filter (fun q => !(q.1 == i) && !(q.1 + 1 == i && q.2.category == 2)) = lv') (kk : zJ p l e R s m args below meth c Q D cl N ad nL E cells slots (pc + 1) lv' rest) : zJ p l e R s m args below meth c Q D cl N ad nL E cells slots pc lv (.int x :: rest) :=
  fun H locs _ hP hS h => lv_istore_n C.1.1 C.1.2.1 hdg hi h hn hl (fun ls' h' => kk H locs ls' hP hS h')
theorem j_istore (C : zC p s m args meth c cc own Ts D cl tys N ad nL) {i : Nat} {x : Int32} (hdg : decode cc pc = .ok (.istore i, 2)) (hn : i < nL) (hl : (i, Value.int x) :: lv.filter (fun q => !(q.1 == i) && !(q.1 + 1 == i && q.2.category == 2)) = lv') (kk : zJ p l e R s m args below meth c Q D cl N ad nL E cells slots (pc + 2) lv' rest) : zJ p l e R s m args below meth c Q D cl N ad nL E cells slots pc lv (.int x :: rest) :=
  fun H locs _ hP hS h => lv_istore C.1.1 C.1.2.1 hdg h hn hl (fun ls' h' => kk H locs ls' hP hS h')
theorem j_astore_n (C : zC p s m args meth c cc own Ts D cl tys N ad nL) {k : Fin 4} {i : Nat} {x : Nat} (hdg : decode cc pc = .ok (.astore_n k, 1)) (hi : (k : Nat) = i) (hn : i < nL) (hl : (i, Value.ref x) :: lv.filter (fun q => !(q.1 == i) && !(q.1 + 1 == i && q.2.category == 2)) = lv') (kk : zJ p l e R s m args below meth c Q D cl N ad nL E cells slots (pc + 1) lv' rest) : zJ p l e R s m args below meth c Q D cl N ad nL E cells slots pc lv (.ref x :: rest) :=
  fun H locs _ hP hS h => lv_astore_n C.1.1 C.1.2.1 hdg hi h hn hl (fun ls' h' => kk H locs ls' hP hS h')
theorem j_astore (C : zC p s m args meth c cc own Ts D cl tys N ad nL) {i : Nat} {x : Nat} (hdg : decode cc pc = .ok (.astore i, 2)) (hn : i < nL) (hl : (i, Value.ref x) :: lv.filter (fun q => !(q.1 == i) && !(q.1 + 1 == i && q.2.category == 2)) = lv') (kk : zJ p l e R s m args below meth c Q D cl N ad nL E cells slots (pc + 2) lv' rest) : zJ p l e R s m args below meth c Q D cl N ad nL E cells slots pc lv (.ref x :: rest) :=
  fun H locs _ hP hS h => lv_astore C.1.1 C.1.2.1 hdg h hn hl (fun ls' h' => kk H locs ls' hP hS h')
theorem j_lstore (C : zC p s m args meth c cc own Ts D cl tys N ad nL) {i : Nat} {x : Int64} (hdg : decode cc pc = .ok (.lstore i, 2)) (hn : i + 1 < nL) (hl : (i, Value.long x) :: lv.filter (fun q => !(q.1 == i) && (!(q.1 == i + 1) && !(q.1 + 1 == i && q.2.category == 2))) = lv') (kk : zJ p l e R s m args below meth c Q D cl N ad nL E cells slots (pc + 2) lv' rest) : zJ p l e R s m args below meth c Q D cl N ad nL E cells slots pc lv (.long x :: rest) :=
  fun H locs _ hP hS h => lv_lstore C.1.1 C.1.2.1 hdg h hn hl (fun ls' h' => kk H locs ls' hP hS h')
theorem j_iinc (C : zC p s m args meth c cc own Ts D cl tys N ad nL) {i : Nat} {n : Int} {x v : Int32} (hdg : decode cc pc = .ok (.iinc i n, 3)) (j : Nat) (hj : lv[j]? = some (i, .int x)) (hv : x + Int32.ofInt n = v) (hn : i < nL) (hl : (i, Value.int v) :: lv.filter (fun q => !(q.1 == i) && !(q.1 + 1 == i && q.2.category == 2)) = lv') (kk : zJ p l e R s m args below meth c Q D cl N ad nL E cells slots (pc + 3) lv' rest) : zJ p l e R s m args below meth c Q D cl N ad nL E cells slots pc lv rest :=
  fun H locs _ hP hS h => lv_iinc C.1.1 C.1.2.1 hdg h hj hv hn hl (fun ls' h' => kk H locs ls' hP hS h')
theorem j_iadd (C : zC p s m args meth c cc own Ts D cl tys N ad nL) {x y : Int32} (hdg : decode cc pc = .ok (.iadd, 1)) (kk : zJ p l e R s m args below meth c Q D cl N ad nL E cells slots (pc + 1) lv (.int (x + y) :: rest)) : zJ p l e R s m args below meth c Q D cl N ad nL E cells slots pc lv (.int y :: .int x :: rest) :=
  fun H locs ls hP hS h => lv_iadd C.1.1 C.1.2.1 hdg (kk H locs ls hP hS h)
theorem j_isub (C : zC p s m args meth c cc own Ts D cl tys N ad nL) {x y : Int32} (hdg : decode cc pc = .ok (.isub, 1)) (kk : zJ p l e R s m args below meth c Q D cl N ad nL E cells slots (pc + 1) lv (.int (x - y) :: rest)) : zJ p l e R s m args below meth c Q D cl N ad nL E cells slots pc lv (.int y :: .int x :: rest) :=
  fun H locs ls hP hS h => lv_isub C.1.1 C.1.2.1 hdg (kk H locs ls hP hS h)
theorem j_imul (C : zC p s m args meth c cc own Ts D cl tys N ad nL) {x y : Int32} (hdg : decode cc pc = .ok (.imul, 1)) (kk : zJ p l e R s m args below meth c Q D cl N ad nL E cells slots (pc + 1) lv (.int (x * y) :: rest)) : zJ p l e R s m args below meth c Q D cl N ad nL E cells slots pc lv (.int y :: .int x :: rest) :=
  fun H locs ls hP hS h => lv_imul C.1.1 C.1.2.1 hdg (kk H locs ls hP hS h)
theorem j_idiv (C : zC p s m args meth c cc own Ts D cl tys N ad nL) {x y : Int32} (hdg : decode cc pc = .ok (.idiv, 1)) (hne : ¬ y = 0) (kk : zJ p l e R s m args below meth c Q D cl N ad nL E cells slots (pc + 1) lv (.int (x / y) :: rest)) : zJ p l e R s m args below meth c Q D cl N ad nL E cells slots pc lv (.int y :: .int x :: rest) :=
  fun H locs ls hP hS h => lv_idiv C.1.1 C.1.2.1 hdg hne (kk H locs ls hP hS h)
theorem j_irem (C : zC p s m args meth c cc own Ts D cl tys N ad nL) {x y : Int32} (hdg : decode cc pc = .ok (.irem, 1)) (hne : ¬ y = 0) (kk : zJ p l e R s m args below meth c Q D cl N ad nL E cells slots (pc + 1) lv (.int (x - x / y * y) :: rest)) : zJ p l e R s m args below meth c Q D cl N ad nL E cells slots pc lv (.int y :: .int x :: rest) :=
  fun H locs ls hP hS h => lv_irem C.1.1 C.1.2.1 hdg hne (kk H locs ls hP hS h)
theorem j_ladd (C : zC p s m args meth c cc own Ts D cl tys N ad nL) {x y : Int64} (hdg : decode cc pc = .ok (.ladd, 1)) (kk : zJ p l e R s m args below meth c Q D cl N ad nL E cells slots (pc + 1) lv (.long (x + y) :: rest)) : zJ p l e R s m args below meth c Q D cl N ad nL E cells slots pc lv (.long y :: .long x :: rest) :=
  fun H locs ls hP hS h => lv_ladd C.1.1 C.1.2.1 hdg (kk H locs ls hP hS h)
theorem j_i2l (C : zC p s m args meth c cc own Ts D cl tys N ad nL) {x : Int32} (hdg : decode cc pc = .ok (.i2l, 1)) (kk : zJ p l e R s m args below meth c Q D cl N ad nL E cells slots (pc + 1) lv (.long x.toInt64 :: rest)) : zJ p l e R s m args below meth c Q D cl N ad nL E cells slots pc lv (.int x :: rest) :=
  fun H locs ls hP hS h => lv_i2l C.1.1 C.1.2.1 hdg rfl (kk H locs ls hP hS h)
theorem j_dup (C : zC p s m args meth c cc own Ts D cl tys N ad nL) {va : Value} (hdg : decode cc pc = .ok (.dup, 1)) (hva : va.category = 1) (kk : zJ p l e R s m args below meth c Q D cl N ad nL E cells slots (pc + 1) lv (va :: va :: rest)) : zJ p l e R s m args below meth c Q D cl N ad nL E cells slots pc lv (va :: rest) :=
  fun H locs ls hP hS h => lv_dup C.1.1 C.1.2.1 hdg hva (kk H locs ls hP hS h)
theorem j_dup2 (C : zC p s m args meth c cc own Ts D cl tys N ad nL) {va vb : Value} (hdg : decode cc pc = .ok (.dup2, 1)) (hva : va.category = 1) (hvb : vb.category = 1) (kk : zJ p l e R s m args below meth c Q D cl N ad nL E cells slots (pc + 1) lv (va :: vb :: va :: vb :: rest)) : zJ p l e R s m args below meth c Q D cl N ad nL E cells slots pc lv (va :: vb :: rest) :=
  fun H locs ls hP hS h => lv_dup2_11 C.1.1 C.1.2.1 hdg hva hvb (kk H locs ls hP hS h)
theorem j_pop (C : zC p s m args meth c cc own Ts D cl tys N ad nL) {va : Value} (hdg : decode cc pc = .ok (.pop, 1)) (hva : va.category = 1) (kk : zJ p l e R s m args below meth c Q D cl N ad nL E cells slots (pc + 1) lv rest) : zJ p l e R s m args below meth c Q D cl N ad nL E cells slots pc lv (va :: rest) :=
  fun H locs ls hP hS h => lv_pop C.1.1 C.1.2.1 hdg hva (kk H locs ls hP hS h)
theorem j_goto (C : zC p s m args meth c cc own Ts D cl tys N ad nL) {off : Int} {tgt : Nat} (hdg : decode cc pc = .ok (.goto off, 3)) (ht : (pc : Int) + off = (tgt : Int)) (kk : zJ p l e R s m args below meth c Q D cl N ad nL E cells slots tgt lv rest) : zJ p l e R s m args below meth c Q D cl N ad nL E cells slots pc lv rest :=
  fun H locs ls hP hS h => lv_goto C.1.1 C.1.2.1 hdg ht (kk H locs ls hP hS h)
theorem j_icmp_ge (C : zC p s m args meth c cc own Ts D cl tys N ad nL) {x y : Int32} {off : Int} {tgt : Nat} (hdg : decode cc pc = .ok (.if_icmp .ge off, 3)) (ht : (pc : Int) + off = (tgt : Int)) (kt : y ≤ x → zJ p l e R s m args below meth c Q D cl N ad nL E cells slots tgt lv rest) (kf : ¬ y ≤ x → zJ p l e R s m args below meth c Q D cl N ad nL E cells slots (pc + 3) lv rest) : zJ p l e R s m args below meth c Q D cl N ad nL E cells slots pc lv (.int y :: .int x :: rest) :=
  fun H locs ls hP hS h => lv_icmp_ge C.1.1 C.1.2.1 hdg ht (fun q => kt q H locs ls hP hS h) (fun q => kf q H locs ls hP hS h)
theorem j_icmp_le (C : zC p s m args meth c cc own Ts D cl tys N ad nL) {x y : Int32} {off : Int} {tgt : Nat} (hdg : decode cc pc = .ok (.if_icmp .le off, 3)) (ht : (pc : Int) + off = (tgt : Int)) (kt : x ≤ y → zJ p l e R s m args below meth c Q D cl N ad nL E cells slots tgt lv rest) (kf : ¬ x ≤ y → zJ p l e R s m args below meth c Q D cl N ad nL E cells slots (pc + 3) lv rest) : zJ p l e R s m args below meth c Q D cl N ad nL E cells slots pc lv (.int y :: .int x :: rest) :=
  fun H locs ls hP hS h => lv_icmp_le C.1.1 C.1.2.1 hdg ht (fun q => kt q H locs ls hP hS h) (fun q => kf q H locs ls hP hS h)
theorem j_icmp_gt (C : zC p s m args meth c cc own Ts D cl tys N ad nL) {x y : Int32} {off : Int} {tgt : Nat} (hdg : decode cc pc = .ok (.if_icmp .gt off, 3)) (ht : (pc : Int) + off = (tgt : Int)) (kt : y < x → zJ p l e R s m args below meth c Q D cl N ad nL E cells slots tgt lv rest) (kf : ¬ y < x → zJ p l e R s m args below meth c Q D cl N ad nL E cells slots (pc + 3) lv rest) : zJ p l e R s m args below meth c Q D cl N ad nL E cells slots pc lv (.int y :: .int x :: rest) :=
  fun H locs ls hP hS h => lv_icmp_gt C.1.1 C.1.2.1 hdg ht (fun q => kt q H locs ls hP hS h) (fun q => kf q H locs ls hP hS h)
theorem j_icmp_lt (C : zC p s m args meth c cc own Ts D cl tys N ad nL) {x y : Int32} {off : Int} {tgt : Nat} (hdg : decode cc pc = .ok (.if_icmp .lt off, 3)) (ht : (pc : Int) + off = (tgt : Int)) (kt : x < y → zJ p l e R s m args below meth c Q D cl N ad nL E cells slots tgt lv rest) (kf : ¬ x < y → zJ p l e R s m args below meth c Q D cl N ad nL E cells slots (pc + 3) lv rest) : zJ p l e R s m args below meth c Q D cl N ad nL E cells slots pc lv (.int y :: .int x :: rest) :=
  fun H locs ls hP hS h => lv_icmp_lt C.1.1 C.1.2.1 hdg ht (fun q => kt q H locs ls hP hS h) (fun q => kf q H locs ls hP hS h)
theorem j_icmp_eq (C : zC p s m args meth c cc own Ts D cl tys N ad nL) {x y : Int32} {off : Int} {tgt : Nat} (hdg : decode cc pc = .ok (.if_icmp .eq off, 3)) (ht : (pc : Int) + off = (tgt : Int)) (kt : x = y → zJ p l e R s m args below meth c Q D cl N ad nL E cells slots tgt lv rest) (kf : ¬ x = y → zJ p l e R s m args below meth c Q D cl N ad nL E cells slots (pc + 3) lv rest) : zJ p l e R s m args below meth c Q D cl N ad nL E cells slots pc lv (.int y :: .int x :: rest) :=
  fun H locs ls hP hS h => lv_icmp_eq C.1.1 C.1.2.1 hdg ht (fun q => kt q H locs ls hP hS h) (fun q => kf q H locs ls hP hS h)
theorem j_icmp_ne (C : zC p s m args meth c cc own Ts D cl tys N ad nL) {x y : Int32} {off : Int} {tgt : Nat} (hdg : decode cc pc = .ok (.if_icmp .ne off, 3)) (ht : (pc : Int) + off = (tgt : Int)) (kt : ¬ x = y → zJ p l e R s m args below meth c Q D cl N ad nL E cells slots tgt lv rest) (kf : x = y → zJ p l e R s m args below meth c Q D cl N ad nL E cells slots (pc + 3) lv rest) : zJ p l e R s m args below meth c Q D cl N ad nL E cells slots pc lv (.int y :: .int x :: rest) :=
  fun H locs ls hP hS h => lv_icmp_ne C.1.1 C.1.2.1 hdg ht (fun q => kt q H locs ls hP hS h) (fun q => kf q H locs ls hP hS h)
end
