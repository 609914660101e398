/-! the world of the reference: 7 cells. 0 the object (its numbers: field 0 code, field 6 made); 1 there; 2 length; 3 value; 4 mark; 5 count; 6 row -/
abbrev mty (cI cZ : ClassId) : List (ClassId × FieldType) := [(cI, .int), (cZ, .boolean)]
def ml (k : Nat) : Nat := if k = 1 then 16 else if k = 2 then 16 else if k = 3 then 69632 else if k = 4 then 4352 else if k = 5 then 140000 else 4096
def mce (cI cZ : ClassId) (ad : Nat → Nat) (st : zS) (k : Nat) : va_E :=
  if k = 0 then .inr (3, [.int (st 0 0), .ref (ad 1), .ref (ad 2), .ref (ad 3), .ref (ad 4), .ref (ad 5), .int (st 0 6), .ref (ad 6)])
  else if k = 1 then .inl (cZ, ml 1, .inl (st 1))
  else .inl (cI, ml k, .inl (st k))
abbrev isMar (k : Nat) : Prop := 2 ≤ k ∧ k < 7
def mT : Nat → State → Prop := fun _ _ => True
theorem mT_S {ad : Nat → Nat} : zTS 7 ad mT := ⟨fun _ _ _ _ _ _ => trivial, fun _ _ _ _ _ _ => trivial⟩
section
variable {cI cZ : ClassId} {ad : Nat → Nat} {st : zS}
theorem mce_0 : mce cI cZ ad st 0 = .inr (3, [.int (st 0 0), .ref (ad 1), .ref (ad 2), .ref (ad 3), .ref (ad 4), .ref (ad 5), .int (st 0 6), .ref (ad 6)]) := rfl
theorem mce_1 : mce cI cZ ad st 1 = .inl (cZ, ml 1, .inl (st 1)) := rfl
theorem mce_arr {k : Nat} (h : isMar k) : mce cI cZ ad st k = .inl (cI, ml k, .inl (st k)) := by
  unfold mce
  rw [if_neg (by omega), if_neg (by omega)]
theorem mce_ne {K j : Nat} {g : Nat → Int32} (h : j ≠ K) : mce cI cZ ad (upA st K g) j = mce cI cZ ad st j := by
  unfold mce
  by_cases h0 : j = 0
  · subst h0
    rw [if_pos rfl, if_pos rfl, upA_n h]
  · rw [if_neg h0, if_neg h0]
    by_cases h1 : j = 1
    · subst h1
      rw [if_pos rfl, if_pos rfl, upA_n h]
    · rw [if_neg h1, if_neg h1, upA_n h]
end
abbrev mJ {α : Type} (vl : α → Option Value) (F : zF α) (mc ms : Nat) (p : Program) (l : Launch) (e : Env) (R : Room) (s : State) (m : MethodId) (args : Array Value) (below : List Frame) (meth : Method) (c : Code) (D : va_G) (cI cZ : ClassId) (ad : Nat → Nat) (nL : Nat) (st : zS) (cells slots pc : Nat) (lv : List (Nat × Value)) (stk : List Value) : Prop :=
  zJ p l e R s m args below meth c (vx_MQ below (zQ vl D zcl 7 ad (mce cI cZ ad) s.heap.size F) (zX D zcl 7 ad (mce cI cZ ad) s.heap.size F) args s mc ms (zA 7 ad s.heap.size)) D zcl 7 ad nL (mce cI cZ ad st) cells slots pc lv stk
theorem nar01 {v : Int32} (h : v = 0 ∨ v = 1) : narrow .boolean (.int v) = .int v := by
  rcases h with rfl | rfl <;> rfl
section
variable {p : Program} {l : Launch} {e : Env} {R : Room} {s : State} {m : MethodId} {args : Array Value} {below : List Frame} {meth : Method} {c : Code} {Q : State → Prop} {D : va_G} {cI cZ : ClassId} {ad : Nat → Nat} {nL : Nat} {cells slots pc : Nat} {lv lv' : List (Nat × Value)} {rest : List Value} {cc : ByteArray} {own : String} {Ts : List Cond} {st : zS}
theorem m_get0 (C : zC p s m args meth c cc own Ts D zcl (mty cI cZ) 7 ad nL) (hin : ∀ w ∈ wsX30, w ∈ Ts) (k : Nat) (hk : k < 8) {index : Nat} (hlink : Cond.fieldLink own index (TX3 k).1 (TX3 k).2.1 (TX3 k).2.2.1 ∈ Ts) {v : Value} (hv : ([.int (st 0 0), .ref (ad 1), .ref (ad 2), .ref (ad 3), .ref (ad 4), .ref (ad 5), .int (st 0 6), .ref (ad 6)] : List Value)[k]? = some v) (hdg : decode cc pc = .ok (.getfield index, 3))
    (kk : zJ p l e R s m args below meth c Q D zcl 7 ad nL (mce cI cZ ad st) cells slots (pc + 3) lv (v :: rest)) : zJ p l e R s m args below meth c Q D zcl 7 ad nL (mce cI cZ ad st) cells slots pc lv (.ref (ad 0) :: rest) :=
  j_getf C hin 0 (by decide) mce_0 rfl k hk hlink hv hdg kk
theorem m_put0 (C : zC p s m args meth c cc own Ts D zcl (mty cI cZ) 7 ad nL) (hin : ∀ w ∈ wsX30, w ∈ Ts) (k : Nat) (hk : k = 0 ∨ k = 6) {index : Nat} (hlink : Cond.fieldLink own index (TX3 k).1 (TX3 k).2.1 (TX3 k).2.2.1 ∈ Ts) {x : Int32} (hdg : decode cc pc = .ok (.putfield index, 3))
    (kk : zJ p l e R s m args below meth c Q D zcl 7 ad nL (mce cI cZ ad (upA st 0 (upd (st 0) k x))) cells slots (pc + 3) lv rest) : zJ p l e R s m args below meth c Q D zcl 7 ad nL (mce cI cZ ad st) cells slots pc lv (.int x :: .ref (ad 0) :: rest) := by
  rcases hk with rfl | rfl
  · exact j_putf C hin tyX3 tyX3_ok nmX3 0 (by decide) mce_0 rfl 0 (by decide) hlink rfl (ty := .int) (by decide +kernel) rfl rfl (Nat.le_of_ble_eq_true rfl) hdg (E' := mce cI cZ ad (upA st 0 (upd (st 0) 0 x))) (by rw [mce_0]; simp [upA, upd]) (fun j _ hj => mce_ne hj) kk
  · exact j_putf C hin tyX3 tyX3_ok nmX3 0 (by decide) mce_0 rfl 6 (by decide) hlink rfl (ty := .int) (by decide +kernel) rfl rfl (Nat.le_of_ble_eq_true rfl) hdg (E' := mce cI cZ ad (upA st 0 (upd (st 0) 6 x))) (by rw [mce_0]; simp [upA, upd]) (fun j _ hj => mce_ne hj) kk
theorem m_iald (C : zC p s m args meth c cc own Ts D zcl (mty cI cZ) 7 ad nL) {K : Nat} (hK : isMar K) {i : Int32} (hi : inb i (ml K)) (hdg : decode cc pc = .ok (.iaload, 1))
    (kk : zJ p l e R s m args below meth c Q D zcl 7 ad nL (mce cI cZ ad st) cells slots (pc + 1) lv (.int (st K i.toNatClampNeg) :: rest)) : zJ p l e R s m args below meth c Q D zcl 7 ad nL (mce cI cZ ad st) cells slots pc lv (.int i :: .ref (ad K) :: rest) :=
  j_iald C K 0 hK.2 (mce_arr hK) rfl hi.vp hdg kk
theorem m_iast (C : zC p s m args meth c cc own Ts D zcl (mty cI cZ) 7 ad nL) {K : Nat} (hK : isMar K) {i x : Int32} (hi : inb i (ml K)) (hdg : decode cc pc = .ok (.iastore, 1))
    (kk : zJ p l e R s m args below meth c Q D zcl 7 ad nL (mce cI cZ ad (upA st K (upd (st K) i.toNatClampNeg x))) cells slots (pc + 1) lv rest) : zJ p l e R s m args below meth c Q D zcl 7 ad nL (mce cI cZ ad st) cells slots pc lv (.int x :: .int i :: .ref (ad K) :: rest) :=
  j_iast C K 0 hK.2 (mce_arr hK) rfl hi.vp hdg (E' := mce cI cZ ad (upA st K (upd (st K) i.toNatClampNeg x))) (by rw [mce_arr hK, upA_s]) (fun j _ hj => mce_ne hj) kk
theorem m_zald (C : zC p s m args meth c cc own Ts D zcl (mty cI cZ) 7 ad nL) {i : Int32} (hi : inb i (ml 1)) (hdg : decode cc pc = .ok (.baload, 1))
    (kk : zJ p l e R s m args below meth c Q D zcl 7 ad nL (mce cI cZ ad st) cells slots (pc + 1) lv (.int (st 1 i.toNatClampNeg) :: rest)) : zJ p l e R s m args below meth c Q D zcl 7 ad nL (mce cI cZ ad st) cells slots pc lv (.int i :: .ref (ad 1) :: rest) :=
  j_zald C 1 1 (by decide) mce_1 rfl hi.vp hdg kk
theorem m_zast (C : zC p s m args meth c cc own Ts D zcl (mty cI cZ) 7 ad nL) {i x : Int32} (hx : vp_nar .boolean x = x) (hi : inb i (ml 1)) (hdg : decode cc pc = .ok (.bastore, 1))
    (kk : zJ p l e R s m args below meth c Q D zcl 7 ad nL (mce cI cZ ad (upA st 1 (upd (st 1) i.toNatClampNeg x))) cells slots (pc + 1) lv rest) : zJ p l e R s m args below meth c Q D zcl 7 ad nL (mce cI cZ ad st) cells slots pc lv (.int x :: .int i :: .ref (ad 1) :: rest) :=
  j_zast C 1 1 (by decide) mce_1 rfl hi.vp hdg (E' := mce cI cZ ad (upA st 1 (upd (st 1) i.toNatClampNeg x))) (by rw [hx, mce_1, upA_s]) (fun j _ hj => mce_ne hj) kk
end
