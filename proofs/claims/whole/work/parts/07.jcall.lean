/-! ends, throws and calls of the judgement zJ: a method's result is F : none (nothing is said), some (.inl r, u): it returns r and the contents are u; some (.inr b, u): it throws -/
abbrev zS : Type := Nat → Nat → Int32
abbrev zF (α : Type) : Type := Option ((α ⊕ Bool) × zS)
def zexn (b : Bool) : String := if b = true then "java/lang/IllegalArgumentException" else "java/lang/IllegalStateException"
def zQ {α : Type} (vl : α → Option Value) (D : va_G) (cl : List vw_C) (N : Nat) (ad : Nat → Nat) (ce : zS → Nat → va_E) (sz : Nat) (F : zF α) : Array Value → State → Outcome → State → Prop := fun _ st oc t =>
  (∃ (r : α) (u : zS), oc = .returned (vl r) ∧ F = some (.inl r, u) ∧ va_P D cl (zw N ad (ce u)) t.heap) ∧ va_F (zA N ad sz) st t
def zX {α : Type} (D : va_G) (cl : List vw_C) (N : Nat) (ad : Nat → Nat) (ce : zS → Nat → va_E) (sz : Nat) (F : zF α) : String → State → State → Prop := fun En st t =>
  ∃ (b : Bool) (u : zS), F = some (.inr b, u) ∧ En = zexn b ∧ va_P D cl (zw N ad (ce u)) t.heap ∧ va_F (zA N ad sz) st t
abbrev zPc (D : va_G) (cl : List vw_C) (tys : List (ClassId × FieldType)) (N : Nat) (ad : Nat → Nat) (TX : Nat → State → Prop) (E : Nat → va_E) (sz : Nat) (av : List Value) : Array Value → State → Prop :=
  va_Pc av (fun U => U.heap.size = sz ∧ va_P D cl (zw N ad E) U.heap ∧ va_K D cl tys U ∧ va_D (fun _ => True) (zw N ad E) ∧ TX sz U)
/-- a method's contract -/
def zM {α : Type} (vl : α → Option Value) (l : Launch) (y : MethodName) (ws : List Cond) (rm : Room) (D : va_G) (cl : List vw_C) (tys : List (ClassId × FieldType)) (N : Nat) (ad : Nat → Nat) (ce : zS → Nat → va_E) (TX : Nat → State → Prop) (mc ms : Nat) (av : List Value) (st : zS) (F : zF α) : Prop :=
  ∀ sz : Nat, vx_Met l y ws rm (zPc D cl tys N ad TX (ce st) sz av) (zQ vl D cl N ad ce sz F) (zX D cl N ad ce sz F) mc ms (zA N ad sz)
/-- what is carried for throws stays: over a call's frame, over writes to the world, over warmer tables -/
def zTS (N : Nat) (ad : Nat → Nat) (TX : Nat → State → Prop) : Prop :=
  (∀ (sz : Nat) (U : State) (g : JFrame) (mk : MethodId) (a : Array Value), TX sz U → TX sz (U.calling g mk a)) ∧
  (∀ (s U : State) (locs : List Loc), TX s.heap.size s → va_S (zA N ad s.heap.size) s.heap U.heap locs → s.WarmedH U.vm → TX U.heap.size U)
section
variable {p : Program} {l : Launch} {e : Env} {R : Room} {s : State} {m : MethodId} {args : Array Value} {below : List Frame} {meth : Method} {c : Code} {Q : State → Prop} {D : va_G} {cl : List vw_C} {tys : List (ClassId × FieldType)} {N : Nat} {ad : Nat → Nat} {nL : Nat} {E : Nat → va_E} {cells slots pc : Nat} {lv lv' : List (Nat × Value)} {rest stk : List Value} {cc : ByteArray} {own : String} {Ts : List Cond} {ce : zS → Nat → va_E} {TX : Nat → State → Prop} {mc ms : Nat} {st : zS}
theorem j_mmin (C : zC p s m args meth c cc own Ts D cl tys N ad nL) {index : Nat} (h1 : Cond.methodLink own index Lib.Math.min.name ∈ Ts) (h2 : Cond.static Lib.Math.min.name ∈ Ts) (h3 : Cond.initialized "java/lang/Math" ∈ Ts) (h4 : Cond.code Lib.Math.min.name Lib.Math.min.code 2 (some .int) ∈ Ts)
    (hframes : 1 ≤ R.frames) (hlocals : (rest.map fun v => v.category).sum + 13 ≤ R.locals) (hc : cells ≤ R.cells) (hs : slots ≤ R.slots) {x y : Int32} (hdg : decode cc pc = .ok (.invokestatic index, 3))
    (kk : zJ p l e R s m args below meth c Q D cl N ad nL E cells slots (pc + 3) lv (.int (if y < x then y else x) :: rest)) : zJ p l e R s m args below meth c Q D cl N ad nL E cells slots pc lv (.int y :: .int x :: rest) :=
  fun H locs ls hP hS h => va_mmin C.1.1 C.1.2.1 (C.1.2.2.1.trans h.1.symm) C.1.2.2.2.1 (C.1.2.2.2.2 _ h1) (C.1.2.2.2.2 _ h2) (C.1.2.2.2.2 _ h3) (C.1.2.2.2.2 _ h4) hframes hlocals hc hs hdg (kk H locs ls hP hS h)
theorem j_copy (C : zC p s m args meth c cc own Ts D cl tys N ad nL) {index : Nat} (h1 : Cond.methodLink own index arraycopyName ∈ Ts) (h2 : Cond.native arraycopyName ∈ Ts) (h3 : Cond.static arraycopyName ∈ Ts) (h4 : Cond.initialized "java/lang/System" ∈ Ts)
    (q0 q1 t0 : Nat) (hq0 : q0 < N) (hq1 : q1 < N) {cA : ClassId} {n0 n1 : Nat} {f g : Nat → Int32} (hE0 : E q0 = .inl (cA, n0, .inl f)) (hE1 : E q1 = .inl (cA, n1, .inl g)) (ht : tys[t0]? = some (cA, .int))
    {sp dp n : Int32} (k1 : ¬ sp < 0) (k2 : ¬ dp < 0) (k3 : ¬ n < 0) (k4 : sp.toNatClampNeg + n.toNatClampNeg ≤ n0) (k5 : dp.toNatClampNeg + n.toNatClampNeg ≤ n1)
    (hframes : 1 ≤ R.frames) (hlocals : (rest.map fun v => v.category).sum + (nativeFrameWords "java/lang/System" "arraycopy" 5 + 11) ≤ R.locals) (hdg : decode cc pc = .ok (.invokestatic index, 3))
    {E' : Nat → va_E} (hF1 : E' q1 = .inl (cA, n1, .inl (va_cpy f g sp.toNatClampNeg dp.toNatClampNeg n.toNatClampNeg))) (hF2 : ∀ j, j < N → j ≠ q1 → E' j = E j)
    (kk : zJ p l e R s m args below meth c Q D cl N ad nL E' cells slots (pc + 3) lv rest) : zJ p l e R s m args below meth c Q D cl N ad nL E cells slots pc lv (.int n :: .int dp :: .ref (ad q1) :: .int sp :: .ref (ad q0) :: rest) :=
  fun H locs ls hP hS h => va_copyi C.1.1 C.1.2.1 (C.1.2.2.1.trans h.1.symm) C.1.2.2.2.1 (C.1.2.2.2.2 _ h1) (C.1.2.2.2.2 _ h2) (C.1.2.2.2.2 _ h3) (C.1.2.2.2.2 _ h4) C.2.1 hP (C.2.2.1 E) hS q0 q1 t0 t0 ((zw_get hq0).trans (by rw [hE0])) ((zw_get hq1).trans (by rw [hE1])) ht ht rfl k1 k2 k3 k4 k5 (fun _ _ => rfl) hframes hlocals hdg
    (fun H1 locs1 hP1 _ hS1 => kk H1 locs1 ls (by rw [← hF1, zw_set hq1 hF2] at hP1; exact hP1) hS1 h)
theorem j_iret (C : zC p s m args meth c cc own Ts D cl tys N ad nL) {XC : String → State → State → Prop} {F : zF Int32} {v : Int32} (hr : meth.sig.returnType = some .int) (hF : some (.inl v, st) = F) (hc : cells ≤ mc) (hs : slots ≤ ms) (hdg : decode cc pc = .ok (.ireturn, 1)) :
    zJ p l e R s m args below meth c (vx_MQ below (zQ (fun v : Int32 => some (.int v)) D cl N ad ce s.heap.size F) XC args s mc ms (zA N ad s.heap.size)) D cl N ad nL (ce st) cells slots pc lv [.int v] :=
  fun H locs ls hP hS h => W.widen hc hs (vx_ret (W.iret C.1.1 C.1.2.1 hr (fun t ht hW => ⟨⟨v, st, rfl, hF.symm, by rw [ht]; exact hP⟩, hS.F ht⟩) hS.2.2 hdg (hlocks := C.2.2.2)))
theorem j_zret (C : zC p s m args meth c cc own Ts D cl tys N ad nL) {XC : String → State → State → Prop} {F : zF Int32} {v : Int32} (hr : meth.sig.returnType = some .boolean) (hn : narrow .boolean (.int v) = .int v) (hF : some (.inl v, st) = F) (hc : cells ≤ mc) (hs : slots ≤ ms) (hdg : decode cc pc = .ok (.ireturn, 1)) :
    zJ p l e R s m args below meth c (vx_MQ below (zQ (fun v : Int32 => some (.int v)) D cl N ad ce s.heap.size F) XC args s mc ms (zA N ad s.heap.size)) D cl N ad nL (ce st) cells slots pc lv [.int v] :=
  fun H locs ls hP hS h => W.widen hc hs (vx_ret (W.zret C.1.1 C.1.2.1 hr hn (fun t ht hW => ⟨⟨v, st, rfl, hF.symm, by rw [ht]; exact hP⟩, hS.F ht⟩) hS.2.2 hdg (hlocks := C.2.2.2)))
theorem j_lret (C : zC p s m args meth c cc own Ts D cl tys N ad nL) {XC : String → State → State → Prop} {F : zF Int64} {v : Int64} (hr : meth.sig.returnType = some .long) (hF : some (.inl v, st) = F) (hc : cells ≤ mc) (hs : slots ≤ ms) (hdg : decode cc pc = .ok (.lreturn, 1)) :
    zJ p l e R s m args below meth c (vx_MQ below (zQ (fun v : Int64 => some (.long v)) D cl N ad ce s.heap.size F) XC args s mc ms (zA N ad s.heap.size)) D cl N ad nL (ce st) cells slots pc lv [.long v] :=
  fun H locs ls hP hS h => W.widen hc hs (vx_ret (W.lret C.1.1 C.1.2.1 hr (fun t ht hW => ⟨⟨v, st, rfl, hF.symm, by rw [ht]; exact hP⟩, hS.F ht⟩) hS.2.2 hdg (hlocks := C.2.2.2)))
theorem j_aret (C : zC p s m args meth c cc own Ts D cl tys N ad nL) {XC : String → State → State → Prop} {F : zF Nat} {k : Nat} {nm : String} (hr : meth.sig.returnType = some (.object nm)) (hF : some (.inl k, st) = F) (hc : cells ≤ mc) (hs : slots ≤ ms) (hdg : decode cc pc = .ok (.areturn, 1)) :
    zJ p l e R s m args below meth c (vx_MQ below (zQ (fun k : Nat => some (.ref (ad k))) D cl N ad ce s.heap.size F) XC args s mc ms (zA N ad s.heap.size)) D cl N ad nL (ce st) cells slots pc lv [.ref (ad k)] :=
  fun H locs ls hP hS h => W.widen hc hs (vx_ret (W.aret C.1.1 C.1.2.1 hr (Or.inl ⟨_, rfl⟩) (Or.inr ⟨_, rfl⟩) (fun t ht hW => ⟨⟨k, st, rfl, hF.symm, by rw [ht]; exact hP⟩, hS.F ht⟩) hS.2.2 hdg (hlocks := C.2.2.2)))
theorem j_vret (C : zC p s m args meth c cc own Ts D cl tys N ad nL) {XC : String → State → State → Prop} {F : zF Unit} (hr : meth.sig.returnType = none) (hF : some (.inl (), st) = F) (hc : cells ≤ mc) (hs : slots ≤ ms) (hdg : decode cc pc = .ok (.return_, 1)) :
    zJ p l e R s m args below meth c (vx_MQ below (zQ (fun _ : Unit => none) D cl N ad ce s.heap.size F) XC args s mc ms (zA N ad s.heap.size)) D cl N ad nL (ce st) cells slots pc lv [] :=
  fun H locs ls hP hS h => W.widen hc hs (vx_ret (W.vret C.1.1 C.1.2.1 hr (fun t ht hW => ⟨⟨(), st, rfl, hF.symm, by rw [ht]; exact hP⟩, hS.F ht⟩) hS.2.2 hdg (hlocks := C.2.2.2)))
/-- a call has come back or thrown -/
theorem z_call {α β : Type} {vl : α → Option Value} {Qr : Array Value → State → Outcome → State → Prop} {F : zF α} {FM : zF β} {H : Heap} {locs : List Loc} {ls : Array Slot} {mY sY : Nat} {a : Array Value} {stk : List Value} (hne : ∀ x ∈ c.exceptionTable.toList, False) (hlk : meth.locks = false)
    (hr : vx_Run p l e R s m args below meth c H locs cells slots mY sY (F0 m pc ls stk) rest (zQ vl D cl N ad ce H.size F a) (zX D cl N ad ce H.size F) (zA N ad H.size)) (hS : va_S (zA N ad s.heap.size) s.heap H locs) (hl : lv_has ls nL lv)
    (hx : ∀ (b : Bool) (u : zS), F = some (.inr b, u) → some (.inr b, u) = FM) (hcm : cells + mY ≤ mc) (hsm : slots + sY ≤ ms)
    (kk : ∀ (r : α) (u : zS), F = some (.inl r, u) → zJ p l e R s m args below meth c (vx_MQ below Qr (zX D cl N ad ce s.heap.size FM) args s mc ms (zA N ad s.heap.size)) D cl N ad nL (ce u) (cells + mY) (slots + sY) (pc + 3) lv ((vl r).toList ++ rest)) :
    W p l e R s m args below meth c H locs cells slots (vx_MQ below Qr (zX D cl N ad ce s.heap.size FM) args s mc ms (zA N ad s.heap.size)) (F0 m pc ls stk) := by
  intro T hT X
  have hA : ∀ q : Nat, q < H.size → zA N ad H.size q → zA N ad s.heap.size q := fun q _ h => zA_mono hS.1 q h
  have hf : ∀ q : Nat, zA N ad H.size q → zA N ad s.heap.size q := fun q h => zA_mono hS.1 q h
  rcases hr T hT X with ⟨v, st₀, t, T', L, h0, X', hL, e1, e2, ⟨⟨r, u, hv, hp, hb⟩, hF⟩, st9⟩ | ⟨q, st₀, t, T', L, En, ce9, h0, X', hL, e1, e2, ⟨b, u, hp, hEn, hb, hF⟩, hce, hcv, hcl, st9⟩
  · cases hv
    obtain ⟨k1, k2, k3⟩ := vx_keep h0 e1 hS hA hf hL hF
    obtain ⟨t2, a1, b1⟩ := kk r u hp T'.heap (locs ++ L) ls (by rw [e1]; exact hb) k3 hl T' rfl X'
    exact ⟨t2, st9 t2 a1, b1⟩
  · obtain ⟨k1, k2, k3⟩ := vx_keep h0 e1 hS hA hf hL hF
    obtain ⟨t2, a1, b1⟩ := vx_out (Qc := Qr) (XC := zX D cl N ad ce s.heap.size FM) (free := zA N ad s.heap.size) (ls := ls) (rest := rest) (pc := pc) (fun x hx9 => (hne x hx9).elim) hlk (H := T'.heap) (q := q) (by rw [e1]; exact hce) hcv hcl (fun t9 ht9 _ => ⟨b, u, (hx b u hp).symm, hEn, by rw [ht9, e1]; exact hb, k3.F ht9⟩) k3.2.2 hcm hsm T' rfl X'
    exact ⟨t2, st9.trans a1, b1⟩
theorem z_blind {E : Nat → va_E} {sz : Nat} {av : List Value} (hTS : zTS N ad TX) : FrameBlind (zPc D cl tys N ad TX E sz av) := fun a U g mk q => by
  obtain ⟨q0, q1, qP, qK, qD, qT⟩ := q
  exact ⟨q0, q1, qP, va_K.moved (u := U) (U := U.calling g mk a) (Vm.Alike.refl U.vm) qK, qD, hTS.1 _ _ _ _ _ qT⟩
theorem z_pre {H : Heap} {locs : List Loc} {av : List Value} (C : zC p s m args meth c cc own Ts D cl tys N ad nL) (hTS : zTS N ad TX) (hT : TX s.heap.size s) (hP : va_P D cl (zw N ad E) H) (hS : va_S (zA N ad s.heap.size) s.heap H locs) : ∀ U : State, U.heap = H → s.WarmedH U.vm → zPc D cl tys N ad TX E H.size av av.toArray U := fun U hU hW =>
  ⟨rfl, by rw [hU], by rw [hU]; exact hP, va_K.moved hW.alike C.2.1, (C.2.2.1 E).weaken (fun _ _ _ _ => trivial), by have h := hTS.2 s U locs hT (by rw [hU]; exact hS) hW; rw [hU] at h; exact h⟩
theorem j_callV {α β : Type} {vl : α → Option Value} {Qr : Array Value → State → Outcome → State → Prop} {F : zF α} {FM : zF β} (C : zC p s m args meth c cc own Ts D cl tys N ad nL) (hne : ∀ x ∈ c.exceptionTable.toList, False) (hTS : zTS N ad TX) (hT : TX s.heap.size s)
    {y : MethodName} {wsY : List Cond} {rmY : Room} {mY sY n index maxL q0 ci n0 : Nat} {ret : Option FieldType} {bytes : ByteArray} {C0 : String} {T0 : u_T} {As : List Value} {fs : List Value}
    (hM : zM vl l y wsY rmY D cl tys N ad ce TX mY sY (.ref (ad q0) :: As) st F) (cw : CallW R s args own C0 index y bytes maxL ret wsY rmY mY sY n)
    (hq : q0 < N) (hE : ce st q0 = .inr (ci, fs)) (hcl : cl[ci]? = some (C0, T0, n0)) (hn : As.length = n) (hstk : stk = As.reverse ++ .ref (ad q0) :: rest) (hW : (rest.map fun v => v.category).sum ≤ 8) (hdg : decode cc pc = .ok (.invokevirtual index, 3)) (hf : cells + mY ≤ R.cells ∧ slots + sY ≤ R.slots)
    (hx : ∀ (b : Bool) (u : zS), F = some (.inr b, u) → some (.inr b, u) = FM) (hcm : cells + mY ≤ mc) (hsm : slots + sY ≤ ms)
    (kk : ∀ (r : α) (u : zS), F = some (.inl r, u) → zJ p l e R s m args below meth c (vx_MQ below Qr (zX D cl N ad ce s.heap.size FM) args s mc ms (zA N ad s.heap.size)) D cl N ad nL (ce u) (cells + mY) (slots + sY) (pc + 3) lv ((vl r).toList ++ rest)) :
    zJ p l e R s m args below meth c (vx_MQ below Qr (zX D cl N ad ce s.heap.size FM) args s mc ms (zA N ad s.heap.size)) D cl N ad nL (ce st) cells slots pc lv stk := by
  intro H locs ls hP hS h
  subst hstk
  exact z_call hne C.2.2.2 (vx_runV (g := F0 m pc ls (As.reverse ++ .ref (ad q0) :: rest)) C.1 (hM H.size) cw ⟨z_blind hTS, va_recv C.2.1 hP hcl ((zw_get hq).trans (by rw [hE])), z_pre C hTS hT hP hS⟩ rfl hn h.1 rfl (lv_room hW) hdg hf) hS h hx hcm hsm kk
theorem j_callS {α β : Type} {vl : α → Option Value} {Qr : Array Value → State → Outcome → State → Prop} {F : zF α} {FM : zF β} (C : zC p s m args meth c cc own Ts D cl tys N ad nL) (hne : ∀ x ∈ c.exceptionTable.toList, False) (hTS : zTS N ad TX) (hT : TX s.heap.size s)
    {y : MethodName} {wsY : List Cond} {rmY : Room} {mY sY n index maxL : Nat} {ret : Option FieldType} {bytes : ByteArray} {As : List Value}
    (hM : zM vl l y wsY rmY D cl tys N ad ce TX mY sY As st F) (cw : CallB R s args own index y bytes maxL ret wsY rmY mY sY n ∧ (Cond.static y).before args s = true)
    (hn : As.length = n) (hstk : stk = As.reverse ++ rest) (hW : (rest.map fun v => v.category).sum ≤ 8) (hdg : decode cc pc = .ok (.invokestatic index, 3)) (hf : cells + mY ≤ R.cells ∧ slots + sY ≤ R.slots)
    (hx : ∀ (b : Bool) (u : zS), F = some (.inr b, u) → some (.inr b, u) = FM) (hcm : cells + mY ≤ mc) (hsm : slots + sY ≤ ms)
    (kk : ∀ (r : α) (u : zS), F = some (.inl r, u) → zJ p l e R s m args below meth c (vx_MQ below Qr (zX D cl N ad ce s.heap.size FM) args s mc ms (zA N ad s.heap.size)) D cl N ad nL (ce u) (cells + mY) (slots + sY) (pc + 3) lv ((vl r).toList ++ rest)) :
    zJ p l e R s m args below meth c (vx_MQ below Qr (zX D cl N ad ce s.heap.size FM) args s mc ms (zA N ad s.heap.size)) D cl N ad nL (ce st) cells slots pc lv stk := by
  intro H locs ls hP hS h
  subst hstk
  exact z_call hne C.2.2.2 (vx_runS (g := F0 m pc ls (As.reverse ++ rest)) C.1 (hM H.size) cw ⟨z_blind hTS, z_pre C hTS hT hP hS⟩ rfl hn h.1 rfl (lv_room hW) hdg hf) hS h hx hcm hsm kk
end
