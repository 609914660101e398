/-! results: a call's result goes on into what follows (zb); and the calls of zJ by the kind of their answer -/
def zb {α β : Type} (F : zF α) (K : α → zS → zF β) : zF β := match F with
  | none => none
  | some (.inr b, u) => some (.inr b, u)
  | some (.inl r, u) => K r u
theorem zb_n {α β : Type} {F : zF α} {K : α → zS → zF β} {G : zF β} (h : zb F K = G) (hn : G ≠ none) : F ≠ none := fun e => hn (by rw [← h, e]; rfl)
theorem zb_x {α β : Type} {F : zF α} {K : α → zS → zF β} {G : zF β} {b : Bool} {u : zS} (h : zb F K = G) (e : F = some (.inr b, u)) : some (.inr b, u) = G := by rw [← h, e]; rfl
theorem zb_l {α β : Type} {F : zF α} {K : α → zS → zF β} {G : zF β} {r : α} {u : zS} (h : zb F K = G) (e : F = some (.inl r, u)) : K r u = G := by rw [← h, e]; rfl
theorem zif_c {c : Prop} [Decidable c] {α : Type} {A G : Option α} (h : (if c then A else none) = G) (hn : G ≠ none) : c := Decidable.byContradiction fun q => hn (by rw [← h, if_neg q])
theorem zif_t {c : Prop} [Decidable c] {α : Type} {A B G : α} (h : (if c then A else B) = G) (hc : c) : A = G := by rw [if_pos hc] at h; exact h
theorem zif_f {c : Prop} [Decidable c] {α : Type} {A B G : α} (h : (if c then A else B) = G) (hc : ¬ c) : B = G := by rw [if_neg hc] at h; exact h
abbrev sJ {α : Type} (vl : α → Option Value) (F : zF α) (mc ms : Nat) (p : Program) (l : Launch) (e : Env) (R : Room) (s : State) (m : MethodId) (args : Array Value) (below : List Frame) (meth : Method) (c : Code) (D : va_G) (cI cR : ClassId) (ad : Nat → Nat) (nL : Nat) (st : zS) (cells slots pc : Nat) (lv : List (Nat × Value)) (stk : List Value) : Prop :=
  zJ p l e R s m args below meth c (vx_MQ below (zQ vl D zcl 57 ad (sce cI cR ad) s.heap.size F) (zX D zcl 57 ad (sce cI cR ad) s.heap.size F) args s mc ms (zA 57 ad s.heap.size)) D zcl 57 ad nL (sce cI cR ad st) cells slots pc lv stk
section
variable {p : Program} {l : Launch} {e : Env} {R : Room} {s : State} {m : MethodId} {args : Array Value} {below : List Frame} {meth : Method} {c : Code} {Q : State → Prop} {D : va_G} {cl : List vw_C} {tys : List (ClassId × FieldType)} {N : Nat} {ad : Nat → Nat} {nL : Nat} {E : Nat → va_E} {cells slots pc : Nat} {lv lv' : List (Nat × Value)} {rest stk : List Value} {cc : ByteArray} {own : String} {Ts : List Cond} {ce : zS → Nat → va_E} {TX : Nat → State → Prop} {mc ms : Nat} {st : zS}

theorem j_callVi {β : Type} {Qr : Array Value → State → Outcome → State → Prop} {F : zF Int32} {FM : zF β} (C : zC p s m args meth c cc own Ts D cl tys N ad nL) (hne : ∀ x ∈ c.exceptionTable.toList, False) (hTS : zTS N ad TX) (hT : TX s.heap.size s)
    {y : MethodName} {wsY : List Cond} {rmY : Room} {mY sY n index maxL q0 ci n0 : Nat} {ret : Option FieldType} {bytes : ByteArray} {C0 : String} {T0 : u_T} {As : List Value} {fs : List Value}
    (hM : zM (fun v : Int32 => some (.int v)) l y wsY rmY D cl tys N ad ce TX mY sY (.ref (ad q0) :: As) st F) (cw : CallW R s args own C0 index y bytes maxL ret wsY rmY mY sY n)
    (hq : q0 < N) (hE : ce st q0 = .inr (ci, fs)) (hcl : cl[ci]? = some (C0, T0, n0)) (hn : As.length = n) (hstk : stk = As.reverse ++ .ref (ad q0) :: rest) (hW : (rest.map fun v => v.category).sum ≤ 8) (hdg : decode cc pc = .ok (.invokevirtual index, 3)) (hf : cells + mY ≤ R.cells ∧ slots + sY ≤ R.slots)
    (hx : ∀ (b : Bool) (u : zS), F = some (.inr b, u) → some (.inr b, u) = FM) (hcm : cells + mY ≤ mc) (hsm : slots + sY ≤ ms)
    (kk : ∀ (r : Int32) (u : zS), F = some (.inl r, u) → zJ p l e R s m args below meth c (vx_MQ below Qr (zX D cl N ad ce s.heap.size FM) args s mc ms (zA N ad s.heap.size)) D cl N ad nL (ce u) (cells + mY) (slots + sY) (pc + 3) lv (.int r :: rest)) : zJ p l e R s m args below meth c (vx_MQ below Qr (zX D cl N ad ce s.heap.size FM) args s mc ms (zA N ad s.heap.size)) D cl N ad nL (ce st) cells slots pc lv stk :=
  j_callV C hne hTS hT hM cw hq hE hcl hn hstk hW hdg hf hx hcm hsm kk
theorem j_callSi {β : Type} {Qr : Array Value → State → Outcome → State → Prop} {F : zF Int32} {FM : zF β} (C : zC p s m args meth c cc own Ts D cl tys N ad nL) (hne : ∀ x ∈ c.exceptionTable.toList, False) (hTS : zTS N ad TX) (hT : TX s.heap.size s)
    {y : MethodName} {wsY : List Cond} {rmY : Room} {mY sY n index maxL : Nat} {ret : Option FieldType} {bytes : ByteArray} {As : List Value}
    (hM : zM (fun v : Int32 => some (.int v)) l y wsY rmY D cl tys N ad ce TX mY sY As st F) (cw : CallB R s args own index y bytes maxL ret wsY rmY mY sY n ∧ (Cond.static y).before args s = true)
    (hn : As.length = n) (hstk : stk = As.reverse ++ rest) (hW : (rest.map fun v => v.category).sum ≤ 8) (hdg : decode cc pc = .ok (.invokestatic index, 3)) (hf : cells + mY ≤ R.cells ∧ slots + sY ≤ R.slots)
    (hx : ∀ (b : Bool) (u : zS), F = some (.inr b, u) → some (.inr b, u) = FM) (hcm : cells + mY ≤ mc) (hsm : slots + sY ≤ ms)
    (kk : ∀ (r : Int32) (u : zS), F = some (.inl r, u) → zJ p l e R s m args below meth c (vx_MQ below Qr (zX D cl N ad ce s.heap.size FM) args s mc ms (zA N ad s.heap.size)) D cl N ad nL (ce u) (cells + mY) (slots + sY) (pc + 3) lv (.int r :: rest)) : zJ p l e R s m args below meth c (vx_MQ below Qr (zX D cl N ad ce s.heap.size FM) args s mc ms (zA N ad s.heap.size)) D cl N ad nL (ce st) cells slots pc lv stk :=
  j_callS C hne hTS hT hM cw hn hstk hW hdg hf hx hcm hsm kk
theorem j_callVl {β : Type} {Qr : Array Value → State → Outcome → State → Prop} {F : zF Int64} {FM : zF β} (C : zC p s m args meth c cc own Ts D cl tys N ad nL) (hne : ∀ x ∈ c.exceptionTable.toList, False) (hTS : zTS N ad TX) (hT : TX s.heap.size s)
    {y : MethodName} {wsY : List Cond} {rmY : Room} {mY sY n index maxL q0 ci n0 : Nat} {ret : Option FieldType} {bytes : ByteArray} {C0 : String} {T0 : u_T} {As : List Value} {fs : List Value}
    (hM : zM (fun v : Int64 => some (.long v)) l y wsY rmY D cl tys N ad ce TX mY sY (.ref (ad q0) :: As) st F) (cw : CallW R s args own C0 index y bytes maxL ret wsY rmY mY sY n)
    (hq : q0 < N) (hE : ce st q0 = .inr (ci, fs)) (hcl : cl[ci]? = some (C0, T0, n0)) (hn : As.length = n) (hstk : stk = As.reverse ++ .ref (ad q0) :: rest) (hW : (rest.map fun v => v.category).sum ≤ 8) (hdg : decode cc pc = .ok (.invokevirtual index, 3)) (hf : cells + mY ≤ R.cells ∧ slots + sY ≤ R.slots)
    (hx : ∀ (b : Bool) (u : zS), F = some (.inr b, u) → some (.inr b, u) = FM) (hcm : cells + mY ≤ mc) (hsm : slots + sY ≤ ms)
    (kk : ∀ (r : Int64) (u : zS), F = some (.inl r, u) → zJ p l e R s m args below meth c (vx_MQ below Qr (zX D cl N ad ce s.heap.size FM) args s mc ms (zA N ad s.heap.size)) D cl N ad nL (ce u) (cells + mY) (slots + sY) (pc + 3) lv (.long r :: rest)) : zJ p l e R s m args below meth c (vx_MQ below Qr (zX D cl N ad ce s.heap.size FM) args s mc ms (zA N ad s.heap.size)) D cl N ad nL (ce st) cells slots pc lv stk :=
  j_callV C hne hTS hT hM cw hq hE hcl hn hstk hW hdg hf hx hcm hsm kk
theorem j_callSl {β : Type} {Qr : Array Value → State → Outcome → State → Prop} {F : zF Int64} {FM : zF β} (C : zC p s m args meth c cc own Ts D cl tys N ad nL) (hne : ∀ x ∈ c.exceptionTable.toList, False) (hTS : zTS N ad TX) (hT : TX s.heap.size s)
    {y : MethodName} {wsY : List Cond} {rmY : Room} {mY sY n index maxL : Nat} {ret : Option FieldType} {bytes : ByteArray} {As : List Value}
    (hM : zM (fun v : Int64 => some (.long v)) l y wsY rmY D cl tys N ad ce TX mY sY As st F) (cw : CallB R s args own index y bytes maxL ret wsY rmY mY sY n ∧ (Cond.static y).before args s = true)
    (hn : As.length = n) (hstk : stk = As.reverse ++ rest) (hW : (rest.map fun v => v.category).sum ≤ 8) (hdg : decode cc pc = .ok (.invokestatic index, 3)) (hf : cells + mY ≤ R.cells ∧ slots + sY ≤ R.slots)
    (hx : ∀ (b : Bool) (u : zS), F = some (.inr b, u) → some (.inr b, u) = FM) (hcm : cells + mY ≤ mc) (hsm : slots + sY ≤ ms)
    (kk : ∀ (r : Int64) (u : zS), F = some (.inl r, u) → zJ p l e R s m args below meth c (vx_MQ below Qr (zX D cl N ad ce s.heap.size FM) args s mc ms (zA N ad s.heap.size)) D cl N ad nL (ce u) (cells + mY) (slots + sY) (pc + 3) lv (.long r :: rest)) : zJ p l e R s m args below meth c (vx_MQ below Qr (zX D cl N ad ce s.heap.size FM) args s mc ms (zA N ad s.heap.size)) D cl N ad nL (ce st) cells slots pc lv stk :=
  j_callS C hne hTS hT hM cw hn hstk hW hdg hf hx hcm hsm kk
theorem j_callVv {β : Type} {Qr : Array Value → State → Outcome → State → Prop} {F : zF Unit} {FM : zF β} (C : zC p s m args meth c cc own Ts D cl tys N ad nL) (hne : ∀ x ∈ c.exceptionTable.toList, False) (hTS : zTS N ad TX) (hT : TX s.heap.size s)
    {y : MethodName} {wsY : List Cond} {rmY : Room} {mY sY n index maxL q0 ci n0 : Nat} {ret : Option FieldType} {bytes : ByteArray} {C0 : String} {T0 : u_T} {As : List Value} {fs : List Value}
    (hM : zM (fun _ : Unit => none) l y wsY rmY D cl tys N ad ce TX mY sY (.ref (ad q0) :: As) st F) (cw : CallW R s args own C0 index y bytes maxL ret wsY rmY mY sY n)
    (hq : q0 < N) (hE : ce st q0 = .inr (ci, fs)) (hcl : cl[ci]? = some (C0, T0, n0)) (hn : As.length = n) (hstk : stk = As.reverse ++ .ref (ad q0) :: rest) (hW : (rest.map fun v => v.category).sum ≤ 8) (hdg : decode cc pc = .ok (.invokevirtual index, 3)) (hf : cells + mY ≤ R.cells ∧ slots + sY ≤ R.slots)
    (hx : ∀ (b : Bool) (u : zS), F = some (.inr b, u) → some (.inr b, u) = FM) (hcm : cells + mY ≤ mc) (hsm : slots + sY ≤ ms)
    (kk : ∀ (r : Unit) (u : zS), F = some (.inl r, u) → zJ p l e R s m args below meth c (vx_MQ below Qr (zX D cl N ad ce s.heap.size FM) args s mc ms (zA N ad s.heap.size)) D cl N ad nL (ce u) (cells + mY) (slots + sY) (pc + 3) lv rest) : zJ p l e R s m args below meth c (vx_MQ below Qr (zX D cl N ad ce s.heap.size FM) args s mc ms (zA N ad s.heap.size)) D cl N ad nL (ce st) cells slots pc lv stk :=
  j_callV C hne hTS hT hM cw hq hE hcl hn hstk hW hdg hf hx hcm hsm kk
theorem j_callSv {β : Type} {Qr : Array Value → State → Outcome → State → Prop} {F : zF Unit} {FM : zF β} (C : zC p s m args meth c cc own Ts D cl tys N ad nL) (hne : ∀ x ∈ c.exceptionTable.toList, False) (hTS : zTS N ad TX) (hT : TX s.heap.size s)
    {y : MethodName} {wsY : List Cond} {rmY : Room} {mY sY n index maxL : Nat} {ret : Option FieldType} {bytes : ByteArray} {As : List Value}
    (hM : zM (fun _ : Unit => none) l y wsY rmY D cl tys N ad ce TX mY sY As st F) (cw : CallB R s args own index y bytes maxL ret wsY rmY mY sY n ∧ (Cond.static y).before args s = true)
    (hn : As.length = n) (hstk : stk = As.reverse ++ rest) (hW : (rest.map fun v => v.category).sum ≤ 8) (hdg : decode cc pc = .ok (.invokestatic index, 3)) (hf : cells + mY ≤ R.cells ∧ slots + sY ≤ R.slots)
    (hx : ∀ (b : Bool) (u : zS), F = some (.inr b, u) → some (.inr b, u) = FM) (hcm : cells + mY ≤ mc) (hsm : slots + sY ≤ ms)
    (kk : ∀ (r : Unit) (u : zS), F = some (.inl r, u) → zJ p l e R s m args below meth c (vx_MQ below Qr (zX D cl N ad ce s.heap.size FM) args s mc ms (zA N ad s.heap.size)) D cl N ad nL (ce u) (cells + mY) (slots + sY) (pc + 3) lv rest) : zJ p l e R s m args below meth c (vx_MQ below Qr (zX D cl N ad ce s.heap.size FM) args s mc ms (zA N ad s.heap.size)) D cl N ad nL (ce st) cells slots pc lv stk :=
  j_callS C hne hTS hT hM cw hn hstk hW hdg hf hx hcm hsm kk
theorem j_callVr {β : Type} {Qr : Array Value → State → Outcome → State → Prop} {F : zF Nat} {FM : zF β} (C : zC p s m args meth c cc own Ts D cl tys N ad nL) (hne : ∀ x ∈ c.exceptionTable.toList, False) (hTS : zTS N ad TX) (hT : TX s.heap.size s)
    {y : MethodName} {wsY : List Cond} {rmY : Room} {mY sY n index maxL q0 ci n0 : Nat} {ret : Option FieldType} {bytes : ByteArray} {C0 : String} {T0 : u_T} {As : List Value} {fs : List Value}
    (hM : zM (fun k : Nat => some (.ref (ad k))) l y wsY rmY D cl tys N ad ce TX mY sY (.ref (ad q0) :: As) st F) (cw : CallW R s args own C0 index y bytes maxL ret wsY rmY mY sY n)
    (hq : q0 < N) (hE : ce st q0 = .inr (ci, fs)) (hcl : cl[ci]? = some (C0, T0, n0)) (hn : As.length = n) (hstk : stk = As.reverse ++ .ref (ad q0) :: rest) (hW : (rest.map fun v => v.category).sum ≤ 8) (hdg : decode cc pc = .ok (.invokevirtual index, 3)) (hf : cells + mY ≤ R.cells ∧ slots + sY ≤ R.slots)
    (hx : ∀ (b : Bool) (u : zS), F = some (.inr b, u) → some (.inr b, u) = FM) (hcm : cells + mY ≤ mc) (hsm : slots + sY ≤ ms)
    (kk : ∀ (r : Nat) (u : zS), F = some (.inl r, u) → zJ p l e R s m args below meth c (vx_MQ below Qr (zX D cl N ad ce s.heap.size FM) args s mc ms (zA N ad s.heap.size)) D cl N ad nL (ce u) (cells + mY) (slots + sY) (pc + 3) lv (.ref (ad r) :: rest)) : zJ p l e R s m args below meth c (vx_MQ below Qr (zX D cl N ad ce s.heap.size FM) args s mc ms (zA N ad s.heap.size)) D cl N ad nL (ce st) cells slots pc lv stk :=
  j_callV C hne hTS hT hM cw hq hE hcl hn hstk hW hdg hf hx hcm hsm kk
theorem j_callSr {β : Type} {Qr : Array Value → State → Outcome → State → Prop} {F : zF Nat} {FM : zF β} (C : zC p s m args meth c cc own Ts D cl tys N ad nL) (hne : ∀ x ∈ c.exceptionTable.toList, False) (hTS : zTS N ad TX) (hT : TX s.heap.size s)
    {y : MethodName} {wsY : List Cond} {rmY : Room} {mY sY n index maxL : Nat} {ret : Option FieldType} {bytes : ByteArray} {As : List Value}
    (hM : zM (fun k : Nat => some (.ref (ad k))) l y wsY rmY D cl tys N ad ce TX mY sY As st F) (cw : CallB R s args own index y bytes maxL ret wsY rmY mY sY n ∧ (Cond.static y).before args s = true)
    (hn : As.length = n) (hstk : stk = As.reverse ++ rest) (hW : (rest.map fun v => v.category).sum ≤ 8) (hdg : decode cc pc = .ok (.invokestatic index, 3)) (hf : cells + mY ≤ R.cells ∧ slots + sY ≤ R.slots)
    (hx : ∀ (b : Bool) (u : zS), F = some (.inr b, u) → some (.inr b, u) = FM) (hcm : cells + mY ≤ mc) (hsm : slots + sY ≤ ms)
    (kk : ∀ (r : Nat) (u : zS), F = some (.inl r, u) → zJ p l e R s m args below meth c (vx_MQ below Qr (zX D cl N ad ce s.heap.size FM) args s mc ms (zA N ad s.heap.size)) D cl N ad nL (ce u) (cells + mY) (slots + sY) (pc + 3) lv (.ref (ad r) :: rest)) : zJ p l e R s m args below meth c (vx_MQ below Qr (zX D cl N ad ce s.heap.size FM) args s mc ms (zA N ad s.heap.size)) D cl N ad nL (ce st) cells slots pc lv stk :=
  j_callS C hne hTS hT hM cw hn hstk hW hdg hf hx hcm hsm kk
theorem z_met {α : Type} {vl : α → Option Value} {y : MethodName} {ws : List Cond} {rm : Room} {mc ms : Nat} {av : List Value} {st : zS} {F : zF α} {sz : Nat} (hM : zM vl l y ws rm D cl tys N ad ce TX mc ms av st F) (hni : ∀ (b : Bool) (u : zS), F ≠ some (.inr b, u)) : Met l y ws rm (zPc D cl tys N ad TX (ce st) sz av) (zQ vl D cl N ad ce sz F) mc ms (zA N ad sz) := by
  intro p e h1 h2 h3 s m args below h4 h5 h6 h7
  obtain ⟨n, o, k1, k2, k3, k4⟩ := hM sz p e h1 h2 h3 s m args below h4 h5 h6 h7
  refine ⟨n, o, k1, k2, k3, ?_⟩
  rcases k4 with k4 | ⟨q, _, _, _, _, ⟨b, u, hF, _⟩, _⟩
  · exact k4
  · exact absurd hF (hni b u)
theorem j_callSNi {β : Type} {Qr : Array Value → State → Outcome → State → Prop} {F : zF Int32} {FM : zF β} (C : zC p s m args meth c cc own Ts D cl tys N ad nL) (hne : ∀ x ∈ c.exceptionTable.toList, False) (hTS : zTS N ad TX) (hT : TX s.heap.size s)
    {y : MethodName} {wsY : List Cond} {rmY : Room} {mY sY n index maxL : Nat} {ret : Option FieldType} {bytes : ByteArray} {As : List Value} {host : String}
    (hM : zM (fun v : Int32 => some (.int v)) l y wsY rmY D cl tys N ad ce TX mY sY As st F) (hni : ∀ (b : Bool) (u : zS), F ≠ some (.inr b, u)) (cw : va_CN R s args own index y host bytes maxL ret wsY rmY mY sY n) (hsta : (Cond.static y).before args s = true)
    (hn : As.length = n) (hstk : stk = As.reverse ++ rest) (hW : (rest.map fun v => v.category).sum ≤ 8) (hdg : decode cc pc = .ok (.invokestatic index, 3)) (hf : cells + mY ≤ R.cells ∧ slots + sY ≤ R.slots)
    (hx : ∀ (b : Bool) (u : zS), F = some (.inr b, u) → some (.inr b, u) = FM) (hcm : cells + mY ≤ mc) (hsm : slots + sY ≤ ms)
    (kk : ∀ (r : Int32) (u : zS), F = some (.inl r, u) → zJ p l e R s m args below meth c (vx_MQ below Qr (zX D cl N ad ce s.heap.size FM) args s mc ms (zA N ad s.heap.size)) D cl N ad nL (ce u) (cells + mY) (slots + sY) (pc + 3) lv (.int r :: rest)) : zJ p l e R s m args below meth c (vx_MQ below Qr (zX D cl N ad ce s.heap.size FM) args s mc ms (zA N ad s.heap.size)) D cl N ad nL (ce st) cells slots pc lv stk := by
  intro H locs ls hP hS h
  subst hstk
  have hr := va_runSN (R := R) (e := e) (below := below) (meth := meth) (locs := locs) (cells := cells) (slots := slots) (rest := rest) (g := F0 m pc ls (As.reverse ++ rest)) C.1 (z_met (sz := H.size) hM hni) ⟨cw, hsta, trivial⟩ ⟨z_blind hTS, z_pre C hTS hT hP hS⟩ rfl hn h.1 rfl (lv_room hW) hdg hf
  exact z_call hne C.2.2.2 (fun T hT9 X => Or.inl (hr T hT9 X)) hS h hx hcm hsm kk
end
/-- a name for what comes out -/
def zl {α β : Type} (x : α) (K : α → β) : β := K x
theorem zl_e {α β : Type} {x : α} {K : α → β} {G : β} (h : zl x K = G) : ∃ y, y = x ∧ K y = G := ⟨x, rfl, h⟩
