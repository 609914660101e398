/-! calls from the law's world -/
section
variable {p : Program} {l : Launch} {e : Env} {R : Room} {s : State} {m : MethodId} {args : Array Value} {below : List Frame} {meth : Method} {c : Code} {Q : State → Prop} {D : va_G} {cI cR cZ cJ : ClassId} {ad : Nat → Nat} {nL : Nat} {cells slots pc : Nat} {lv lv' : List (Nat × Value)} {rest stk : List Value} {cc : ByteArray} {own : String} {Ts : List Cond} {st rt : zS} {o : Nat → Int64}
theorem lce_sub57 {k : Nat} (h : k < 57) : k < 65 ∧ ad k = ad k ∧ sce cI cR ad st k = lce cI cR cZ cJ ad st rt o k := ⟨by omega, rfl, (lce_c h).symm⟩
theorem l_callC {α : Type} {vl : α → Option Value} {F : zF α} (C : zC p s m args meth c cc own Ts D zcl (lty cI cR cZ cJ) 65 ad nL) (hT : lT ad s.heap.size s)
    {y : MethodName} {wsY : List Cond} {rmY : Room} {mY sY n index maxL : Nat} {ret : Option FieldType} {bytes : ByteArray} {As : List Value}
    (hM : zM vl l y wsY rmY D zcl (zty cI cR) 57 ad (sce cI cR ad) (sT ad) mY sY (.ref (ad 0) :: As) st F) (cw : CallW R s args own RX2 index y bytes maxL ret wsY rmY mY sY n)
    (hn : As.length = n) (hstk : stk = As.reverse ++ .ref (ad 0) :: rest) (hW : (rest.map fun v => v.category).sum ≤ 8) (hdg : decode cc pc = .ok (.invokevirtual index, 3)) (hf : cells + mY ≤ R.cells ∧ slots + sY ≤ R.slots)
    (kk : ∀ (r : α) (u : zS), F = some (.inl r, u) → zJ p l e R s m args below meth c Q D zcl 65 ad nL (lce cI cR cZ cJ ad u rt o) (cells + mY) (slots + sY) (pc + 3) lv ((vl r).toList ++ rest))
    (kx : ∀ (b : Bool) (u : zS), F = some (.inr b, u) → ∀ (H1 : Heap) (locs1 : List Loc) (ls : Array Slot) (q : Nat) (ce9 : Cell), va_P D zcl (zw 65 ad (lce cI cR cZ cJ ad u rt o)) H1 → va_S (zA 65 ad s.heap.size) s.heap H1 locs1 → lv_has ls nL lv → H1[q]? = some ce9 → ce9.vm = .none → s.vm.findClass (zexn b) = some ce9.cls → vx_W p l e R s m args below meth c H1 locs1 (cells + mY) (slots + sY) Q (F0 m pc ls rest) q) :
    zJ p l e R s m args below meth c Q D zcl 65 ad nL (lce cI cR cZ cJ ad st rt o) cells slots pc lv stk := by
  intro H locs ls hP hS h
  subst hstk
  have hP57 : va_P D zcl (zw 57 ad (sce cI cR ad st)) H := b_sub (ι := fun k => k) hP (fun k hk => ⟨by omega, rfl, (lce_c hk).symm⟩)
  refine b_call (ι := fun k => k) (E2 := fun u => lce cI cR cZ cJ ad u rt o) (vx_runV (g := F0 m pc ls (As.reverse ++ .ref (ad 0) :: rest)) C.1 (hM H.size) cw ⟨z_blind sT_S, va_recv C.2.1 hP57 (ci := 2) rfl ((zw_get (k := 0) (by decide)).trans (by rw [sce_0])), fun U hU hW => ⟨rfl, by rw [hU], by rw [hU]; exact hP57, va_K.moved hW.alike (C.2.1.sub (tys' := zty cI cR) [0, 1] rfl), b_subD (ι := fun k => k) (C.2.2.1 (lce cI cR cZ cJ ad st rt o)) (fun k hk => ⟨by omega, rfl⟩) (fun _ _ _ _ h => h), ?_⟩⟩ rfl hn h.1 rfl (lv_room hW) hdg hf) hS hP (C.2.2.1 _) (fun u k hk => ⟨by omega, rfl, lce_c hk⟩) (fun u j hj hne => ?_) (fun r u hF H1 locs1 hP1 hS1 => kk r u hF H1 locs1 ls hP1 hS1 h) (fun b u hF H1 locs1 q ce9 hP1 hS1 h1 h2 h3 => kx b u hF H1 locs1 ls q ce9 hP1 hS1 h h1 h2 h3)
  · have h9 := lT_S.2 s U locs hT (by rw [hU]; exact hS) hW
    rw [hU] at h9
    exact h9.s
  · have : ¬ j < 57 := fun z => hne j z rfl
    unfold lce
    rw [if_neg this, if_neg this]
theorem l_callM {α : Type} {vl : α → Option Value} {F : zF α} (C : zC p s m args meth c cc own Ts D zcl (lty cI cR cZ cJ) 65 ad nL)
    {y : MethodName} {wsY : List Cond} {rmY : Room} {mY sY n index maxL : Nat} {ret : Option FieldType} {bytes : ByteArray} {As : List Value}
    (hM : zM vl l y wsY rmY D zcl (mty cI cZ) 7 (fun j => ad (57 + j)) (mce cI cZ (fun j => ad (57 + j))) mT mY sY (.ref (ad 57) :: As) rt F) (cw : CallW R s args own RX3 index y bytes maxL ret wsY rmY mY sY n)
    (hn : As.length = n) (hstk : stk = As.reverse ++ .ref (ad 57) :: rest) (hW : (rest.map fun v => v.category).sum ≤ 8) (hdg : decode cc pc = .ok (.invokevirtual index, 3)) (hf : cells + mY ≤ R.cells ∧ slots + sY ≤ R.slots) (hnx : ∀ (b : Bool) (u : zS), F ≠ some (.inr b, u))
    (kk : ∀ (r : α) (u : zS), F = some (.inl r, u) → zJ p l e R s m args below meth c Q D zcl 65 ad nL (lce cI cR cZ cJ ad st u o) (cells + mY) (slots + sY) (pc + 3) lv ((vl r).toList ++ rest)) :
    zJ p l e R s m args below meth c Q D zcl 65 ad nL (lce cI cR cZ cJ ad st rt o) cells slots pc lv stk := by
  intro H locs ls hP hS h
  subst hstk
  have hP7 : va_P D zcl (zw 7 (fun j => ad (57 + j)) (mce cI cZ (fun j => ad (57 + j)) rt)) H := b_sub (ι := fun k => 57 + k) hP (fun k hk => ⟨by omega, rfl, (lce_m hk).symm⟩)
  refine b_call (ι := fun k => 57 + k) (E2 := fun u => lce cI cR cZ cJ ad st u o) (vx_runV (g := F0 m pc ls (As.reverse ++ .ref (ad 57) :: rest)) C.1 (hM H.size) cw ⟨z_blind mT_S, va_recv C.2.1 hP7 (ci := 3) rfl ((zw_get (k := 0) (by decide)).trans (by rw [mce_0])), fun U hU hW => ⟨rfl, by rw [hU], by rw [hU]; exact hP7, va_K.moved hW.alike (C.2.1.sub (tys' := mty cI cZ) [0, 2] rfl), b_subD (ι := fun k => 57 + k) (C.2.2.1 (lce cI cR cZ cJ ad st rt o)) (fun k hk => ⟨by omega, rfl⟩) (fun i j _ _ h => by omega), trivial⟩⟩ rfl hn h.1 rfl (lv_room hW) hdg hf) hS hP (C.2.2.1 _) (fun u k hk => ⟨by omega, rfl, lce_m hk⟩) (fun u j hj hne => ?_) (fun r u hF H1 locs1 hP1 hS1 => kk r u hF H1 locs1 ls hP1 hS1 h) (fun b u hF => absurd hF (hnx b u))
  have : ¬ (57 ≤ j ∧ j < 64) := fun z => hne (j - 57) (by omega) (by omega)
  unfold lce
  by_cases c : j < 57
  · rw [if_pos c, if_pos c]
  · rw [if_neg c, if_neg c, if_neg (by omega), if_neg (by omega)]
/-! the law's helpers: what they answer -/
def HR {α : Type} (F : zF α) (cv : α → Option Int64) (o : Nat → Int64) (k : Int32) (u : zS) (o' : Nat → Int64) : Prop :=
  (∃ v, F = some (.inl v, u) ∧ k = 0 ∧ o' = (match cv v with | some w => vp_updL o 0 w | none => o)) ∨ (∃ b : Bool, F = some (.inr b, u) ∧ k = (if b then 1 else 2) ∧ o' = o)
abbrev lPc (D : va_G) (cI cR cZ cJ : ClassId) (ad : Nat → Nat) (st rt : zS) (o : Nat → Int64) (sz : Nat) (av : List Value) : Array Value → State → Prop :=
  va_Pc av (fun U => U.heap.size = sz ∧ va_P D zcl (zw 65 ad (lce cI cR cZ cJ ad st rt o)) U.heap ∧ va_K D zcl (lty cI cR cZ cJ) U ∧ va_D (fun _ => True) (zw 65 ad (lce cI cR cZ cJ ad st rt o)) ∧ lT ad sz U)
def lQc {α : Type} (F : zF α) (cv : α → Option Int64) (D : va_G) (cI cR cZ cJ : ClassId) (ad : Nat → Nat) (rt : zS) (o : Nat → Int64) (sz : Nat) : Array Value → State → Outcome → State → Prop := fun _ st0 oc t =>
  (∃ (k : Int32) (u : zS) (o' : Nat → Int64), oc = .returned (some (.int k)) ∧ HR F cv o k u o' ∧ va_P D zcl (zw 65 ad (lce cI cR cZ cJ ad u rt o')) t.heap) ∧ va_F (zA 65 ad sz) st0 t
def lX : String → State → State → Prop := fun _ _ _ => False
theorem l_met {y : MethodName} {ws : List Cond} {rm : Room} {Pc : Array Value → State → Prop} {Qc : Array Value → State → Outcome → State → Prop} {mc ms : Nat} {free : Addr → Prop} (hM : vx_Met l y ws rm Pc Qc lX mc ms free) : Met l y ws rm Pc Qc mc ms free := by
  intro p e h1 h2 h3 s m args below h4 h5 h6 h7
  obtain ⟨n, o, k1, k2, k3, k4⟩ := hM p e h1 h2 h3 s m args below h4 h5 h6 h7
  refine ⟨n, o, k1, k2, k3, ?_⟩
  rcases k4 with k4 | ⟨q, _, _, _, _, h9, _⟩
  · exact k4
  · exact absurd h9 id
theorem l_iret {α : Type} {F : zF α} {cv : α → Option Int64} {mc ms : Nat} {k : Int32} {u : zS} {o o' : Nat → Int64} (C : zC p s m args meth c cc own Ts D zcl (lty cI cR cZ cJ) 65 ad nL) (hr : meth.sig.returnType = some .int) (hF : HR F cv o k u o') (hc : cells ≤ mc) (hs : slots ≤ ms) (hdg : decode cc pc = .ok (.ireturn, 1)) :
    zJ p l e R s m args below meth c (vx_MQ below (lQc F cv D cI cR cZ cJ ad rt o s.heap.size) lX args s mc ms (zA 65 ad s.heap.size)) D zcl 65 ad nL (lce cI cR cZ cJ ad u rt o') cells slots pc lv [.int k] :=
  fun H locs ls hP hS h => W.widen hc hs (vx_ret (W.iret C.1.1 C.1.2.1 hr (fun t ht hW => ⟨⟨k, u, o', rfl, hF, by rw [ht]; exact hP⟩, hS.F ht⟩) hS.2.2 hdg (hlocks := C.2.2.2)))
theorem l_ofJ {α : Type} {F : zF α} {cv : α → Option Int64} {y : MethodName} {ws ws' : List Cond} {rm : Room} {mc ms : Nat} {av : List Value} {maxL : Nat} {ret : Option FieldType} {hh : List (Nat × Nat × Nat × Nat)} {sz : Nat} {lv : List (Nat × Value)} (hy : plainName y.cls = true) (hw : ws = Cond.codeWith y cc maxL ret hh :: ws') (hav : (lg_sl av).length ≤ maxL) (hlv : lv_args 0 av = lv)
    (body : ∀ (p : Program) (e : Env) (s : State) (m : MethodId) (args : Array Value) (below : List Frame) (meth : Method) (c : Code), zC p s m args meth c cc y.cls ws D zcl (lty cI cR cZ cJ) 65 ad maxL → c.exceptionTable.toList = tableOf hh → lT ad s.heap.size s → meth.sig.returnType = ret →
      zJ p l e rm s m args below meth c (vx_MQ below (lQc F cv D cI cR cZ cJ ad rt o s.heap.size) lX args s mc ms (zA 65 ad s.heap.size)) D zcl 65 ad maxL (lce cI cR cZ cJ ad st rt o) 0 0 0 lv []) :
    Met l y ws rm (lPc D cI cR cZ cJ ad st rt o sz av) (lQc F cv D cI cR cZ cJ ad rt o sz) mc ms (zA 65 ad sz) := by
  refine l_met (vx_ofWH hy hw ?_)
  intro p e s m args below meth c s₁ B hml hv
  obtain ⟨rfl, hsz, hP, hK, hD0, hT⟩ := hv
  subst hsz
  have hts := atoms_spec (ws := ws) B.pre
  have hown : s.vm.findClass y.cls = some m.cls := findClass_of_methodNamed B.named
  have hcw : (Cond.codeWith y cc maxL ret hh).before av.toArray s = true := hts _ (by rw [hw]; exact List.mem_cons_self)
  have htab := vx_table (x := y) B hcw
  have hl := lv_entry av (n := maxL) hav
  rw [lg_entry_eq]
  generalize (lg_sl av ++ List.replicate (maxL - (lg_sl av).length) Slot.unset).toArray = ls at hl ⊢
  rw [hlv] at hl
  exact body p e s m av.toArray below meth c ⟨⟨B.exec, B.bytes, hml, hown, hts⟩, hK, fun E => zw_D (zw_self hD0), B.notSynchronized⟩ htab hT B.returns s.heap [] ls hP va_S.rf hl
end
