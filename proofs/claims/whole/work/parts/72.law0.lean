/-! the law's world: 65 cells. 0 .. 56 the class's, 57 .. 63 the reference's, 64 the law's own long[1] -/
abbrev lty (cI cR cZ cJ : ClassId) : List (ClassId × FieldType) := [(cI, .int), (cR, .object RX1), (cZ, .boolean), (cJ, .long)]
def lce (cI cR cZ cJ : ClassId) (ad : Nat → Nat) (st rt : zS) (o : Nat → Int64) (k : Nat) : va_E :=
  if k < 57 then sce cI cR ad st k else if k < 64 then mce cI cZ (fun j => ad (57 + j)) rt (k - 57) else .inl (cJ, 1, .inr (.inl o))
theorem lce_c {cI cR cZ cJ : ClassId} {ad : Nat → Nat} {st rt : zS} {o : Nat → Int64} {k : Nat} (h : k < 57) : lce cI cR cZ cJ ad st rt o k = sce cI cR ad st k := if_pos h
theorem lce_m {cI cR cZ cJ : ClassId} {ad : Nat → Nat} {st rt : zS} {o : Nat → Int64} {k : Nat} (h : k < 7) : lce cI cR cZ cJ ad st rt o (57 + k) = mce cI cZ (fun j => ad (57 + j)) rt k := by
  unfold lce
  rw [if_neg (by omega), if_pos (by omega), show 57 + k - 57 = k by omega]
theorem lce_o {cI cR cZ cJ : ClassId} {ad : Nat → Nat} {st rt : zS} {o : Nat → Int64} : lce cI cR cZ cJ ad st rt o 64 = .inl (cJ, 1, .inr (.inl o)) := rfl
/-- what is carried for throws and catches -/
def lT (ad : Nat → Nat) (sz : Nat) (U : State) : Prop :=
  (∀ q ∈ sstr, ∃ a : Nat, vk_R RX2 q.1 q.2 a U) ∧ vx_Zq Bundle.tN "UNASSIGNED_STACK" Bundle.steD (zA 65 ad sz) U U.heap ∧ vx_Zq Bundle.tN "SUPPRESSED_SENTINEL" Bundle.listD (zA 65 ad sz) U U.heap ∧
  (∀ w ∈ sbad, va_Nw w U) ∧ va_Nw (.methodLinkNest RX1 32 yX2_leavesFor RX2) U ∧ va_Nc "java/lang/IllegalStateException" "java/lang/IllegalArgumentException" U
theorem lT_S {ad : Nat → Nat} : zTS 65 ad (lT ad) := by
  refine ⟨fun sz U g mk a h => ⟨fun q hq => ?_, ?_, ?_, ?_, ?_, ?_⟩, fun s U locs h hS hW => ⟨fun q hq => ?_, ?_, ?_, ?_, ?_, ?_⟩⟩
  · obtain ⟨a9, h9⟩ := h.1 q hq
    exact ⟨a9, vk_R.same rfl h9⟩
  · exact vx_Zq.moved (u := U) (U := U.calling g mk a) (Vm.Alike.refl U.vm) h.2.1
  · exact vx_Zq.moved (u := U) (U := U.calling g mk a) (Vm.Alike.refl U.vm) h.2.2.1
  · exact fun w hw => va_Nw.same (u := U) (U := U.calling g mk a) (sbad_ot w hw) rfl (h.2.2.2.1 w hw)
  · exact va_Nw.same (u := U) (U := U.calling g mk a) rfl rfl h.2.2.2.2.1
  · exact va_Nc.moved (u := U) (U := U.calling g mk a) (Vm.Alike.refl U.vm) h.2.2.2.2.2
  · obtain ⟨a9, h9⟩ := h.1 q hq
    exact ⟨a9, vk_R.warm hW h9⟩
  · exact ((vx_Zq.moved hW.alike h.2.1).kept (fun a h1 h2 => hS.2.1 a h1 h2)).narrow (zA_mono hS.1)
  · exact ((vx_Zq.moved hW.alike h.2.2.1).kept (fun a h1 h2 => hS.2.1 a h1 h2)).narrow (zA_mono hS.1)
  · exact sbad_warm hW h.2.2.2.1
  · exact va_Nw.warmM hW h.2.2.2.2.1
  · exact va_Nc.moved hW.alike h.2.2.2.2.2
theorem zA_57 {ad : Nat → Nat} {sz : Nat} : ∀ q, zA 57 ad sz q → zA 65 ad sz q := fun q h => h.elim (fun ⟨k, hk, e⟩ => Or.inl ⟨k, by omega, e⟩) Or.inr
theorem lT.s {ad : Nat → Nat} {sz : Nat} {U : State} (h : lT ad sz U) : sT ad sz U := ⟨h.1, h.2.1.narrow zA_57, h.2.2.1.narrow zA_57, h.2.2.2.1, h.2.2.2.2.1⟩
/-! a call into a part of the world -/
section
variable {p : Program} {l : Launch} {e : Env} {R : Room} {s : State} {m : MethodId} {args : Array Value} {below : List Frame} {meth : Method} {c : Code} {Q : State → Prop} {D : va_G} {cl : List vw_C} {tys : List (ClassId × FieldType)} {N : Nat} {ad : Nat → Nat} {nL : Nat} {E : Nat → va_E} {cells slots pc : Nat} {lv lv' : List (Nat × Value)} {rest stk : List Value} {cc : ByteArray} {own : String} {Ts : List Cond} {ce : zS → Nat → va_E} {TX : Nat → State → Prop} {mc ms : Nat} {st : zS}
theorem b_sub {N' : Nat} {ad' : Nat → Nat} {ι : Nat → Nat} {E' : Nat → va_E} {H : Heap} (hP : va_P D cl (zw N ad E) H) (hι : ∀ k, k < N' → ι k < N ∧ ad' k = ad (ι k) ∧ E' k = E (ι k)) : va_P D cl (zw N' ad' E') H := by
  intro k q hk
  obtain ⟨h1, rfl⟩ := zw_inv hk
  obtain ⟨i1, i2, i3⟩ := hι k h1
  have := hP (ι k) _ (zw_get i1)
  rw [i2, i3]
  exact this
theorem b_subD {N' : Nat} {ad' : Nat → Nat} {ι : Nat → Nat} {E' : Nat → va_E} {A : Nat → Prop} (hD : va_D A (zw N ad E)) (hι : ∀ k, k < N' → ι k < N ∧ ad' k = ad (ι k)) (hinj : ∀ i j, i < N' → j < N' → ι i = ι j → i = j) : va_D (fun _ => True) (zw N' ad' E') := by
  refine ⟨fun i j p q hi hj e => ?_, fun _ _ _ => trivial⟩
  obtain ⟨h1, rfl⟩ := zw_inv hi
  obtain ⟨h2, rfl⟩ := zw_inv hj
  obtain ⟨i1, i2⟩ := hι i h1
  obtain ⟨j1, j2⟩ := hι j h2
  exact hinj i j h1 h2 (hD.1 (ι i) (ι j) _ _ (zw_get i1) (zw_get j1) (by show ad (ι i) = ad (ι j); rw [← i2, ← j2]; exact e))
theorem b_put {N' : Nat} {ad' : Nat → Nat} {ι : Nat → Nat} {E1 E2 : Nat → va_E} {A : Nat → Prop} {H H1 : Heap} (hP : va_P D cl (zw N ad E) H) (hD : va_D A (zw N ad E)) (hι : ∀ k, k < N' → ι k < N ∧ ad' k = ad (ι k) ∧ E2 (ι k) = E1 k) (hE : ∀ j, j < N → (∀ k, k < N' → ι k ≠ j) → E2 j = E j) (hk : ∀ q : Nat, q < H.size → ¬ zA N' ad' H.size q → H1[q]? = H[q]?) (hP1 : va_P D cl (zw N' ad' E1) H1) : va_P D cl (zw N ad E2) H1 := by
  intro j q hj
  obtain ⟨h1, rfl⟩ := zw_inv hj
  by_cases h : ∃ k, k < N' ∧ ι k = j
  · obtain ⟨k, k1, rfl⟩ := h
    obtain ⟨i1, i2, i3⟩ := hι k k1
    have := hP1 k _ (zw_get k1)
    rw [i2, ← i3] at this
    exact this
  · have h' : ∀ k, k < N' → ι k ≠ j := fun k hk e => h ⟨k, hk, e⟩
    rw [hE j h1 h']
    have ha := hP j _ (zw_get h1)
    refine ha.kept (hk _ ha.lt (fun z => ?_))
    rcases z with ⟨k, k1, k2⟩ | z
    · obtain ⟨i1, i2, -⟩ := hι k k1
      exact h' k k1 (hD.1 (ι k) j _ _ (zw_get i1) (zw_get h1) (by show ad (ι k) = ad j; rw [← i2]; exact k2))
    · have := ha.lt
      exact absurd z (by show ¬ H.size ≤ ad j; exact Nat.not_le.mpr this)
theorem b_call {α : Type} {vl : α → Option Value} {F : zF α} {N' : Nat} {ad' : Nat → Nat} {ι : Nat → Nat} {E2 : zS → Nat → va_E} {H : Heap} {locs : List Loc} {ls : Array Slot} {mY sY : Nat} {a : Array Value}
    (hr : vx_Run p l e R s m args below meth c H locs cells slots mY sY (F0 m pc ls stk) rest (zQ vl D cl N' ad' ce H.size F a) (zX D cl N' ad' ce H.size F) (zA N' ad' H.size)) (hS : va_S (zA N ad s.heap.size) s.heap H locs) (hP : va_P D cl (zw N ad E) H) (hD : va_D (zA N ad s.heap.size) (zw N ad E))
    (hι : ∀ (u : zS) k, k < N' → ι k < N ∧ ad' k = ad (ι k) ∧ E2 u (ι k) = ce u k) (hE : ∀ (u : zS) j, j < N → (∀ k, k < N' → ι k ≠ j) → E2 u j = E j)
    (kk : ∀ (r : α) (u : zS), F = some (.inl r, u) → ∀ (H1 : Heap) (locs1 : List Loc), va_P D cl (zw N ad (E2 u)) H1 → va_S (zA N ad s.heap.size) s.heap H1 locs1 → W p l e R s m args below meth c H1 locs1 (cells + mY) (slots + sY) Q (F0 m (pc + 3) ls ((vl r).toList ++ rest)))
    (kx : ∀ (b : Bool) (u : zS), F = some (.inr b, u) → ∀ (H1 : Heap) (locs1 : List Loc) (q : Nat) (ce9 : Cell), va_P D cl (zw N ad (E2 u)) H1 → va_S (zA N ad s.heap.size) s.heap H1 locs1 → H1[q]? = some ce9 → ce9.vm = .none → s.vm.findClass (zexn b) = some ce9.cls → vx_W p l e R s m args below meth c H1 locs1 (cells + mY) (slots + sY) Q (F0 m pc ls rest) q) :
    W p l e R s m args below meth c H locs cells slots Q (F0 m pc ls stk) := by
  intro T hT X
  have hf : ∀ q : Nat, zA N' ad' H.size q → zA N ad s.heap.size q := fun q h => h.elim (fun ⟨k, k1, k2⟩ => Or.inl ⟨ι k, (hι (fun _ _ => 0) k k1).1, by rw [← (hι (fun _ _ => 0) k k1).2.1]; exact k2⟩) (fun h => Or.inr (Nat.le_trans hS.1 h))
  have hA : ∀ q : Nat, q < H.size → zA N' ad' H.size q → zA N ad s.heap.size q := fun q _ h => hf q h
  rcases hr T hT X with ⟨v, st₀, t, T', L, h0, X', hL, e1, e2, ⟨⟨r, u, hv, hp, hb⟩, hF⟩, st9⟩ | ⟨q, st₀, t, T', L, En, ce9, h0, X', hL, e1, e2, ⟨b, u, hp, hEn, hb, hF⟩, hce, hcv, hcl, st9⟩
  · cases hv
    obtain ⟨k1, k2, k3⟩ := vx_keep h0 e1 hS hA hf hL hF
    have hP2 : va_P D cl (zw N ad (E2 u)) T'.heap := b_put hP hD (hι u) (hE u) (fun q h1 h2 => by rw [e1]; have := hF.2 q (by rw [h0]; exact h1) h2; rw [h0] at this; exact this) (by rw [e1]; exact hb)
    obtain ⟨t2, a1, b1⟩ := kk r u hp T'.heap (locs ++ L) hP2 k3 T' rfl X'
    exact ⟨t2, st9 t2 a1, b1⟩
  · obtain ⟨k1, k2, k3⟩ := vx_keep h0 e1 hS hA hf hL hF
    have hP2 : va_P D cl (zw N ad (E2 u)) T'.heap := b_put hP hD (hι u) (hE u) (fun q h1 h2 => by rw [e1]; have := hF.2 q (by rw [h0]; exact h1) h2; rw [h0] at this; exact this) (by rw [e1]; exact hb)
    obtain ⟨t2, a1, b1⟩ := kx b u hp T'.heap (locs ++ L) q ce9 hP2 k3 (by rw [e1]; exact hce) hcv (by rw [← hEn]; exact hcl) T' rfl X'
    exact ⟨t2, st9.trans a1, b1⟩
end
/-! rows of the law's own: its script, its long[1], its switch -/
section
variable {p : Program} {l : Launch} {e : Env} {R : Room} {s : State} {m : MethodId} {args : Array Value} {below : List Frame} {meth : Method} {c : Code} {Q : State → Prop} {D : va_G} {cl : List vw_C} {tys : List (ClassId × FieldType)} {N : Nat} {ad : Nat → Nat} {nL : Nat} {E : Nat → va_E} {cells slots pc : Nat} {lv lv' : List (Nat × Value)} {rest stk : List Value} {cc : ByteArray} {own : String} {Ts : List Cond}
theorem j_iand (C : zC p s m args meth c cc own Ts D cl tys N ad nL) {x y : Int32} (hdg : decode cc pc = .ok (.iand, 1)) (kk : zJ p l e R s m args below meth c Q D cl N ad nL E cells slots (pc + 1) lv (.int (x &&& y) :: rest)) : zJ p l e R s m args below meth c Q D cl N ad nL E cells slots pc lv (.int y :: .int x :: rest) :=
  fun H locs ls hP hS h => lv_iand C.1.1 C.1.2.1 hdg (kk H locs ls hP hS h)
theorem j_sld (C : zC p s m args meth c cc own Ts D cl tys N ad nL) {b L : Nat} {xs : Nat → Int32} (hX : va_X b L xs s s.heap) (hbl : b < s.heap.size) (hbA : ¬ zA N ad s.heap.size b) {i : Int32} (hin : vp_in i L) (hdg : decode cc pc = .ok (.iaload, 1)) (kk : zJ p l e R s m args below meth c Q D cl N ad nL E cells slots (pc + 1) lv (.int (xs i.toNatClampNeg) :: rest)) : zJ p l e R s m args below meth c Q D cl N ad nL E cells slots pc lv (.int i :: .ref b :: rest) :=
  fun H locs ls hP hS h => va_sld C.1.1 C.1.2.1 hX hbl hbA hS hin hdg (kk H locs ls hP hS h)
theorem j_slen (C : zC p s m args meth c cc own Ts D cl tys N ad nL) {b L : Nat} {xs : Nat → Int32} (hX : va_X b L xs s s.heap) (hbl : b < s.heap.size) (hbA : ¬ zA N ad s.heap.size b) (hdg : decode cc pc = .ok (.arraylength, 1)) (kk : zJ p l e R s m args below meth c Q D cl N ad nL E cells slots (pc + 1) lv (.int (nI L) :: rest)) : zJ p l e R s m args below meth c Q D cl N ad nL E cells slots pc lv (.ref b :: rest) :=
  fun H locs ls hP hS h => va_slen C.1.1 C.1.2.1 hX hbl hbA hS hdg (kk H locs ls hP hS h)
theorem j_lald (C : zC p s m args meth c cc own Ts D cl tys N ad nL) (q0 t0 : Nat) (hq : q0 < N) {cA : ClassId} {n : Nat} {f : Nat → Int64} (hE : E q0 = .inl (cA, n, .inr (.inl f))) (ht : tys[t0]? = some (cA, .long)) {i : Int32} (hin : vp_in i n) (hdg : decode cc pc = .ok (.laload, 1)) (kk : zJ p l e R s m args below meth c Q D cl N ad nL E cells slots (pc + 1) lv (.long (f i.toNatClampNeg) :: rest)) : zJ p l e R s m args below meth c Q D cl N ad nL E cells slots pc lv (.int i :: .ref (ad q0) :: rest) :=
  fun H locs ls hP hS h => va_lald C.1.1 C.1.2.1 C.2.1 hP q0 t0 ((zw_get hq).trans (by rw [hE])) ht hin hdg (kk H locs ls hP hS h)
theorem j_last (C : zC p s m args meth c cc own Ts D cl tys N ad nL) (q0 t0 : Nat) (hq : q0 < N) {cA : ClassId} {n : Nat} {f : Nat → Int64} (hE : E q0 = .inl (cA, n, .inr (.inl f))) (ht : tys[t0]? = some (cA, .long)) {i : Int32} {x : Int64} (hin : vp_in i n) (hdg : decode cc pc = .ok (.lastore, 1)) {E' : Nat → va_E} (hF1 : E' q0 = .inl (cA, n, .inr (.inl (vp_updL f i.toNatClampNeg x)))) (hF2 : ∀ j, j < N → j ≠ q0 → E' j = E j)
    (kk : zJ p l e R s m args below meth c Q D cl N ad nL E' cells slots (pc + 1) lv rest) : zJ p l e R s m args below meth c Q D cl N ad nL E cells slots pc lv (.long x :: .int i :: .ref (ad q0) :: rest) :=
  fun H locs ls hP hS h => va_last C.1.1 C.1.2.1 C.2.1 hP (C.2.2.1 E) hS q0 t0 ((zw_get hq).trans (by rw [hE])) ht hin hdg
    (fun H1 locs1 hP1 _ hS1 => kk H1 locs1 ls (by rw [← hF1, zw_set hq hF2] at hP1; exact hP1) hS1 h)
theorem j_lcmp (C : zC p s m args meth c cc own Ts D cl tys N ad nL) {x y : Int64} (hdg : decode cc pc = .ok (.lcmp, 1)) (kk : zJ p l e R s m args below meth c Q D cl N ad nL E cells slots (pc + 1) lv (.int (lg_cmp x y) :: rest)) : zJ p l e R s m args below meth c Q D cl N ad nL E cells slots pc lv (.long y :: .long x :: rest) :=
  fun H locs ls hP hS h => W.lcmp C.1.1 C.1.2.1 hdg (kk H locs ls hP hS h)
theorem j_tabIn (C : zC p s m args meth c cc own Ts D cl tys N ad nL) {dflt lo hi : Int} {offs : Array Int} {len : Nat} {x : Int32} {off : Int} {tgt : Nat} (hdg : decode cc pc = .ok (.tableswitch dflt lo hi offs, len)) (h1 : ¬ x.toInt < lo) (h2 : ¬ hi < x.toInt) (ho : offs[(x.toInt - lo).toNat]? = some off) (ht : (pc : Int) + off = (tgt : Int)) (kk : zJ p l e R s m args below meth c Q D cl N ad nL E cells slots tgt lv rest) : zJ p l e R s m args below meth c Q D cl N ad nL E cells slots pc lv (.int x :: rest) :=
  fun H locs ls hP hS h => lv_tableIn C.1.1 C.1.2.1 hdg h1 h2 ho ht (kk H locs ls hP hS h)
theorem j_tabOut (C : zC p s m args meth c cc own Ts D cl tys N ad nL) {dflt lo hi : Int} {offs : Array Int} {len : Nat} {x : Int32} {tgt : Nat} (hdg : decode cc pc = .ok (.tableswitch dflt lo hi offs, len)) (h1 : x.toInt < lo ∨ hi < x.toInt) (ht : (pc : Int) + dflt = (tgt : Int)) (kk : zJ p l e R s m args below meth c Q D cl N ad nL E cells slots tgt lv rest) : zJ p l e R s m args below meth c Q D cl N ad nL E cells slots pc lv (.int x :: rest) :=
  fun H locs ls hP hS h => lv_tableOut C.1.1 C.1.2.1 hdg h1 ht (kk H locs ls hP hS h)
end
