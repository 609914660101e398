/-! X2_leavesFor -/
def rmX2_leavesFor : Room := { frames := 10, cells := 0, slots := 0, locals := 120 }
section
variable {p : Program} {l : Launch} {e : Env} {s : State} {m : MethodId} {args : Array Value} {below : List Frame} {meth : Method} {c : Code} {D : va_G} {cI cR : ClassId} {ad : Nat → Nat}
def fX2_leavesFor (n : Nat) (i0 : Int32) (st : zS) : zF Int32 := some (.inl (((i0 + (16 : Int32)) - (1 : Int32)) / (16 : Int32)), st)
set_option maxHeartbeats 4000000 in
set_option maxRecDepth 100000 in
theorem kX2_leavesFor (hl : l.stackTraces = false) (n : Nat) (i0 : Int32) (st : zS) (hn : fX2_leavesFor n i0 st ≠ none) : zM (fun v : Int32 => some (.int v)) l yX2_leavesFor wsX2_leavesFor rmX2_leavesFor D zcl (zty cI cR) 57 ad (sce cI cR ad) (sT ad) 0 0 [.int i0] st (fX2_leavesFor n i0 st) := by
  refine z_ofJ (cc := cX2_leavesFor) (maxL := 1) (ret := (some .int)) (lv := [(0, .int i0)]) (by decide) rfl (Nat.le_of_ble_eq_true rfl) rfl ?_
  intro p e s m args below meth c C hne hT hr
  obtain ⟨F, hFe⟩ : ∃ F, F = fX2_leavesFor n i0 st := ⟨_, rfl⟩
  rw [← hFe] at hn ⊢
  have hF : fX2_leavesFor n i0 st = F := hFe.symm
  clear hFe
  unfold fX2_leavesFor at hF
  have C : zC p s m args meth c cX2_leavesFor RX2 wsX2_leavesFor D zcl (zty cI cR) 57 ad 1 := C
  refine j_iload_n C dX2_leavesFor_0 rfl 0 rfl ?_
  refine j_bipush (v := (16 : Int32)) C dX2_leavesFor_1 (by decide) ?_
  refine j_iadd C dX2_leavesFor_3 ?_
  refine j_iconst (v := (1 : Int32)) C dX2_leavesFor_4 (by decide) ?_
  refine j_isub C dX2_leavesFor_5 ?_
  refine j_bipush (v := (16 : Int32)) C dX2_leavesFor_6 (by decide) ?_
  refine j_idiv C dX2_leavesFor_8 (by decide) ?_
  exact j_iret C hr hF (Nat.le_of_ble_eq_true rfl) (Nat.le_of_ble_eq_true rfl) dX2_leavesFor_9
end
/-! X1_leafCount -/
def rmX1_leafCount : Room := { frames := 11, cells := 0, slots := 0, locals := 160 }
theorem in_X1_leafCount_wsX10 : ∀ w ∈ wsX10, w ∈ wsX1_leafCount := by decide +kernel
section
variable {p : Program} {l : Launch} {e : Env} {s : State} {m : MethodId} {args : Array Value} {below : List Frame} {meth : Method} {c : Code} {D : va_G} {cI cR : ClassId} {ad : Nat → Nat}
def fX1_leafCount (n : Nat) (r0 : Nat) (st : zS) : zF Int32 := (zb (fX2_leavesFor n (st r0 3) st) (fun (v2 : Int32) (u1 : zS) => some (.inl v2, u1)))
set_option maxHeartbeats 4000000 in
set_option maxRecDepth 100000 in
theorem kX1_leafCount (hl : l.stackTraces = false) (n : Nat) (r0 : Nat) (hr0 : isRow r0) (st : zS) (hn : fX1_leafCount n r0 st ≠ none) : zM (fun v : Int32 => some (.int v)) l yX1_leafCount wsX1_leafCount rmX1_leafCount D zcl (zty cI cR) 57 ad (sce cI cR ad) (sT ad) 0 0 [.ref (ad r0)] st (fX1_leafCount n r0 st) := by
  refine z_ofJ (cc := cX1_leafCount) (maxL := 1) (ret := (some .int)) (lv := [(0, .ref (ad r0))]) (by decide) rfl (Nat.le_of_ble_eq_true rfl) rfl ?_
  intro p e s m args below meth c C hne hT hr
  obtain ⟨F, hFe⟩ : ∃ F, F = fX1_leafCount n r0 st := ⟨_, rfl⟩
  rw [← hFe] at hn ⊢
  have hF : fX1_leafCount n r0 st = F := hFe.symm
  clear hFe
  unfold fX1_leafCount at hF
  have C : zC p s m args meth c cX1_leafCount RX1 wsX1_leafCount D zcl (zty cI cR) 57 ad 1 := C
  refine j_aload_n C dX1_leafCount_0 rfl 0 rfl ?_
  refine s_getR C in_X1_leafCount_wsX10 hr0 3 (by decide) (by decide +kernel) rfl dX1_leafCount_1 ?_
  refine j_callSNi C hne sT_S hT (As := [.int (st r0 3)]) (rest := []) (kX2_leavesFor hl n (st r0 3) st (zb_n hF hn)) (fun _ _ h9 => nomatch h9) (va_cnB 1 C.1.2.2.2.2 gX1_leafCount_X2_leavesFor_n32 rfl rfl rfl hT.2.2.2.2 (C.1.2.2.2.2 _ (by decide +kernel)) (by decide +kernel) ⟨(Nat.le_of_ble_eq_true rfl), (Nat.le_of_ble_eq_true rfl)⟩) (C.1.2.2.2.2 _ (by decide +kernel)) rfl rfl (Nat.le_of_ble_eq_true rfl) dX1_leafCount_4 ⟨(Nat.le_of_ble_eq_true rfl), (Nat.le_of_ble_eq_true rfl)⟩ (fun _ _ h9 => zb_x hF h9) (Nat.le_of_ble_eq_true rfl) (Nat.le_of_ble_eq_true rfl) (fun v2 u1 h3 => ?_)
  replace hF := zb_l hF h3
  exact j_iret C hr hF (Nat.le_of_ble_eq_true rfl) (Nat.le_of_ble_eq_true rfl) dX1_leafCount_7
end
/-! X1_begin -/
def rmX1_begin : Room := { frames := 10, cells := 0, slots := 0, locals := 120 }
theorem in_X1_begin_wsX10 : ∀ w ∈ wsX10, w ∈ wsX1_begin := by decide +kernel
section
variable {p : Program} {l : Launch} {e : Env} {s : State} {m : MethodId} {args : Array Value} {below : List Frame} {meth : Method} {c : Code} {D : va_G} {cI cR : ClassId} {ad : Nat → Nat}
def fX1_begin (n : Nat) (r0 : Nat) (i1 : Int32) (st : zS) : zF Unit := (zl (upA st r0 (upd (st r0) 2 (1 : Int32))) (fun (s1 : zS) => (zl (upA s1 r0 (upd (s1 r0) 3 i1)) (fun (s2 : zS) => some (.inl (), s2)))))
set_option maxHeartbeats 4000000 in
set_option maxRecDepth 100000 in
theorem kX1_begin (hl : l.stackTraces = false) (n : Nat) (r0 : Nat) (hr0 : isRow r0) (i1 : Int32) (st : zS) (hn : fX1_begin n r0 i1 st ≠ none) : zM (fun _ : Unit => none) l yX1_begin wsX1_begin rmX1_begin D zcl (zty cI cR) 57 ad (sce cI cR ad) (sT ad) 0 0 [.ref (ad r0), .int i1] st (fX1_begin n r0 i1 st) := by
  refine z_ofJ (cc := cX1_begin) (maxL := 2) (ret := none) (lv := [(0, .ref (ad r0)), (1, .int i1)]) (by decide) rfl (Nat.le_of_ble_eq_true rfl) rfl ?_
  intro p e s m args below meth c C hne hT hr
  obtain ⟨F, hFe⟩ : ∃ F, F = fX1_begin n r0 i1 st := ⟨_, rfl⟩
  rw [← hFe] at hn ⊢
  have hF : fX1_begin n r0 i1 st = F := hFe.symm
  clear hFe
  unfold fX1_begin at hF
  have C : zC p s m args meth c cX1_begin RX1 wsX1_begin D zcl (zty cI cR) 57 ad 2 := C
  refine j_aload_n C dX1_begin_0 rfl 0 rfl ?_
  refine j_iconst (v := (1 : Int32)) C dX1_begin_1 (by decide) ?_
  refine s_putRt C in_X1_begin_wsX10 hr0 (by decide +kernel) rfl rfl dX1_begin_2 ?_
  obtain ⟨s1, es1, hF⟩ := zl_e hF
  rw [← es1]
  refine j_aload_n C dX1_begin_5 rfl 0 rfl ?_
  refine j_iload_n C dX1_begin_6 rfl 1 rfl ?_
  refine s_putRl C in_X1_begin_wsX10 hr0 (by decide +kernel) dX1_begin_7 ?_
  obtain ⟨s2, es2, hF⟩ := zl_e hF
  rw [← es2]
  exact j_vret C hr hF (Nat.le_of_ble_eq_true rfl) (Nat.le_of_ble_eq_true rfl) dX1_begin_10
end
/-! X1_valuesIn -/
def rmX1_valuesIn : Room := { frames := 10, cells := 0, slots := 0, locals := 120 }
theorem in_X1_valuesIn_wsX10 : ∀ w ∈ wsX10, w ∈ wsX1_valuesIn := by decide +kernel
section
variable {p : Program} {l : Launch} {e : Env} {s : State} {m : MethodId} {args : Array Value} {below : List Frame} {meth : Method} {c : Code} {D : va_G} {cI cR : ClassId} {ad : Nat → Nat}
def fX1_valuesIn (n : Nat) (r0 : Nat) (i1 : Int32) (st : zS) : zF Int32 := some (.inl (if ((st r0 3) - (i1 * (16 : Int32))) < (16 : Int32) then ((st r0 3) - (i1 * (16 : Int32))) else (16 : Int32)), st)
set_option maxHeartbeats 4000000 in
set_option maxRecDepth 100000 in
theorem kX1_valuesIn (hl : l.stackTraces = false) (n : Nat) (r0 : Nat) (hr0 : isRow r0) (i1 : Int32) (st : zS) (hn : fX1_valuesIn n r0 i1 st ≠ none) : zM (fun v : Int32 => some (.int v)) l yX1_valuesIn wsX1_valuesIn rmX1_valuesIn D zcl (zty cI cR) 57 ad (sce cI cR ad) (sT ad) 0 0 [.ref (ad r0), .int i1] st (fX1_valuesIn n r0 i1 st) := by
  refine z_ofJ (cc := cX1_valuesIn) (maxL := 2) (ret := (some .int)) (lv := [(0, .ref (ad r0)), (1, .int i1)]) (by decide) rfl (Nat.le_of_ble_eq_true rfl) rfl ?_
  intro p e s m args below meth c C hne hT hr
  obtain ⟨F, hFe⟩ : ∃ F, F = fX1_valuesIn n r0 i1 st := ⟨_, rfl⟩
  rw [← hFe] at hn ⊢
  have hF : fX1_valuesIn n r0 i1 st = F := hFe.symm
  clear hFe
  unfold fX1_valuesIn at hF
  have C : zC p s m args meth c cX1_valuesIn RX1 wsX1_valuesIn D zcl (zty cI cR) 57 ad 2 := C
  refine j_bipush (v := (16 : Int32)) C dX1_valuesIn_0 (by decide) ?_
  refine j_aload_n C dX1_valuesIn_2 rfl 0 rfl ?_
  refine s_getR C in_X1_valuesIn_wsX10 hr0 3 (by decide) (by decide +kernel) rfl dX1_valuesIn_3 ?_
  refine j_iload_n C dX1_valuesIn_6 rfl 1 rfl ?_
  refine j_bipush (v := (16 : Int32)) C dX1_valuesIn_7 (by decide) ?_
  refine j_imul C dX1_valuesIn_9 ?_
  refine j_isub C dX1_valuesIn_10 ?_
  refine j_mmin C (by decide +kernel) (by decide +kernel) (by decide +kernel) (by decide +kernel) (Nat.le_of_ble_eq_true rfl) (Nat.le_of_ble_eq_true rfl) (Nat.le_of_ble_eq_true rfl) (Nat.le_of_ble_eq_true rfl) dX1_valuesIn_11 ?_
  exact j_iret C hr hF (Nat.le_of_ble_eq_true rfl) (Nat.le_of_ble_eq_true rfl) dX1_valuesIn_14
end
/-! X0_take -/
def rmX0_take : Room := { frames := 10, cells := 0, slots := 0, locals := 120 }
theorem in_X0_take_wsX00 : ∀ w ∈ wsX00, w ∈ wsX0_take := by decide +kernel
section
variable {p : Program} {l : Launch} {e : Env} {s : State} {m : MethodId} {args : Array Value} {below : List Frame} {meth : Method} {c : Code} {D : va_G} {cI cR : ClassId} {ad : Nat → Nat}
def fX0_take (n : Nat)  (st : zS) : zF Int32 := (zl (upA st 2 (upd (st 2) 3 ((st 2 3) - (1 : Int32)))) (fun (s1 : zS) => (zl (upA s1 2 (upd (s1 2) 4 ((s1 2 4) + (1 : Int32)))) (fun (s2 : zS) => (if inb (s2 2 3) (al 5) then (if inb (s2 5 ((s2 2 3)).toNatClampNeg) (al 4) then (zl (upA s2 4 (upd (s2 4) ((s2 5 ((s2 2 3)).toNatClampNeg)).toNatClampNeg (1 : Int32))) (fun (s5 : zS) => some (.inl (s2 5 ((s2 2 3)).toNatClampNeg), s5))) else none) else none)))))
set_option maxHeartbeats 4000000 in
set_option maxRecDepth 100000 in
theorem kX0_take (hl : l.stackTraces = false) (n : Nat)  (st : zS) (hn : fX0_take n  st ≠ none) : zM (fun v : Int32 => some (.int v)) l yX0_take wsX0_take rmX0_take D zcl (zty cI cR) 57 ad (sce cI cR ad) (sT ad) 0 0 [.ref (ad 2)] st (fX0_take n  st) := by
  refine z_ofJ (cc := cX0_take) (maxL := 2) (ret := (some .int)) (lv := [(0, .ref (ad 2))]) (by decide) rfl (Nat.le_of_ble_eq_true rfl) rfl ?_
  intro p e s m args below meth c C hne hT hr
  obtain ⟨F, hFe⟩ : ∃ F, F = fX0_take n  st := ⟨_, rfl⟩
  rw [← hFe] at hn ⊢
  have hF : fX0_take n  st = F := hFe.symm
  clear hFe
  unfold fX0_take at hF
  have C : zC p s m args meth c cX0_take RX0 wsX0_take D zcl (zty cI cR) 57 ad 2 := C
  refine j_aload_n C dX0_take_0 rfl 0 rfl ?_
  refine j_dup C dX0_take_1 rfl ?_
  refine s_get2 C in_X0_take_wsX00 3 (by decide) (by decide +kernel) rfl dX0_take_2 ?_
  refine j_iconst (v := (1 : Int32)) C dX0_take_5 (by decide) ?_
  refine j_isub C dX0_take_6 ?_
  refine s_put2 C in_X0_take_wsX00 3 (by decide) (by decide +kernel) dX0_take_7 ?_
  obtain ⟨s1, es1, hF⟩ := zl_e hF
  rw [← es1]
  refine j_aload_n C dX0_take_10 rfl 0 rfl ?_
  refine j_dup C dX0_take_11 rfl ?_
  refine s_get2 C in_X0_take_wsX00 4 (by decide) (by decide +kernel) rfl dX0_take_12 ?_
  refine j_iconst (v := (1 : Int32)) C dX0_take_15 (by decide) ?_
  refine j_iadd C dX0_take_16 ?_
  refine s_put2 C in_X0_take_wsX00 4 (by decide) (by decide +kernel) dX0_take_17 ?_
  obtain ⟨s2, es2, hF⟩ := zl_e hF
  rw [← es2]
  refine j_aload_n C dX0_take_20 rfl 0 rfl ?_
  refine s_get2 C in_X0_take_wsX00 2 (by decide) (by decide +kernel) rfl dX0_take_21 ?_
  refine j_aload_n C dX0_take_24 rfl 0 rfl ?_
  refine s_get2 C in_X0_take_wsX00 3 (by decide) (by decide +kernel) rfl dX0_take_25 ?_
  have b3 := zif_c hF hn
  replace hF := zif_t hF b3
  refine s_iald C (by decide) b3 dX0_take_28 ?_
  refine j_istore_n (lv' := [(1, .int (s2 5 ((s2 2 3)).toNatClampNeg)), (0, .ref (ad 2))]) C dX0_take_29 rfl (by decide) rfl ?_
  refine j_aload_n C dX0_take_30 rfl 1 rfl ?_
  refine s_get2 C in_X0_take_wsX00 1 (by decide) (by decide +kernel) rfl dX0_take_31 ?_
  refine j_iload_n C dX0_take_34 rfl 0 rfl ?_
  refine j_iconst (v := (1 : Int32)) C dX0_take_35 (by decide) ?_
  have b4 := zif_c hF hn
  replace hF := zif_t hF b4
  refine s_iast C (by decide) b4 dX0_take_36 ?_
  obtain ⟨s5, es5, hF⟩ := zl_e hF
  rw [← es5]
  refine j_iload_n C dX0_take_37 rfl 0 rfl ?_
  exact j_iret C hr hF (Nat.le_of_ble_eq_true rfl) (Nat.le_of_ble_eq_true rfl) dX0_take_38
end
/-! X0_addHolder -/
def rmX0_addHolder : Room := { frames := 10, cells := 0, slots := 0, locals := 120 }
theorem in_X0_addHolder_wsX00 : ∀ w ∈ wsX00, w ∈ wsX0_addHolder := by decide +kernel
section
variable {p : Program} {l : Launch} {e : Env} {s : State} {m : MethodId} {args : Array Value} {below : List Frame} {meth : Method} {c : Code} {D : va_G} {cI cR : ClassId} {ad : Nat → Nat}
def fX0_addHolder (n : Nat) (i1 : Int32) (st : zS) : zF Unit := (if inb i1 (al 4) then (if inb i1 (al 4) then (zl (upA st 4 (upd (st 4) (i1).toNatClampNeg ((st 4 (i1).toNatClampNeg) + (1 : Int32)))) (fun (s3 : zS) => some (.inl (), s3))) else none) else none)
set_option maxHeartbeats 4000000 in
set_option maxRecDepth 100000 in
theorem kX0_addHolder (hl : l.stackTraces = false) (n : Nat) (i1 : Int32) (st : zS) (hn : fX0_addHolder n i1 st ≠ none) : zM (fun _ : Unit => none) l yX0_addHolder wsX0_addHolder rmX0_addHolder D zcl (zty cI cR) 57 ad (sce cI cR ad) (sT ad) 0 0 [.ref (ad 2), .int i1] st (fX0_addHolder n i1 st) := by
  refine z_ofJ (cc := cX0_addHolder) (maxL := 2) (ret := none) (lv := [(0, .ref (ad 2)), (1, .int i1)]) (by decide) rfl (Nat.le_of_ble_eq_true rfl) rfl ?_
  intro p e s m args below meth c C hne hT hr
  obtain ⟨F, hFe⟩ : ∃ F, F = fX0_addHolder n i1 st := ⟨_, rfl⟩
  rw [← hFe] at hn ⊢
  have hF : fX0_addHolder n i1 st = F := hFe.symm
  clear hFe
  unfold fX0_addHolder at hF
  have C : zC p s m args meth c cX0_addHolder RX0 wsX0_addHolder D zcl (zty cI cR) 57 ad 2 := C
  refine j_aload_n C dX0_addHolder_0 rfl 0 rfl ?_
  refine s_get2 C in_X0_addHolder_wsX00 1 (by decide) (by decide +kernel) rfl dX0_addHolder_1 ?_
  refine j_iload_n C dX0_addHolder_4 rfl 1 rfl ?_
  refine j_dup2 C dX0_addHolder_5 rfl rfl ?_
  have b1 := zif_c hF hn
  replace hF := zif_t hF b1
  refine s_iald C (by decide) b1 dX0_addHolder_6 ?_
  refine j_iconst (v := (1 : Int32)) C dX0_addHolder_7 (by decide) ?_
  refine j_iadd C dX0_addHolder_8 ?_
  have b2 := zif_c hF hn
  replace hF := zif_t hF b2
  refine s_iast C (by decide) b2 dX0_addHolder_9 ?_
  obtain ⟨s3, es3, hF⟩ := zl_e hF
  rw [← es3]
  exact j_vret C hr hF (Nat.le_of_ble_eq_true rfl) (Nat.le_of_ble_eq_true rfl) dX0_addHolder_10
end
/-! X0_dropHolder -/
def rmX0_dropHolder : Room := { frames := 10, cells := 0, slots := 0, locals := 120 }
theorem in_X0_dropHolder_wsX00 : ∀ w ∈ wsX00, w ∈ wsX0_dropHolder := by decide +kernel
section
variable {p : Program} {l : Launch} {e : Env} {s : State} {m : MethodId} {args : Array Value} {below : List Frame} {meth : Method} {c : Code} {D : va_G} {cI cR : ClassId} {ad : Nat → Nat}
def fX0_dropHolder (n : Nat) (i1 : Int32) (st : zS) : zF Unit := (if inb i1 (al 4) then (if inb i1 (al 4) then (zl (upA st 4 (upd (st 4) (i1).toNatClampNeg ((st 4 (i1).toNatClampNeg) - (1 : Int32)))) (fun (s3 : zS) => (if inb i1 (al 4) then (if (s3 4 (i1).toNatClampNeg) = 0 then (if inb (s3 2 3) (al 5) then (zl (upA s3 5 (upd (s3 5) ((s3 2 3)).toNatClampNeg i1)) (fun (s7 : zS) => (zl (upA s7 2 (upd (s7 2) 3 ((s7 2 3) + (1 : Int32)))) (fun (s8 : zS) => some (.inl (), s8))))) else none) else some (.inl (), s3)) else none))) else none) else none)
set_option maxHeartbeats 4000000 in
set_option maxRecDepth 100000 in
theorem kX0_dropHolder (hl : l.stackTraces = false) (n : Nat) (i1 : Int32) (st : zS) (hn : fX0_dropHolder n i1 st ≠ none) : zM (fun _ : Unit => none) l yX0_dropHolder wsX0_dropHolder rmX0_dropHolder D zcl (zty cI cR) 57 ad (sce cI cR ad) (sT ad) 0 0 [.ref (ad 2), .int i1] st (fX0_dropHolder n i1 st) := by
  refine z_ofJ (cc := cX0_dropHolder) (maxL := 2) (ret := none) (lv := [(0, .ref (ad 2)), (1, .int i1)]) (by decide) rfl (Nat.le_of_ble_eq_true rfl) rfl ?_
  intro p e s m args below meth c C hne hT hr
  obtain ⟨F, hFe⟩ : ∃ F, F = fX0_dropHolder n i1 st := ⟨_, rfl⟩
  rw [← hFe] at hn ⊢
  have hF : fX0_dropHolder n i1 st = F := hFe.symm
  clear hFe
  unfold fX0_dropHolder at hF
  have C : zC p s m args meth c cX0_dropHolder RX0 wsX0_dropHolder D zcl (zty cI cR) 57 ad 2 := C
  refine j_aload_n C dX0_dropHolder_0 rfl 0 rfl ?_
  refine s_get2 C in_X0_dropHolder_wsX00 1 (by decide) (by decide +kernel) rfl dX0_dropHolder_1 ?_
  refine j_iload_n C dX0_dropHolder_4 rfl 1 rfl ?_
  refine j_dup2 C dX0_dropHolder_5 rfl rfl ?_
  have b1 := zif_c hF hn
  replace hF := zif_t hF b1
  refine s_iald C (by decide) b1 dX0_dropHolder_6 ?_
  refine j_iconst (v := (1 : Int32)) C dX0_dropHolder_7 (by decide) ?_
  refine j_isub C dX0_dropHolder_8 ?_
  have b2 := zif_c hF hn
  replace hF := zif_t hF b2
  refine s_iast C (by decide) b2 dX0_dropHolder_9 ?_
  obtain ⟨s3, es3, hF⟩ := zl_e hF
  rw [← es3]
  refine j_aload_n C dX0_dropHolder_10 rfl 0 rfl ?_
  refine s_get2 C in_X0_dropHolder_wsX00 1 (by decide) (by decide +kernel) rfl dX0_dropHolder_11 ?_
  refine j_iload_n C dX0_dropHolder_14 rfl 1 rfl ?_
  have b4 := zif_c hF hn
  replace hF := zif_t hF b4
  refine s_iald C (by decide) b4 dX0_dropHolder_15 ?_
  refine j_if_ne (tgt := 39) C dX0_dropHolder_16 (by decide) (fun c5 => ?_) (fun c5 => ?_)
  · replace hF := zif_f hF c5
    exact j_vret C hr hF (Nat.le_of_ble_eq_true rfl) (Nat.le_of_ble_eq_true rfl) dX0_dropHolder_39
  · replace hF := zif_t hF c5
    refine j_aload_n C dX0_dropHolder_19 rfl 0 rfl ?_
    refine s_get2 C in_X0_dropHolder_wsX00 2 (by decide) (by decide +kernel) rfl dX0_dropHolder_20 ?_
    refine j_aload_n C dX0_dropHolder_23 rfl 0 rfl ?_
    refine s_get2 C in_X0_dropHolder_wsX00 3 (by decide) (by decide +kernel) rfl dX0_dropHolder_24 ?_
    refine j_iload_n C dX0_dropHolder_27 rfl 1 rfl ?_
    have b6 := zif_c hF hn
    replace hF := zif_t hF b6
    refine s_iast C (by decide) b6 dX0_dropHolder_28 ?_
    obtain ⟨s7, es7, hF⟩ := zl_e hF
    rw [← es7]
    refine j_aload_n C dX0_dropHolder_29 rfl 0 rfl ?_
    refine j_dup C dX0_dropHolder_30 rfl ?_
    refine s_get2 C in_X0_dropHolder_wsX00 3 (by decide) (by decide +kernel) rfl dX0_dropHolder_31 ?_
    refine j_iconst (v := (1 : Int32)) C dX0_dropHolder_34 (by decide) ?_
    refine j_iadd C dX0_dropHolder_35 ?_
    refine s_put2 C in_X0_dropHolder_wsX00 3 (by decide) (by decide +kernel) dX0_dropHolder_36 ?_
    obtain ⟨s8, es8, hF⟩ := zl_e hF
    rw [← es8]
    exact j_vret C hr hF (Nat.le_of_ble_eq_true rfl) (Nat.le_of_ble_eq_true rfl) dX0_dropHolder_39
end
/-! X0_isShared -/
def rmX0_isShared : Room := { frames := 10, cells := 0, slots := 0, locals := 120 }
theorem in_X0_isShared_wsX00 : ∀ w ∈ wsX00, w ∈ wsX0_isShared := by decide +kernel
section
variable {p : Program} {l : Launch} {e : Env} {s : State} {m : MethodId} {args : Array Value} {below : List Frame} {meth : Method} {c : Code} {D : va_G} {cI cR : ClassId} {ad : Nat → Nat}
def fX0_isShared (n : Nat) (i1 : Int32) (st : zS) : zF Int32 := (if inb i1 (al 4) then (if (st 4 (i1).toNatClampNeg) ≤ (1 : Int32) then some (.inl (0 : Int32), st) else some (.inl (1 : Int32), st)) else none)
set_option maxHeartbeats 4000000 in
set_option maxRecDepth 100000 in
theorem kX0_isShared (hl : l.stackTraces = false) (n : Nat) (i1 : Int32) (st : zS) (hn : fX0_isShared n i1 st ≠ none) : zM (fun v : Int32 => some (.int v)) l yX0_isShared wsX0_isShared rmX0_isShared D zcl (zty cI cR) 57 ad (sce cI cR ad) (sT ad) 0 0 [.ref (ad 2), .int i1] st (fX0_isShared n i1 st) := by
  refine z_ofJ (cc := cX0_isShared) (maxL := 2) (ret := (some .boolean)) (lv := [(0, .ref (ad 2)), (1, .int i1)]) (by decide) rfl (Nat.le_of_ble_eq_true rfl) rfl ?_
  intro p e s m args below meth c C hne hT hr
  obtain ⟨F, hFe⟩ : ∃ F, F = fX0_isShared n i1 st := ⟨_, rfl⟩
  rw [← hFe] at hn ⊢
  have hF : fX0_isShared n i1 st = F := hFe.symm
  clear hFe
  unfold fX0_isShared at hF
  have C : zC p s m args meth c cX0_isShared RX0 wsX0_isShared D zcl (zty cI cR) 57 ad 2 := C
  refine j_aload_n C dX0_isShared_0 rfl 0 rfl ?_
  refine s_get2 C in_X0_isShared_wsX00 1 (by decide) (by decide +kernel) rfl dX0_isShared_1 ?_
  refine j_iload_n C dX0_isShared_4 rfl 1 rfl ?_
  have b1 := zif_c hF hn
  replace hF := zif_t hF b1
  refine s_iald C (by decide) b1 dX0_isShared_5 ?_
  refine j_iconst (v := (1 : Int32)) C dX0_isShared_6 (by decide) ?_
  refine j_icmp_le (tgt := 14) C dX0_isShared_7 (by decide) (fun c2 => ?_) (fun c2 => ?_)
  · replace hF := zif_t hF c2
    refine j_iconst (v := (0 : Int32)) C dX0_isShared_14 (by decide) ?_
    exact j_zret C hr rfl hF (Nat.le_of_ble_eq_true rfl) (Nat.le_of_ble_eq_true rfl) dX0_isShared_15
  · replace hF := zif_f hF c2
    refine j_iconst (v := (1 : Int32)) C dX0_isShared_10 (by decide) ?_
    refine j_goto (tgt := 15) C dX0_isShared_11 (by decide) ?_
    exact j_zret C hr rfl hF (Nat.le_of_ble_eq_true rfl) (Nat.le_of_ble_eq_true rfl) dX0_isShared_15
end
/-! X0_valueAt -/
def rmX0_valueAt : Room := { frames := 10, cells := 0, slots := 0, locals := 120 }
theorem in_X0_valueAt_wsX00 : ∀ w ∈ wsX00, w ∈ wsX0_valueAt := by decide +kernel
section
variable {p : Program} {l : Launch} {e : Env} {s : State} {m : MethodId} {args : Array Value} {below : List Frame} {meth : Method} {c : Code} {D : va_G} {cI cR : ClassId} {ad : Nat → Nat}
def fX0_valueAt (n : Nat) (i1 : Int32) (i2 : Int32) (st : zS) : zF Int32 := (if inb ((i1 * (16 : Int32)) + i2) (al 3) then some (.inl (st 3 (((i1 * (16 : Int32)) + i2)).toNatClampNeg), st) else none)
set_option maxHeartbeats 4000000 in
set_option maxRecDepth 100000 in
theorem kX0_valueAt (hl : l.stackTraces = false) (n : Nat) (i1 : Int32) (i2 : Int32) (st : zS) (hn : fX0_valueAt n i1 i2 st ≠ none) : zM (fun v : Int32 => some (.int v)) l yX0_valueAt wsX0_valueAt rmX0_valueAt D zcl (zty cI cR) 57 ad (sce cI cR ad) (sT ad) 0 0 [.ref (ad 2), .int i1, .int i2] st (fX0_valueAt n i1 i2 st) := by
  refine z_ofJ (cc := cX0_valueAt) (maxL := 3) (ret := (some .int)) (lv := [(0, .ref (ad 2)), (1, .int i1), (2, .int i2)]) (by decide) rfl (Nat.le_of_ble_eq_true rfl) rfl ?_
  intro p e s m args below meth c C hne hT hr
  obtain ⟨F, hFe⟩ : ∃ F, F = fX0_valueAt n i1 i2 st := ⟨_, rfl⟩
  rw [← hFe] at hn ⊢
  have hF : fX0_valueAt n i1 i2 st = F := hFe.symm
  clear hFe
  unfold fX0_valueAt at hF
  have C : zC p s m args meth c cX0_valueAt RX0 wsX0_valueAt D zcl (zty cI cR) 57 ad 3 := C
  refine j_aload_n C dX0_valueAt_0 rfl 0 rfl ?_
  refine s_get2 C in_X0_valueAt_wsX00 0 (by decide) (by decide +kernel) rfl dX0_valueAt_1 ?_
  refine j_iload_n C dX0_valueAt_4 rfl 1 rfl ?_
  refine j_bipush (v := (16 : Int32)) C dX0_valueAt_5 (by decide) ?_
  refine j_imul C dX0_valueAt_7 ?_
  refine j_iload_n C dX0_valueAt_8 rfl 2 rfl ?_
  refine j_iadd C dX0_valueAt_9 ?_
  have b1 := zif_c hF hn
  replace hF := zif_t hF b1
  refine s_iald C (by decide) b1 dX0_valueAt_10 ?_
  exact j_iret C hr hF (Nat.le_of_ble_eq_true rfl) (Nat.le_of_ble_eq_true rfl) dX0_valueAt_11
end
/-! X0_read -/
def rmX0_read : Room := { frames := 10, cells := 0, slots := 0, locals := 120 }
theorem in_X0_read_wsX00 : ∀ w ∈ wsX00, w ∈ wsX0_read := by decide +kernel
section
variable {p : Program} {l : Launch} {e : Env} {s : State} {m : MethodId} {args : Array Value} {below : List Frame} {meth : Method} {c : Code} {D : va_G} {cI cR : ClassId} {ad : Nat → Nat}
def fX0_read (n : Nat) (i1 : Int32) (i2 : Int32) (r3 : Nat) (i4 : Int32) (i5 : Int32) (st : zS) : zF Unit := (if cpok ((i1 * (16 : Int32)) + i2) i4 i5 (al 3) (al r3) then (zl (upA st r3 (va_cpy (st 3) (st r3) (((i1 * (16 : Int32)) + i2)).toNatClampNeg (i4).toNatClampNeg (i5).toNatClampNeg)) (fun (s2 : zS) => some (.inl (), s2))) else none)
set_option maxHeartbeats 4000000 in
set_option maxRecDepth 100000 in
theorem kX0_read (hl : l.stackTraces = false) (n : Nat) (i1 : Int32) (i2 : Int32) (r3 : Nat) (hr3 : isArr r3) (i4 : Int32) (i5 : Int32) (st : zS) (hn : fX0_read n i1 i2 r3 i4 i5 st ≠ none) : zM (fun _ : Unit => none) l yX0_read wsX0_read rmX0_read D zcl (zty cI cR) 57 ad (sce cI cR ad) (sT ad) 0 0 [.ref (ad 2), .int i1, .int i2, .ref (ad r3), .int i4, .int i5] st (fX0_read n i1 i2 r3 i4 i5 st) := by
  refine z_ofJ (cc := cX0_read) (maxL := 6) (ret := none) (lv := [(0, .ref (ad 2)), (1, .int i1), (2, .int i2), (3, .ref (ad r3)), (4, .int i4), (5, .int i5)]) (by decide) rfl (Nat.le_of_ble_eq_true rfl) rfl ?_
  intro p e s m args below meth c C hne hT hr
  obtain ⟨F, hFe⟩ : ∃ F, F = fX0_read n i1 i2 r3 i4 i5 st := ⟨_, rfl⟩
  rw [← hFe] at hn ⊢
  have hF : fX0_read n i1 i2 r3 i4 i5 st = F := hFe.symm
  clear hFe
  unfold fX0_read at hF
  have C : zC p s m args meth c cX0_read RX0 wsX0_read D zcl (zty cI cR) 57 ad 6 := C
  refine j_aload_n C dX0_read_0 rfl 0 rfl ?_
  refine s_get2 C in_X0_read_wsX00 0 (by decide) (by decide +kernel) rfl dX0_read_1 ?_
  refine j_iload_n C dX0_read_4 rfl 1 rfl ?_
  refine j_bipush (v := (16 : Int32)) C dX0_read_5 (by decide) ?_
  refine j_imul C dX0_read_7 ?_
  refine j_iload_n C dX0_read_8 rfl 2 rfl ?_
  refine j_iadd C dX0_read_9 ?_
  refine j_aload_n C dX0_read_10 rfl 3 rfl ?_
  refine j_iload C dX0_read_11 4 rfl ?_
  refine j_iload C dX0_read_13 5 rfl ?_
  have b1 := zif_c hF hn
  replace hF := zif_t hF b1
  refine s_copy C (by decide +kernel) (by decide +kernel) (by decide +kernel) (by decide +kernel) (by decide) hr3 b1 (Nat.le_of_ble_eq_true rfl) (Nat.le_of_ble_eq_true rfl) dX0_read_15 ?_
  obtain ⟨s2, es2, hF⟩ := zl_e hF
  rw [← es2]
  exact j_vret C hr hF (Nat.le_of_ble_eq_true rfl) (Nat.le_of_ble_eq_true rfl) dX0_read_18
end
/-! X0_write -/
def rmX0_write : Room := { frames := 10, cells := 0, slots := 0, locals := 120 }
theorem in_X0_write_wsX00 : ∀ w ∈ wsX00, w ∈ wsX0_write := by decide +kernel
section
variable {p : Program} {l : Launch} {e : Env} {s : State} {m : MethodId} {args : Array Value} {below : List Frame} {meth : Method} {c : Code} {D : va_G} {cI cR : ClassId} {ad : Nat → Nat}
def fX0_write (n : Nat) (i1 : Int32) (r2 : Nat) (i3 : Int32) (i4 : Int32) (st : zS) : zF Unit := (if cpok i3 (i1 * (16 : Int32)) i4 (al r2) (al 3) then (zl (upA st 3 (va_cpy (st r2) (st 3) (i3).toNatClampNeg ((i1 * (16 : Int32))).toNatClampNeg (i4).toNatClampNeg)) (fun (s2 : zS) => some (.inl (), s2))) else none)
set_option maxHeartbeats 4000000 in
set_option maxRecDepth 100000 in
theorem kX0_write (hl : l.stackTraces = false) (n : Nat) (i1 : Int32) (r2 : Nat) (hr2 : isArr r2) (i3 : Int32) (i4 : Int32) (st : zS) (hn : fX0_write n i1 r2 i3 i4 st ≠ none) : zM (fun _ : Unit => none) l yX0_write wsX0_write rmX0_write D zcl (zty cI cR) 57 ad (sce cI cR ad) (sT ad) 0 0 [.ref (ad 2), .int i1, .ref (ad r2), .int i3, .int i4] st (fX0_write n i1 r2 i3 i4 st) := by
  refine z_ofJ (cc := cX0_write) (maxL := 5) (ret := none) (lv := [(0, .ref (ad 2)), (1, .int i1), (2, .ref (ad r2)), (3, .int i3), (4, .int i4)]) (by decide) rfl (Nat.le_of_ble_eq_true rfl) rfl ?_
  intro p e s m args below meth c C hne hT hr
  obtain ⟨F, hFe⟩ : ∃ F, F = fX0_write n i1 r2 i3 i4 st := ⟨_, rfl⟩
  rw [← hFe] at hn ⊢
  have hF : fX0_write n i1 r2 i3 i4 st = F := hFe.symm
  clear hFe
  unfold fX0_write at hF
  have C : zC p s m args meth c cX0_write RX0 wsX0_write D zcl (zty cI cR) 57 ad 5 := C
  refine j_aload_n C dX0_write_0 rfl 2 rfl ?_
  refine j_iload_n C dX0_write_1 rfl 3 rfl ?_
  refine j_aload_n C dX0_write_2 rfl 0 rfl ?_
  refine s_get2 C in_X0_write_wsX00 0 (by decide) (by decide +kernel) rfl dX0_write_3 ?_
  refine j_iload_n C dX0_write_6 rfl 1 rfl ?_
  refine j_bipush (v := (16 : Int32)) C dX0_write_7 (by decide) ?_
  refine j_imul C dX0_write_9 ?_
  refine j_iload C dX0_write_10 4 rfl ?_
  have b1 := zif_c hF hn
  replace hF := zif_t hF b1
  refine s_copy C (by decide +kernel) (by decide +kernel) (by decide +kernel) (by decide +kernel) hr2 (by decide) b1 (Nat.le_of_ble_eq_true rfl) (Nat.le_of_ble_eq_true rfl) dX0_write_12 ?_
  obtain ⟨s2, es2, hF⟩ := zl_e hF
  rw [← es2]
  exact j_vret C hr hF (Nat.le_of_ble_eq_true rfl) (Nat.le_of_ble_eq_true rfl) dX0_write_15
end
/-! J7_rangeCheck_23922 -/
def rmJ7_rangeCheck_23922 : Room := { frames := 10, cells := 0, slots := 0, locals := 120 }
section
variable {p : Program} {l : Launch} {e : Env} {s : State} {m : MethodId} {args : Array Value} {below : List Frame} {meth : Method} {c : Code} {D : va_G} {cI cR : ClassId} {ad : Nat → Nat}
def fJ7_rangeCheck_23922 (n : Nat) (i0 : Int32) (i1 : Int32) (i2 : Int32) (st : zS) : zF Unit := (if i1 ≤ i2 then (if 0 ≤ i1 then (if i2 ≤ i0 then some (.inl (), st) else none) else none) else none)
set_option maxHeartbeats 4000000 in
set_option maxRecDepth 100000 in
theorem kJ7_rangeCheck_23922 (hl : l.stackTraces = false) (n : Nat) (i0 : Int32) (i1 : Int32) (i2 : Int32) (st : zS) (hn : fJ7_rangeCheck_23922 n i0 i1 i2 st ≠ none) : zM (fun _ : Unit => none) l yJ7_rangeCheck_23922 wsJ7_rangeCheck_23922 rmJ7_rangeCheck_23922 D zcl (zty cI cR) 57 ad (sce cI cR ad) (sT ad) 0 0 [.int i0, .int i1, .int i2] st (fJ7_rangeCheck_23922 n i0 i1 i2 st) := by
  refine z_ofJ (cc := cJ7_rangeCheck_23922) (maxL := 3) (ret := none) (lv := [(0, .int i0), (1, .int i1), (2, .int i2)]) (by decide) rfl (Nat.le_of_ble_eq_true rfl) rfl ?_
  intro p e s m args below meth c C hne hT hr
  obtain ⟨F, hFe⟩ : ∃ F, F = fJ7_rangeCheck_23922 n i0 i1 i2 st := ⟨_, rfl⟩
  rw [← hFe] at hn ⊢
  have hF : fJ7_rangeCheck_23922 n i0 i1 i2 st = F := hFe.symm
  clear hFe
  unfold fJ7_rangeCheck_23922 at hF
  have C : zC p s m args meth c cJ7_rangeCheck_23922 RJ7 wsJ7_rangeCheck_23922 D zcl (zty cI cR) 57 ad 3 := C
  refine j_iload_n C dJ7_rangeCheck_23922_0 rfl 1 rfl ?_
  refine j_iload_n C dJ7_rangeCheck_23922_1 rfl 2 rfl ?_
  refine j_icmp_le (tgt := 46) C dJ7_rangeCheck_23922_2 (by decide) (fun c1 => ?_) (fun c1 => ?_)
  · replace hF := zif_t hF c1
    refine j_iload_n C dJ7_rangeCheck_23922_46 rfl 1 rfl ?_
    refine j_if_ge (tgt := 59) C dJ7_rangeCheck_23922_47 (by decide) (fun c2 => ?_) (fun c2 => ?_)
    · replace hF := zif_t hF c2
      refine j_iload_n C dJ7_rangeCheck_23922_59 rfl 2 rfl ?_
      refine j_iload_n C dJ7_rangeCheck_23922_60 rfl 0 rfl ?_
      refine j_icmp_le (tgt := 73) C dJ7_rangeCheck_23922_61 (by decide) (fun c3 => ?_) (fun c3 => ?_)
      · replace hF := zif_t hF c3
        exact j_vret C hr hF (Nat.le_of_ble_eq_true rfl) (Nat.le_of_ble_eq_true rfl) dJ7_rangeCheck_23922_73
      · replace hF := zif_f hF c3
        exact absurd hF.symm hn
    · replace hF := zif_f hF c2
      exact absurd hF.symm hn
  · replace hF := zif_f hF c1
    exact absurd hF.symm hn
end
/-! J7_fill_fda19 -/
def rmJ7_fill_fda19 : Room := { frames := 11, cells := 0, slots := 0, locals := 160 }
section
variable {p : Program} {l : Launch} {e : Env} {s : State} {m : MethodId} {args : Array Value} {below : List Frame} {meth : Method} {c : Code} {D : va_G} {cI cR : ClassId} {ad : Nat → Nat}
def fJ7_fill_fda19_10 (n : Nat) (X_27 : zS → zF Unit) : Nat → Nat → Int32 → Int32 → Int32 → zS → zF Unit
  | 0, _, _, _, _, _ => none
  | k + 1, r0, i2, i3, i4, st => (if i2 ≤ i4 then X_27 st else (if inb i4 (al r0) then (zl (upA st r0 (upd (st r0) (i4).toNatClampNeg i3)) (fun (s6 : zS) => fJ7_fill_fda19_10 n X_27 k r0 i2 i3 (i4 + (1 : Int32)) s6)) else none))
set_option maxHeartbeats 4000000 in
set_option maxRecDepth 100000 in
theorem wJ7_fill_fda19_10 (C : zC p s m args meth c cJ7_fill_fda19 RJ7 wsJ7_fill_fda19 D zcl (zty cI cR) 57 ad 5) (hne : ∀ x ∈ c.exceptionTable.toList, False) (hl : l.stackTraces = false) (hT : (sT ad) s.heap.size s) (hr : meth.sig.returnType = none) {F : zF Unit} (hn : F ≠ none) (n : Nat) {X_27 : zS → zF Unit} (hX_27 : ∀  (st : zS), X_27 st = F → sJ (fun _ : Unit => none) F 0 0 p l e rmJ7_fill_fda19 s m args below meth c D cI cR ad 5 st 0 0 27 [] []) : ∀ (k : Nat) (r0 : Nat) (hr0 : isArr r0) (i2 : Int32) (i3 : Int32) (i4 : Int32) (st : zS), fJ7_fill_fda19_10 n X_27 k r0 i2 i3 i4 st = F → sJ (fun _ : Unit => none) F 0 0 p l e rmJ7_fill_fda19 s m args below meth c D cI cR ad 5 st 0 0 10 [(0, .ref (ad r0)), (2, .int i2), (3, .int i3), (4, .int i4)] [] := by
  intro k
  induction k with
  | zero =>
    intro r0 hr0 i2 i3 i4 st hF
    exact absurd hF.symm hn
  | succ k ih =>
    intro r0 hr0 i2 i3 i4 st hF
    rw [fJ7_fill_fda19_10] at hF
    refine j_iload C dJ7_fill_fda19_10 3 rfl ?_
    refine j_iload_n C dJ7_fill_fda19_12 rfl 1 rfl ?_
    refine j_icmp_ge (tgt := 27) C dJ7_fill_fda19_13 (by decide) (fun c4 => ?_) (fun c4 => ?_)
    · replace hF := zif_t hF c4
      refine j_sub [] rfl ?_
      exact hX_27 st hF
    · replace hF := zif_f hF c4
      refine j_aload_n C dJ7_fill_fda19_16 rfl 0 rfl ?_
      refine j_iload C dJ7_fill_fda19_17 3 rfl ?_
      refine j_iload_n C dJ7_fill_fda19_19 rfl 2 rfl ?_
      have b5 := zif_c hF hn
      replace hF := zif_t hF b5
      refine s_iast C hr0 b5 dJ7_fill_fda19_20 ?_
      obtain ⟨s6, es6, hF⟩ := zl_e hF
      rw [← es6]
      refine j_iinc (lv' := [(4, .int (i4 + (1 : Int32))), (0, .ref (ad r0)), (2, .int i2), (3, .int i3)]) C dJ7_fill_fda19_21 3 rfl rfl (by decide) rfl ?_
      refine j_goto (tgt := 10) C dJ7_fill_fda19_24 (by decide) ?_
      refine j_sub [1, 2, 3, 0] rfl ?_
      exact ih r0 hr0 i2 i3 (i4 + (1 : Int32)) s6 hF
def fJ7_fill_fda19 (n : Nat) (r0 : Nat) (i1 : Int32) (i2 : Int32) (i3 : Int32) (st : zS) : zF Unit := (zb (fJ7_rangeCheck_23922 n (nI (al r0)) i1 i2 st) (fun (v2 : Unit) (u1 : zS) => fJ7_fill_fda19_10 n (fun  (st : zS) => some (.inl (), st)) n r0 i2 i3 i1 u1))
set_option maxHeartbeats 4000000 in
set_option maxRecDepth 100000 in
theorem kJ7_fill_fda19 (hl : l.stackTraces = false) (n : Nat) (r0 : Nat) (hr0 : isArr r0) (i1 : Int32) (i2 : Int32) (i3 : Int32) (st : zS) (hn : fJ7_fill_fda19 n r0 i1 i2 i3 st ≠ none) : zM (fun _ : Unit => none) l yJ7_fill_fda19 wsJ7_fill_fda19 rmJ7_fill_fda19 D zcl (zty cI cR) 57 ad (sce cI cR ad) (sT ad) 0 0 [.ref (ad r0), .int i1, .int i2, .int i3] st (fJ7_fill_fda19 n r0 i1 i2 i3 st) := by
  refine z_ofJ (cc := cJ7_fill_fda19) (maxL := 5) (ret := none) (lv := [(0, .ref (ad r0)), (1, .int i1), (2, .int i2), (3, .int i3)]) (by decide) rfl (Nat.le_of_ble_eq_true rfl) rfl ?_
  intro p e s m args below meth c C hne hT hr
  obtain ⟨F, hFe⟩ : ∃ F, F = fJ7_fill_fda19 n r0 i1 i2 i3 st := ⟨_, rfl⟩
  rw [← hFe] at hn ⊢
  have hF : fJ7_fill_fda19 n r0 i1 i2 i3 st = F := hFe.symm
  clear hFe
  unfold fJ7_fill_fda19 at hF
  have C : zC p s m args meth c cJ7_fill_fda19 RJ7 wsJ7_fill_fda19 D zcl (zty cI cR) 57 ad 5 := C
  refine j_aload_n C dJ7_fill_fda19_0 rfl 0 rfl ?_
  refine s_alen C hr0 dJ7_fill_fda19_1 ?_
  refine j_iload_n C dJ7_fill_fda19_2 rfl 1 rfl ?_
  refine j_iload_n C dJ7_fill_fda19_3 rfl 2 rfl ?_
  refine j_callSv C hne sT_S hT (As := [.int (nI (al r0)), .int i1, .int i2]) (rest := []) (kJ7_rangeCheck_23922 hl n (nI (al r0)) i1 i2 st (zb_n hF hn)) (va_cwS 3 C.1.2.2.2.2 gJ7_fill_fda19_J7_rangeCheck_23922 rfl rfl rfl (by decide +kernel) ⟨(Nat.le_of_ble_eq_true rfl), (Nat.le_of_ble_eq_true rfl)⟩) rfl rfl (Nat.le_of_ble_eq_true rfl) dJ7_fill_fda19_4 ⟨(Nat.le_of_ble_eq_true rfl), (Nat.le_of_ble_eq_true rfl)⟩ (fun _ _ h9 => zb_x hF h9) (Nat.le_of_ble_eq_true rfl) (Nat.le_of_ble_eq_true rfl) (fun v2 u1 h3 => ?_)
  replace hF := zb_l hF h3
  refine j_iload_n C dJ7_fill_fda19_7 rfl 1 rfl ?_
  refine j_istore (lv' := [(4, .int i1), (0, .ref (ad r0)), (1, .int i1), (2, .int i2), (3, .int i3)]) C dJ7_fill_fda19_8 (by decide) rfl ?_
  refine j_sub [1, 3, 4, 0] rfl ?_
  refine wJ7_fill_fda19_10 C hne hl hT hr hn n ?_ n r0 hr0 i2 i3 i1 u1 hF
  · intro  st hF
    exact j_vret C hr hF (Nat.le_of_ble_eq_true rfl) (Nat.le_of_ble_eq_true rfl) dJ7_fill_fda19_27
end
