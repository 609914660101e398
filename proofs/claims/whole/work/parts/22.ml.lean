/-! X3_thrown -/
def rmX3_thrown : Room := { frames := 10, cells := 0, slots := 0, locals := 120 }
theorem in_X3_thrown_wsX30 : ∀ w ∈ wsX30, w ∈ wsX3_thrown := by decide +kernel
section
variable {p : Program} {l : Launch} {e : Env} {s : State} {m : MethodId} {args : Array Value} {below : List Frame} {meth : Method} {c : Code} {D : va_G} {cI cZ : ClassId} {ad : Nat → Nat}
def fX3_thrown (n : Nat)  (st : zS) : zF Int32 := some (.inl (st 0 0), st)
set_option maxHeartbeats 4000000 in
set_option maxRecDepth 100000 in
theorem kX3_thrown (hl : l.stackTraces = false) (n : Nat)  (st : zS) (hn : fX3_thrown n  st ≠ none) : zM (fun v : Int32 => some (.int v)) l yX3_thrown wsX3_thrown rmX3_thrown D zcl (mty cI cZ) 7 ad (mce cI cZ ad) mT 0 0 [.ref (ad 0)] st (fX3_thrown n  st) := by
  refine z_ofJ (cc := cX3_thrown) (maxL := 1) (ret := (some .int)) (lv := [(0, .ref (ad 0))]) (by decide) rfl (Nat.le_of_ble_eq_true rfl) rfl ?_
  intro p e s m args below meth c C hne hT hr
  obtain ⟨F, hFe⟩ : ∃ F, F = fX3_thrown n  st := ⟨_, rfl⟩
  rw [← hFe] at hn ⊢
  have hF : fX3_thrown n  st = F := hFe.symm
  clear hFe
  unfold fX3_thrown at hF
  have C : zC p s m args meth c cX3_thrown RX3 wsX3_thrown D zcl (mty cI cZ) 7 ad 1 := C
  refine j_aload_n C dX3_thrown_0 rfl 0 rfl ?_
  refine m_get0 C in_X3_thrown_wsX30 0 (by decide) (by decide +kernel) rfl dX3_thrown_1 ?_
  exact j_iret C hr hF (Nat.le_of_ble_eq_true rfl) (Nat.le_of_ble_eq_true rfl) dX3_thrown_4
end
/-! X3_isArray -/
def rmX3_isArray : Room := { frames := 10, cells := 0, slots := 0, locals := 120 }
theorem in_X3_isArray_wsX30 : ∀ w ∈ wsX30, w ∈ wsX3_isArray := by decide +kernel
section
variable {p : Program} {l : Launch} {e : Env} {s : State} {m : MethodId} {args : Array Value} {below : List Frame} {meth : Method} {c : Code} {D : va_G} {cI cZ : ClassId} {ad : Nat → Nat}
def fX3_isArray (n : Nat) (i1 : Int32) (st : zS) : zF Int32 := (if i1 < 0 then some (.inl (0 : Int32), st) else (if (16 : Int32) ≤ i1 then some (.inl (0 : Int32), st) else (if inb i1 (ml 1) then (if (st 1 (i1).toNatClampNeg) = 0 then some (.inl (0 : Int32), st) else some (.inl (1 : Int32), st)) else none)))
set_option maxHeartbeats 4000000 in
set_option maxRecDepth 100000 in
theorem kX3_isArray (hl : l.stackTraces = false) (n : Nat) (i1 : Int32) (st : zS) (hn : fX3_isArray n i1 st ≠ none) : zM (fun v : Int32 => some (.int v)) l yX3_isArray wsX3_isArray rmX3_isArray D zcl (mty cI cZ) 7 ad (mce cI cZ ad) mT 0 0 [.ref (ad 0), .int i1] st (fX3_isArray n i1 st) := by
  refine z_ofJ (cc := cX3_isArray) (maxL := 2) (ret := (some .boolean)) (lv := [(0, .ref (ad 0)), (1, .int i1)]) (by decide) rfl (Nat.le_of_ble_eq_true rfl) rfl ?_
  intro p e s m args below meth c C hne hT hr
  obtain ⟨F, hFe⟩ : ∃ F, F = fX3_isArray n i1 st := ⟨_, rfl⟩
  rw [← hFe] at hn ⊢
  have hF : fX3_isArray n i1 st = F := hFe.symm
  clear hFe
  unfold fX3_isArray at hF
  have C : zC p s m args meth c cX3_isArray RX3 wsX3_isArray D zcl (mty cI cZ) 7 ad 2 := C
  refine j_iload_n C dX3_isArray_0 rfl 1 rfl ?_
  refine j_if_lt (tgt := 23) C dX3_isArray_1 (by decide) (fun c1 => ?_) (fun c1 => ?_)
  · replace hF := zif_t hF c1
    refine j_iconst (v := (0 : Int32)) C dX3_isArray_23 (by decide) ?_
    exact j_zret C hr rfl hF (Nat.le_of_ble_eq_true rfl) (Nat.le_of_ble_eq_true rfl) dX3_isArray_24
  · replace hF := zif_f hF c1
    refine j_iload_n C dX3_isArray_4 rfl 1 rfl ?_
    refine j_bipush (v := (16 : Int32)) C dX3_isArray_5 (by decide) ?_
    refine j_icmp_ge (tgt := 23) C dX3_isArray_7 (by decide) (fun c2 => ?_) (fun c2 => ?_)
    · replace hF := zif_t hF c2
      refine j_iconst (v := (0 : Int32)) C dX3_isArray_23 (by decide) ?_
      exact j_zret C hr rfl hF (Nat.le_of_ble_eq_true rfl) (Nat.le_of_ble_eq_true rfl) dX3_isArray_24
    · replace hF := zif_f hF c2
      refine j_aload_n C dX3_isArray_10 rfl 0 rfl ?_
      refine m_get0 C in_X3_isArray_wsX30 1 (by decide) (by decide +kernel) rfl dX3_isArray_11 ?_
      refine j_iload_n C dX3_isArray_14 rfl 1 rfl ?_
      have b3 := zif_c hF hn
      replace hF := zif_t hF b3
      refine m_zald C b3 dX3_isArray_15 ?_
      refine j_if_eq (tgt := 23) C dX3_isArray_16 (by decide) (fun c4 => ?_) (fun c4 => ?_)
      · replace hF := zif_t hF c4
        refine j_iconst (v := (0 : Int32)) C dX3_isArray_23 (by decide) ?_
        exact j_zret C hr rfl hF (Nat.le_of_ble_eq_true rfl) (Nat.le_of_ble_eq_true rfl) dX3_isArray_24
      · replace hF := zif_f hF c4
        refine j_iconst (v := (1 : Int32)) C dX3_isArray_19 (by decide) ?_
        refine j_goto (tgt := 24) C dX3_isArray_20 (by decide) ?_
        exact j_zret C hr rfl hF (Nat.le_of_ble_eq_true rfl) (Nat.le_of_ble_eq_true rfl) dX3_isArray_24
end
/-! X3_free -/
def rmX3_free : Room := { frames := 10, cells := 0, slots := 0, locals := 120 }
theorem in_X3_free_wsX30 : ∀ w ∈ wsX30, w ∈ wsX3_free := by decide +kernel
section
variable {p : Program} {l : Launch} {e : Env} {s : State} {m : MethodId} {args : Array Value} {below : List Frame} {meth : Method} {c : Code} {D : va_G} {cI cZ : ClassId} {ad : Nat → Nat}
def fX3_free_2 (n : Nat) (X_23 : Int32 → zS → zF Int32) : Nat → Int32 → zS → zF Int32
  | 0, _, _ => none
  | k + 1, i1, st => (if (16 : Int32) ≤ i1 then X_23 i1 st else (if inb i1 (ml 1) then (if (st 1 (i1).toNatClampNeg) = 0 then X_23 i1 st else fX3_free_2 n X_23 k (i1 + (1 : Int32)) st) else none))
set_option maxHeartbeats 4000000 in
set_option maxRecDepth 100000 in
theorem wX3_free_2 (C : zC p s m args meth c cX3_free RX3 wsX3_free D zcl (mty cI cZ) 7 ad 2) (hne : ∀ x ∈ c.exceptionTable.toList, False) (hl : l.stackTraces = false) (hT : mT s.heap.size s) (hr : meth.sig.returnType = (some .int)) {F : zF Int32} (hn : F ≠ none) (n : Nat) {X_23 : Int32 → zS → zF Int32} (hX_23 : ∀ (i1 : Int32) (st : zS), X_23 i1 st = F → mJ (fun v : Int32 => some (.int v)) F 0 0 p l e rmX3_free s m args below meth c D cI cZ ad 2 st 0 0 23 [(1, .int i1)] []) : ∀ (k : Nat) (i1 : Int32) (st : zS), fX3_free_2 n X_23 k i1 st = F → mJ (fun v : Int32 => some (.int v)) F 0 0 p l e rmX3_free s m args below meth c D cI cZ ad 2 st 0 0 2 [(0, .ref (ad 0)), (1, .int i1)] [] := by
  intro k
  induction k with
  | zero =>
    intro i1 st hF
    exact absurd hF.symm hn
  | succ k ih =>
    intro i1 st hF
    rw [fX3_free_2] at hF
    refine j_iload_n C dX3_free_2 rfl 1 rfl ?_
    refine j_bipush (v := (16 : Int32)) C dX3_free_3 (by decide) ?_
    refine j_icmp_ge (tgt := 23) C dX3_free_5 (by decide) (fun c1 => ?_) (fun c1 => ?_)
    · replace hF := zif_t hF c1
      refine j_sub [1] rfl ?_
      exact hX_23 i1 st hF
    · replace hF := zif_f hF c1
      refine j_aload_n C dX3_free_8 rfl 0 rfl ?_
      refine m_get0 C in_X3_free_wsX30 1 (by decide) (by decide +kernel) rfl dX3_free_9 ?_
      refine j_iload_n C dX3_free_12 rfl 1 rfl ?_
      have b2 := zif_c hF hn
      replace hF := zif_t hF b2
      refine m_zald C b2 dX3_free_13 ?_
      refine j_if_eq (tgt := 23) C dX3_free_14 (by decide) (fun c3 => ?_) (fun c3 => ?_)
      · replace hF := zif_t hF c3
        refine j_sub [1] rfl ?_
        exact hX_23 i1 st hF
      · replace hF := zif_f hF c3
        refine j_iinc (lv' := [(1, .int (i1 + (1 : Int32))), (0, .ref (ad 0))]) C dX3_free_17 1 rfl rfl (by decide) rfl ?_
        refine j_goto (tgt := 2) C dX3_free_20 (by decide) ?_
        refine j_sub [1, 0] rfl ?_
        exact ih (i1 + (1 : Int32)) st hF
def fX3_free (n : Nat)  (st : zS) : zF Int32 := fX3_free_2 n (fun (i1 : Int32) (st : zS) => some (.inl i1, st)) n (0 : Int32) st
set_option maxHeartbeats 4000000 in
set_option maxRecDepth 100000 in
theorem kX3_free (hl : l.stackTraces = false) (n : Nat)  (st : zS) (hn : fX3_free n  st ≠ none) : zM (fun v : Int32 => some (.int v)) l yX3_free wsX3_free rmX3_free D zcl (mty cI cZ) 7 ad (mce cI cZ ad) mT 0 0 [.ref (ad 0)] st (fX3_free n  st) := by
  refine z_ofJ (cc := cX3_free) (maxL := 2) (ret := (some .int)) (lv := [(0, .ref (ad 0))]) (by decide) rfl (Nat.le_of_ble_eq_true rfl) rfl ?_
  intro p e s m args below meth c C hne hT hr
  obtain ⟨F, hFe⟩ : ∃ F, F = fX3_free n  st := ⟨_, rfl⟩
  rw [← hFe] at hn ⊢
  have hF : fX3_free n  st = F := hFe.symm
  clear hFe
  unfold fX3_free at hF
  have C : zC p s m args meth c cX3_free RX3 wsX3_free D zcl (mty cI cZ) 7 ad 2 := C
  refine j_iconst (v := (0 : Int32)) C dX3_free_0 (by decide) ?_
  refine j_istore_n (lv' := [(1, .int (0 : Int32)), (0, .ref (ad 0))]) C dX3_free_1 rfl (by decide) rfl ?_
  refine j_sub [1, 0] rfl ?_
  refine wX3_free_2 C hne hl hT hr hn n ?_ n (0 : Int32) st hF
  · intro i1 st hF
    refine j_iload_n C dX3_free_23 rfl 0 rfl ?_
    exact j_iret C hr hF (Nat.le_of_ble_eq_true rfl) (Nat.le_of_ble_eq_true rfl) dX3_free_24
end
/-! X3_leaves -/
def rmX3_leaves : Room := { frames := 10, cells := 0, slots := 0, locals := 120 }
section
variable {p : Program} {l : Launch} {e : Env} {s : State} {m : MethodId} {args : Array Value} {below : List Frame} {meth : Method} {c : Code} {D : va_G} {cI cZ : ClassId} {ad : Nat → Nat}
def fX3_leaves (n : Nat) (i0 : Int32) (st : zS) : zF Int32 := some (.inl ((i0 + (15 : Int32)) / (16 : Int32)), st)
set_option maxHeartbeats 4000000 in
set_option maxRecDepth 100000 in
theorem kX3_leaves (hl : l.stackTraces = false) (n : Nat) (i0 : Int32) (st : zS) (hn : fX3_leaves n i0 st ≠ none) : zM (fun v : Int32 => some (.int v)) l yX3_leaves wsX3_leaves rmX3_leaves D zcl (mty cI cZ) 7 ad (mce cI cZ ad) mT 0 0 [.int i0] st (fX3_leaves n i0 st) := by
  refine z_ofJ (cc := cX3_leaves) (maxL := 1) (ret := (some .int)) (lv := [(0, .int i0)]) (by decide) rfl (Nat.le_of_ble_eq_true rfl) rfl ?_
  intro p e s m args below meth c C hne hT hr
  obtain ⟨F, hFe⟩ : ∃ F, F = fX3_leaves n i0 st := ⟨_, rfl⟩
  rw [← hFe] at hn ⊢
  have hF : fX3_leaves n i0 st = F := hFe.symm
  clear hFe
  unfold fX3_leaves at hF
  have C : zC p s m args meth c cX3_leaves RX3 wsX3_leaves D zcl (mty cI cZ) 7 ad 1 := C
  refine j_iload_n C dX3_leaves_0 rfl 0 rfl ?_
  refine j_bipush (v := (15 : Int32)) C dX3_leaves_1 (by decide) ?_
  refine j_iadd C dX3_leaves_3 ?_
  refine j_bipush (v := (16 : Int32)) C dX3_leaves_4 (by decide) ?_
  refine j_idiv C dX3_leaves_6 (by decide) ?_
  exact j_iret C hr hF (Nat.le_of_ble_eq_true rfl) (Nat.le_of_ble_eq_true rfl) dX3_leaves_7
end
/-! X3_countAll -/
def rmX3_countAll : Room := { frames := 11, cells := 0, slots := 0, locals := 160 }
theorem in_X3_countAll_wsX30 : ∀ w ∈ wsX30, w ∈ wsX3_countAll := by decide +kernel
section
variable {p : Program} {l : Launch} {e : Env} {s : State} {m : MethodId} {args : Array Value} {below : List Frame} {meth : Method} {c : Code} {D : va_G} {cI cZ : ClassId} {ad : Nat → Nat}
def fX3_countAll_2 (n : Nat) (X_23 : zS → zF Int32) : Nat → Int32 → zS → zF Int32
  | 0, _, _ => none
  | k + 1, i1, st => (if (st 0 6) < i1 then X_23 st else (if inb i1 (ml 5) then (zl (upA st 5 (upd (st 5) (i1).toNatClampNeg (0 : Int32))) (fun (s3 : zS) => fX3_countAll_2 n X_23 k (i1 + (1 : Int32)) s3)) else none))
set_option maxHeartbeats 4000000 in
set_option maxRecDepth 100000 in
theorem wX3_countAll_2 (C : zC p s m args meth c cX3_countAll RX3 wsX3_countAll D zcl (mty cI cZ) 7 ad 5) (hne : ∀ x ∈ c.exceptionTable.toList, False) (hl : l.stackTraces = false) (hT : mT s.heap.size s) (hr : meth.sig.returnType = (some .int)) {F : zF Int32} (hn : F ≠ none) (n : Nat) {X_23 : zS → zF Int32} (hX_23 : ∀  (st : zS), X_23 st = F → mJ (fun v : Int32 => some (.int v)) F 0 0 p l e rmX3_countAll s m args below meth c D cI cZ ad 5 st 0 0 23 [(0, .ref (ad 0))] []) : ∀ (k : Nat) (i1 : Int32) (st : zS), fX3_countAll_2 n X_23 k i1 st = F → mJ (fun v : Int32 => some (.int v)) F 0 0 p l e rmX3_countAll s m args below meth c D cI cZ ad 5 st 0 0 2 [(0, .ref (ad 0)), (1, .int i1)] [] := by
  intro k
  induction k with
  | zero =>
    intro i1 st hF
    exact absurd hF.symm hn
  | succ k ih =>
    intro i1 st hF
    rw [fX3_countAll_2] at hF
    refine j_iload_n C dX3_countAll_2 rfl 1 rfl ?_
    refine j_aload_n C dX3_countAll_3 rfl 0 rfl ?_
    refine m_get0 C in_X3_countAll_wsX30 6 (by decide) (by decide +kernel) rfl dX3_countAll_4 ?_
    refine j_icmp_gt (tgt := 23) C dX3_countAll_7 (by decide) (fun c1 => ?_) (fun c1 => ?_)
    · replace hF := zif_t hF c1
      refine j_sub [0] rfl ?_
      exact hX_23 st hF
    · replace hF := zif_f hF c1
      refine j_aload_n C dX3_countAll_10 rfl 0 rfl ?_
      refine m_get0 C in_X3_countAll_wsX30 5 (by decide) (by decide +kernel) rfl dX3_countAll_11 ?_
      refine j_iload_n C dX3_countAll_14 rfl 1 rfl ?_
      refine j_iconst (v := (0 : Int32)) C dX3_countAll_15 (by decide) ?_
      have b2 := zif_c hF hn
      replace hF := zif_t hF b2
      refine m_iast C (by decide) b2 dX3_countAll_16 ?_
      obtain ⟨s3, es3, hF⟩ := zl_e hF
      rw [← es3]
      refine j_iinc (lv' := [(1, .int (i1 + (1 : Int32))), (0, .ref (ad 0))]) C dX3_countAll_17 1 rfl rfl (by decide) rfl ?_
      refine j_goto (tgt := 2) C dX3_countAll_20 (by decide) ?_
      refine j_sub [1, 0] rfl ?_
      exact ih (i1 + (1 : Int32)) s3 hF
def fX3_countAll_96 (n : Nat) (B_35 : Int32 → Int32 → Int32 → zS → zF Int32) (i2 : Int32) (i3 : Int32) (i4 : Int32) (it0 : Int32) (it1 : Int32) (st : zS) : zF Int32 := (if inb i4 (ml 5) then (if inb i4 (ml 5) then (zl (upA st 5 (upd (st 5) (i4).toNatClampNeg ((st 5 (i4).toNatClampNeg) + (1 : Int32)))) (fun (s18 : zS) => B_35 (it1 + it0) i2 (i3 + (1 : Int32)) s18)) else none) else none)
set_option maxHeartbeats 4000000 in
set_option maxRecDepth 100000 in
theorem wX3_countAll_96 (C : zC p s m args meth c cX3_countAll RX3 wsX3_countAll D zcl (mty cI cZ) 7 ad 5) (hne : ∀ x ∈ c.exceptionTable.toList, False) (hl : l.stackTraces = false) (hT : mT s.heap.size s) (hr : meth.sig.returnType = (some .int)) {F : zF Int32} (hn : F ≠ none) (n : Nat) {B_35 : Int32 → Int32 → Int32 → zS → zF Int32} (hB_35 : ∀ (i1 : Int32) (i2 : Int32) (i3 : Int32) (st : zS), B_35 i1 i2 i3 st = F → mJ (fun v : Int32 => some (.int v)) F 0 0 p l e rmX3_countAll s m args below meth c D cI cZ ad 5 st 0 0 35 [(0, .ref (ad 0)), (1, .int i1), (2, .int i2), (3, .int i3)] []) : ∀ (i2 : Int32) (i3 : Int32) (i4 : Int32) (it0 : Int32) (it1 : Int32) (st : zS), fX3_countAll_96 n B_35 i2 i3 i4 it0 it1 st = F → mJ (fun v : Int32 => some (.int v)) F 0 0 p l e rmX3_countAll s m args below meth c D cI cZ ad 5 st 0 0 96 [(0, .ref (ad 0)), (2, .int i2), (3, .int i3), (4, .int i4)] [.int it0, .int it1] := by
  intro i2 i3 i4 it0 it1 st hF
  unfold fX3_countAll_96 at hF
  refine j_iadd C dX3_countAll_96 ?_
  refine j_istore_n (lv' := [(1, .int (it1 + it0)), (0, .ref (ad 0)), (2, .int i2), (3, .int i3), (4, .int i4)]) C dX3_countAll_97 rfl (by decide) rfl ?_
  refine j_aload_n C dX3_countAll_98 rfl 1 rfl ?_
  refine m_get0 C in_X3_countAll_wsX30 5 (by decide) (by decide +kernel) rfl dX3_countAll_99 ?_
  refine j_iload C dX3_countAll_102 4 rfl ?_
  refine j_dup2 C dX3_countAll_104 rfl rfl ?_
  have b16 := zif_c hF hn
  replace hF := zif_t hF b16
  refine m_iald C (by decide) b16 dX3_countAll_105 ?_
  refine j_iconst (v := (1 : Int32)) C dX3_countAll_106 (by decide) ?_
  refine j_iadd C dX3_countAll_107 ?_
  have b17 := zif_c hF hn
  replace hF := zif_t hF b17
  refine m_iast C (by decide) b17 dX3_countAll_108 ?_
  obtain ⟨s18, es18, hF⟩ := zl_e hF
  rw [← es18]
  refine j_iinc (lv' := [(3, .int (i3 + (1 : Int32))), (1, .int (it1 + it0)), (0, .ref (ad 0)), (2, .int i2), (4, .int i4)]) C dX3_countAll_109 3 rfl rfl (by decide) rfl ?_
  refine j_goto (tgt := 35) C dX3_countAll_112 (by decide) ?_
  refine j_sub [2, 1, 3, 0] rfl ?_
  exact hB_35 (it1 + it0) i2 (i3 + (1 : Int32)) s18 hF
def fX3_countAll_35 (n : Nat) (X_115 : Int32 → Int32 → zS → zF Int32) : Nat → Int32 → Int32 → Int32 → zS → zF Int32
  | 0, _, _, _, _ => none
  | k + 1, i1, i2, i3, st => (if inb i2 (ml 1) then (if (st 1 (i2).toNatClampNeg) = 0 then X_115 i1 i2 st else (if inb i2 (ml 2) then (zb (fX3_leaves n (st 2 (i2).toNatClampNeg) st) (fun (v9 : Int32) (u8 : zS) => (if v9 ≤ i3 then X_115 i1 i2 u8 else (if inb (((256 : Int32) * i2) + i3) (ml 4) then (if (u8 4 ((((256 : Int32) * i2) + i3)).toNatClampNeg) = ((-1) : Int32) then fX3_countAll_35 n X_115 k i1 i2 (i3 + (1 : Int32)) u8 else (if inb (u8 4 ((((256 : Int32) * i2) + i3)).toNatClampNeg) (ml 5) then (if (u8 5 ((u8 4 ((((256 : Int32) * i2) + i3)).toNatClampNeg)).toNatClampNeg) = 0 then fX3_countAll_96 n (fun (i1 : Int32) (i2 : Int32) (i3 : Int32) (st : zS) => fX3_countAll_35 n X_115 k i1 i2 i3 st) i2 i3 (u8 4 ((((256 : Int32) * i2) + i3)).toNatClampNeg) (1 : Int32) i1 u8 else fX3_countAll_96 n (fun (i1 : Int32) (i2 : Int32) (i3 : Int32) (st : zS) => fX3_countAll_35 n X_115 k i1 i2 i3 st) i2 i3 (u8 4 ((((256 : Int32) * i2) + i3)).toNatClampNeg) (0 : Int32) i1 u8) else none)) else none)))) else none)) else none)
set_option maxHeartbeats 4000000 in
set_option maxRecDepth 100000 in
theorem wX3_countAll_35 (C : zC p s m args meth c cX3_countAll RX3 wsX3_countAll D zcl (mty cI cZ) 7 ad 5) (hne : ∀ x ∈ c.exceptionTable.toList, False) (hl : l.stackTraces = false) (hT : mT s.heap.size s) (hr : meth.sig.returnType = (some .int)) {F : zF Int32} (hn : F ≠ none) (n : Nat) {X_115 : Int32 → Int32 → zS → zF Int32} (hX_115 : ∀ (i1 : Int32) (i2 : Int32) (st : zS), X_115 i1 i2 st = F → mJ (fun v : Int32 => some (.int v)) F 0 0 p l e rmX3_countAll s m args below meth c D cI cZ ad 5 st 0 0 115 [(0, .ref (ad 0)), (1, .int i1), (2, .int i2)] []) : ∀ (k : Nat) (i1 : Int32) (i2 : Int32) (i3 : Int32) (st : zS), fX3_countAll_35 n X_115 k i1 i2 i3 st = F → mJ (fun v : Int32 => some (.int v)) F 0 0 p l e rmX3_countAll s m args below meth c D cI cZ ad 5 st 0 0 35 [(0, .ref (ad 0)), (1, .int i1), (2, .int i2), (3, .int i3)] [] := by
  intro k
  induction k with
  | zero =>
    intro i1 i2 i3 st hF
    exact absurd hF.symm hn
  | succ k ih =>
    intro i1 i2 i3 st hF
    rw [fX3_countAll_35] at hF
    refine j_aload_n C dX3_countAll_35 rfl 0 rfl ?_
    refine m_get0 C in_X3_countAll_wsX30 1 (by decide) (by decide +kernel) rfl dX3_countAll_36 ?_
    refine j_iload_n C dX3_countAll_39 rfl 2 rfl ?_
    have b5 := zif_c hF hn
    replace hF := zif_t hF b5
    refine m_zald C b5 dX3_countAll_40 ?_
    refine j_if_eq (tgt := 115) C dX3_countAll_41 (by decide) (fun c6 => ?_) (fun c6 => ?_)
    · replace hF := zif_t hF c6
      refine j_sub [0, 1, 2] rfl ?_
      exact hX_115 i1 i2 st hF
    · replace hF := zif_f hF c6
      refine j_iload_n C dX3_countAll_44 rfl 3 rfl ?_
      refine j_aload_n C dX3_countAll_45 rfl 0 rfl ?_
      refine m_get0 C in_X3_countAll_wsX30 2 (by decide) (by decide +kernel) rfl dX3_countAll_46 ?_
      refine j_iload_n C dX3_countAll_49 rfl 2 rfl ?_
      have b7 := zif_c hF hn
      replace hF := zif_t hF b7
      refine m_iald C (by decide) b7 dX3_countAll_50 ?_
      refine j_callSi C hne mT_S hT (As := [.int (st 2 (i2).toNatClampNeg)]) (rest := [.int i3]) (kX3_leaves hl n (st 2 (i2).toNatClampNeg) st (zb_n hF hn)) (va_cwS 1 C.1.2.2.2.2 gX3_countAll_X3_leaves rfl rfl rfl (by decide +kernel) ⟨(Nat.le_of_ble_eq_true rfl), (Nat.le_of_ble_eq_true rfl)⟩) rfl rfl (Nat.le_of_ble_eq_true rfl) dX3_countAll_51 ⟨(Nat.le_of_ble_eq_true rfl), (Nat.le_of_ble_eq_true rfl)⟩ (fun _ _ h9 => zb_x hF h9) (Nat.le_of_ble_eq_true rfl) (Nat.le_of_ble_eq_true rfl) (fun v9 u8 h10 => ?_)
      replace hF := zb_l hF h10
      refine j_icmp_ge (tgt := 115) C dX3_countAll_54 (by decide) (fun c11 => ?_) (fun c11 => ?_)
      · replace hF := zif_t hF c11
        refine j_sub [0, 1, 2] rfl ?_
        exact hX_115 i1 i2 u8 hF
      · replace hF := zif_f hF c11
        refine j_aload_n C dX3_countAll_57 rfl 0 rfl ?_
        refine m_get0 C in_X3_countAll_wsX30 4 (by decide) (by decide +kernel) rfl dX3_countAll_58 ?_
        refine j_sipush (v := (256 : Int32)) C dX3_countAll_61 (by decide) ?_
        refine j_iload_n C dX3_countAll_64 rfl 2 rfl ?_
        refine j_imul C dX3_countAll_65 ?_
        refine j_iload_n C dX3_countAll_66 rfl 3 rfl ?_
        refine j_iadd C dX3_countAll_67 ?_
        have b12 := zif_c hF hn
        replace hF := zif_t hF b12
        refine m_iald C (by decide) b12 dX3_countAll_68 ?_
        refine j_istore (lv' := [(4, .int (u8 4 ((((256 : Int32) * i2) + i3)).toNatClampNeg)), (0, .ref (ad 0)), (1, .int i1), (2, .int i2), (3, .int i3)]) C dX3_countAll_69 (by decide) rfl ?_
        refine j_iload C dX3_countAll_71 0 rfl ?_
        refine j_iconst (v := ((-1) : Int32)) C dX3_countAll_73 (by decide) ?_
        refine j_icmp_ne (tgt := 80) C dX3_countAll_74 (by decide) (fun c13 => ?_) (fun c13 => ?_)
        · replace hF := zif_f hF c13
          refine j_iload_n C dX3_countAll_80 rfl 2 rfl ?_
          refine j_aload_n C dX3_countAll_81 rfl 1 rfl ?_
          refine m_get0 C in_X3_countAll_wsX30 5 (by decide) (by decide +kernel) rfl dX3_countAll_82 ?_
          refine j_iload C dX3_countAll_85 0 rfl ?_
          have b14 := zif_c hF hn
          replace hF := zif_t hF b14
          refine m_iald C (by decide) b14 dX3_countAll_87 ?_
          refine j_if_ne (tgt := 95) C dX3_countAll_88 (by decide) (fun c15 => ?_) (fun c15 => ?_)
          · replace hF := zif_f hF c15
            refine j_iconst (v := (0 : Int32)) C dX3_countAll_95 (by decide) ?_
            refine j_sub [1, 3, 4, 0] rfl ?_
            refine wX3_countAll_96 C hne hl hT hr hn n ?_ i2 i3 (u8 4 ((((256 : Int32) * i2) + i3)).toNatClampNeg) (0 : Int32) i1 u8 hF
            · intro i1 i2 i3 st hF
              exact ih i1 i2 i3 st hF
          · replace hF := zif_t hF c15
            refine j_iconst (v := (1 : Int32)) C dX3_countAll_91 (by decide) ?_
            refine j_goto (tgt := 96) C dX3_countAll_92 (by decide) ?_
            refine j_sub [1, 3, 4, 0] rfl ?_
            refine wX3_countAll_96 C hne hl hT hr hn n ?_ i2 i3 (u8 4 ((((256 : Int32) * i2) + i3)).toNatClampNeg) (1 : Int32) i1 u8 hF
            · intro i1 i2 i3 st hF
              exact ih i1 i2 i3 st hF
        · replace hF := zif_t hF c13
          refine j_goto (tgt := 109) C dX3_countAll_77 (by decide) ?_
          refine j_iinc (lv' := [(3, .int (i3 + (1 : Int32))), (4, .int (u8 4 ((((256 : Int32) * i2) + i3)).toNatClampNeg)), (0, .ref (ad 0)), (1, .int i1), (2, .int i2)]) C dX3_countAll_109 4 rfl rfl (by decide) rfl ?_
          refine j_goto (tgt := 35) C dX3_countAll_112 (by decide) ?_
          refine j_sub [2, 3, 4, 0] rfl ?_
          exact ih i1 i2 (i3 + (1 : Int32)) u8 hF
def fX3_countAll_27 (n : Nat) (X_121 : Int32 → zS → zF Int32) : Nat → Int32 → Int32 → zS → zF Int32
  | 0, _, _, _ => none
  | k + 1, i1, i2, st => (if (16 : Int32) ≤ i2 then X_121 i1 st else fX3_countAll_35 n (fun (i1 : Int32) (i2 : Int32) (st : zS) => fX3_countAll_27 n X_121 k i1 (i2 + (1 : Int32)) st) n i1 i2 (0 : Int32) st)
set_option maxHeartbeats 4000000 in
set_option maxRecDepth 100000 in
theorem wX3_countAll_27 (C : zC p s m args meth c cX3_countAll RX3 wsX3_countAll D zcl (mty cI cZ) 7 ad 5) (hne : ∀ x ∈ c.exceptionTable.toList, False) (hl : l.stackTraces = false) (hT : mT s.heap.size s) (hr : meth.sig.returnType = (some .int)) {F : zF Int32} (hn : F ≠ none) (n : Nat) {X_121 : Int32 → zS → zF Int32} (hX_121 : ∀ (i1 : Int32) (st : zS), X_121 i1 st = F → mJ (fun v : Int32 => some (.int v)) F 0 0 p l e rmX3_countAll s m args below meth c D cI cZ ad 5 st 0 0 121 [(1, .int i1)] []) : ∀ (k : Nat) (i1 : Int32) (i2 : Int32) (st : zS), fX3_countAll_27 n X_121 k i1 i2 st = F → mJ (fun v : Int32 => some (.int v)) F 0 0 p l e rmX3_countAll s m args below meth c D cI cZ ad 5 st 0 0 27 [(0, .ref (ad 0)), (1, .int i1), (2, .int i2)] [] := by
  intro k
  induction k with
  | zero =>
    intro i1 i2 st hF
    exact absurd hF.symm hn
  | succ k ih =>
    intro i1 i2 st hF
    rw [fX3_countAll_27] at hF
    refine j_iload_n C dX3_countAll_27 rfl 2 rfl ?_
    refine j_bipush (v := (16 : Int32)) C dX3_countAll_28 (by decide) ?_
    refine j_icmp_ge (tgt := 121) C dX3_countAll_30 (by decide) (fun c4 => ?_) (fun c4 => ?_)
    · replace hF := zif_t hF c4
      refine j_sub [1] rfl ?_
      exact hX_121 i1 st hF
    · replace hF := zif_f hF c4
      refine j_iconst (v := (0 : Int32)) C dX3_countAll_33 (by decide) ?_
      refine j_istore_n (lv' := [(3, .int (0 : Int32)), (0, .ref (ad 0)), (1, .int i1), (2, .int i2)]) C dX3_countAll_34 rfl (by decide) rfl ?_
      refine j_sub [1, 2, 3, 0] rfl ?_
      refine wX3_countAll_35 C hne hl hT hr hn n ?_ n i1 i2 (0 : Int32) st hF
      · intro i1 i2 st hF
        refine j_iinc (lv' := [(2, .int (i2 + (1 : Int32))), (0, .ref (ad 0)), (1, .int i1)]) C dX3_countAll_115 2 rfl rfl (by decide) rfl ?_
        refine j_goto (tgt := 27) C dX3_countAll_118 (by decide) ?_
        refine j_sub [1, 2, 0] rfl ?_
        exact ih i1 (i2 + (1 : Int32)) st hF
def fX3_countAll (n : Nat)  (st : zS) : zF Int32 := fX3_countAll_2 n (fun  (st : zS) => fX3_countAll_27 n (fun (i1 : Int32) (st : zS) => some (.inl i1, st)) n (0 : Int32) (0 : Int32) st) n (0 : Int32) st
set_option maxHeartbeats 4000000 in
set_option maxRecDepth 100000 in
theorem kX3_countAll (hl : l.stackTraces = false) (n : Nat)  (st : zS) (hn : fX3_countAll n  st ≠ none) : zM (fun v : Int32 => some (.int v)) l yX3_countAll wsX3_countAll rmX3_countAll D zcl (mty cI cZ) 7 ad (mce cI cZ ad) mT 0 0 [.ref (ad 0)] st (fX3_countAll n  st) := by
  refine z_ofJ (cc := cX3_countAll) (maxL := 5) (ret := (some .int)) (lv := [(0, .ref (ad 0))]) (by decide) rfl (Nat.le_of_ble_eq_true rfl) rfl ?_
  intro p e s m args below meth c C hne hT hr
  obtain ⟨F, hFe⟩ : ∃ F, F = fX3_countAll n  st := ⟨_, rfl⟩
  rw [← hFe] at hn ⊢
  have hF : fX3_countAll n  st = F := hFe.symm
  clear hFe
  unfold fX3_countAll at hF
  have C : zC p s m args meth c cX3_countAll RX3 wsX3_countAll D zcl (mty cI cZ) 7 ad 5 := C
  refine j_iconst (v := (0 : Int32)) C dX3_countAll_0 (by decide) ?_
  refine j_istore_n (lv' := [(1, .int (0 : Int32)), (0, .ref (ad 0))]) C dX3_countAll_1 rfl (by decide) rfl ?_
  refine j_sub [1, 0] rfl ?_
  refine wX3_countAll_2 C hne hl hT hr hn n ?_ n (0 : Int32) st hF
  · intro  st hF
    refine j_iconst (v := (0 : Int32)) C dX3_countAll_23 (by decide) ?_
    refine j_istore_n (lv' := [(1, .int (0 : Int32)), (0, .ref (ad 0))]) C dX3_countAll_24 rfl (by decide) rfl ?_
    refine j_iconst (v := (0 : Int32)) C dX3_countAll_25 (by decide) ?_
    refine j_istore_n (lv' := [(2, .int (0 : Int32)), (1, .int (0 : Int32)), (0, .ref (ad 0))]) C dX3_countAll_26 rfl (by decide) rfl ?_
    refine j_sub [2, 1, 0] rfl ?_
    refine wX3_countAll_27 C hne hl hT hr hn n ?_ n (0 : Int32) (0 : Int32) st hF
    · intro i1 st hF
      refine j_iload_n C dX3_countAll_121 rfl 0 rfl ?_
      exact j_iret C hr hF (Nat.le_of_ble_eq_true rfl) (Nat.le_of_ble_eq_true rfl) dX3_countAll_122
end
/-! X3_isPlain -/
def rmX3_isPlain : Room := { frames := 10, cells := 0, slots := 0, locals := 120 }
theorem in_X3_isPlain_wsX30 : ∀ w ∈ wsX30, w ∈ wsX3_isPlain := by decide +kernel
section
variable {p : Program} {l : Launch} {e : Env} {s : State} {m : MethodId} {args : Array Value} {below : List Frame} {meth : Method} {c : Code} {D : va_G} {cI cZ : ClassId} {ad : Nat → Nat}
def fX3_isPlain_5 (n : Nat) (X_45 : Int32 → zS → zF Int32) : Nat → Int32 → Int32 → Int32 → Int32 → zS → zF Int32
  | 0, _, _, _, _, _ => none
  | k + 1, i1, i2, i3, i4, st => (if i2 ≤ i4 then X_45 i3 st else (if i3 = 0 then fX3_isPlain_5 n X_45 k i1 i2 (0 : Int32) (i4 + (1 : Int32)) st else (if inb (i1 + i4) (ml 3) then (if inb i1 (ml 3) then (if (st 3 ((i1 + i4)).toNatClampNeg) = (st 3 (i1).toNatClampNeg) then fX3_isPlain_5 n X_45 k i1 i2 (1 : Int32) (i4 + (1 : Int32)) st else fX3_isPlain_5 n X_45 k i1 i2 (0 : Int32) (i4 + (1 : Int32)) st) else none) else none)))
set_option maxHeartbeats 4000000 in
set_option maxRecDepth 100000 in
theorem wX3_isPlain_5 (C : zC p s m args meth c cX3_isPlain RX3 wsX3_isPlain D zcl (mty cI cZ) 7 ad 5) (hne : ∀ x ∈ c.exceptionTable.toList, False) (hl : l.stackTraces = false) (hT : mT s.heap.size s) (hr : meth.sig.returnType = (some .boolean)) {F : zF Int32} (hn : F ≠ none) (n : Nat) {X_45 : Int32 → zS → zF Int32} (hX_45 : ∀ (i3 : Int32) (st : zS), X_45 i3 st = F → mJ (fun v : Int32 => some (.int v)) F 0 0 p l e rmX3_isPlain s m args below meth c D cI cZ ad 5 st 0 0 45 [(3, .int i3)] []) : ∀ (k : Nat) (i1 : Int32) (i2 : Int32) (i3 : Int32) (i4 : Int32) (st : zS), fX3_isPlain_5 n X_45 k i1 i2 i3 i4 st = F → mJ (fun v : Int32 => some (.int v)) F 0 0 p l e rmX3_isPlain s m args below meth c D cI cZ ad 5 st 0 0 5 [(0, .ref (ad 0)), (1, .int i1), (2, .int i2), (3, .int i3), (4, .int i4)] [] := by
  intro k
  induction k with
  | zero =>
    intro i1 i2 i3 i4 st hF
    exact absurd hF.symm hn
  | succ k ih =>
    intro i1 i2 i3 i4 st hF
    rw [fX3_isPlain_5] at hF
    refine j_iload C dX3_isPlain_5 4 rfl ?_
    refine j_iload_n C dX3_isPlain_7 rfl 2 rfl ?_
    refine j_icmp_ge (tgt := 45) C dX3_isPlain_8 (by decide) (fun c1 => ?_) (fun c1 => ?_)
    · replace hF := zif_t hF c1
      refine j_sub [3] rfl ?_
      exact hX_45 i3 st hF
    · replace hF := zif_f hF c1
      refine j_iload_n C dX3_isPlain_11 rfl 3 rfl ?_
      refine j_if_eq (tgt := 37) C dX3_isPlain_12 (by decide) (fun c2 => ?_) (fun c2 => ?_)
      · replace hF := zif_t hF c2
        refine j_iconst (v := (0 : Int32)) C dX3_isPlain_37 (by decide) ?_
        refine j_istore_n (lv' := [(3, .int (0 : Int32)), (0, .ref (ad 0)), (1, .int i1), (2, .int i2), (4, .int i4)]) C dX3_isPlain_38 rfl (by decide) rfl ?_
        refine j_iinc (lv' := [(4, .int (i4 + (1 : Int32))), (3, .int (0 : Int32)), (0, .ref (ad 0)), (1, .int i1), (2, .int i2)]) C dX3_isPlain_39 4 rfl rfl (by decide) rfl ?_
        refine j_goto (tgt := 5) C dX3_isPlain_42 (by decide) ?_
        refine j_sub [2, 3, 4, 1, 0] rfl ?_
        exact ih i1 i2 (0 : Int32) (i4 + (1 : Int32)) st hF
      · replace hF := zif_f hF c2
        refine j_aload_n C dX3_isPlain_15 rfl 0 rfl ?_
        refine m_get0 C in_X3_isPlain_wsX30 3 (by decide) (by decide +kernel) rfl dX3_isPlain_16 ?_
        refine j_iload_n C dX3_isPlain_19 rfl 1 rfl ?_
        refine j_iload C dX3_isPlain_20 4 rfl ?_
        refine j_iadd C dX3_isPlain_22 ?_
        have b3 := zif_c hF hn
        replace hF := zif_t hF b3
        refine m_iald C (by decide) b3 dX3_isPlain_23 ?_
        refine j_aload_n C dX3_isPlain_24 rfl 0 rfl ?_
        refine m_get0 C in_X3_isPlain_wsX30 3 (by decide) (by decide +kernel) rfl dX3_isPlain_25 ?_
        refine j_iload_n C dX3_isPlain_28 rfl 1 rfl ?_
        have b4 := zif_c hF hn
        replace hF := zif_t hF b4
        refine m_iald C (by decide) b4 dX3_isPlain_29 ?_
        refine j_icmp_ne (tgt := 37) C dX3_isPlain_30 (by decide) (fun c5 => ?_) (fun c5 => ?_)
        · replace hF := zif_f hF c5
          refine j_iconst (v := (0 : Int32)) C dX3_isPlain_37 (by decide) ?_
          refine j_istore_n (lv' := [(3, .int (0 : Int32)), (0, .ref (ad 0)), (1, .int i1), (2, .int i2), (4, .int i4)]) C dX3_isPlain_38 rfl (by decide) rfl ?_
          refine j_iinc (lv' := [(4, .int (i4 + (1 : Int32))), (3, .int (0 : Int32)), (0, .ref (ad 0)), (1, .int i1), (2, .int i2)]) C dX3_isPlain_39 4 rfl rfl (by decide) rfl ?_
          refine j_goto (tgt := 5) C dX3_isPlain_42 (by decide) ?_
          refine j_sub [2, 3, 4, 1, 0] rfl ?_
          exact ih i1 i2 (0 : Int32) (i4 + (1 : Int32)) st hF
        · replace hF := zif_t hF c5
          refine j_iconst (v := (1 : Int32)) C dX3_isPlain_33 (by decide) ?_
          refine j_goto (tgt := 38) C dX3_isPlain_34 (by decide) ?_
          refine j_istore_n (lv' := [(3, .int (1 : Int32)), (0, .ref (ad 0)), (1, .int i1), (2, .int i2), (4, .int i4)]) C dX3_isPlain_38 rfl (by decide) rfl ?_
          refine j_iinc (lv' := [(4, .int (i4 + (1 : Int32))), (3, .int (1 : Int32)), (0, .ref (ad 0)), (1, .int i1), (2, .int i2)]) C dX3_isPlain_39 4 rfl rfl (by decide) rfl ?_
          refine j_goto (tgt := 5) C dX3_isPlain_42 (by decide) ?_
          refine j_sub [2, 3, 4, 1, 0] rfl ?_
          exact ih i1 i2 (1 : Int32) (i4 + (1 : Int32)) st hF
def fX3_isPlain (n : Nat) (i1 : Int32) (i2 : Int32) (st : zS) : zF Int32 := fX3_isPlain_5 n (fun (i3 : Int32) (st : zS) => (if (i3 = 0 ∨ i3 = 1) then some (.inl i3, st) else none)) n i1 i2 (1 : Int32) (1 : Int32) st
set_option maxHeartbeats 4000000 in
set_option maxRecDepth 100000 in
theorem kX3_isPlain (hl : l.stackTraces = false) (n : Nat) (i1 : Int32) (i2 : Int32) (st : zS) (hn : fX3_isPlain n i1 i2 st ≠ none) : zM (fun v : Int32 => some (.int v)) l yX3_isPlain wsX3_isPlain rmX3_isPlain D zcl (mty cI cZ) 7 ad (mce cI cZ ad) mT 0 0 [.ref (ad 0), .int i1, .int i2] st (fX3_isPlain n i1 i2 st) := by
  refine z_ofJ (cc := cX3_isPlain) (maxL := 5) (ret := (some .boolean)) (lv := [(0, .ref (ad 0)), (1, .int i1), (2, .int i2)]) (by decide) rfl (Nat.le_of_ble_eq_true rfl) rfl ?_
  intro p e s m args below meth c C hne hT hr
  obtain ⟨F, hFe⟩ : ∃ F, F = fX3_isPlain n i1 i2 st := ⟨_, rfl⟩
  rw [← hFe] at hn ⊢
  have hF : fX3_isPlain n i1 i2 st = F := hFe.symm
  clear hFe
  unfold fX3_isPlain at hF
  have C : zC p s m args meth c cX3_isPlain RX3 wsX3_isPlain D zcl (mty cI cZ) 7 ad 5 := C
  refine j_iconst (v := (1 : Int32)) C dX3_isPlain_0 (by decide) ?_
  refine j_istore_n (lv' := [(3, .int (1 : Int32)), (0, .ref (ad 0)), (1, .int i1), (2, .int i2)]) C dX3_isPlain_1 rfl (by decide) rfl ?_
  refine j_iconst (v := (1 : Int32)) C dX3_isPlain_2 (by decide) ?_
  refine j_istore (lv' := [(4, .int (1 : Int32)), (3, .int (1 : Int32)), (0, .ref (ad 0)), (1, .int i1), (2, .int i2)]) C dX3_isPlain_3 (by decide) rfl ?_
  refine j_sub [2, 3, 4, 1, 0] rfl ?_
  refine wX3_isPlain_5 C hne hl hT hr hn n ?_ n i1 i2 (1 : Int32) (1 : Int32) st hF
  · intro i3 st hF
    refine j_iload_n C dX3_isPlain_45 rfl 0 rfl ?_
    have b6 := zif_c hF hn
    replace hF := zif_t hF b6
    exact j_zret C hr (nar01 b6) hF (Nat.le_of_ble_eq_true rfl) (Nat.le_of_ble_eq_true rfl) dX3_isPlain_46
end
/-! X3_inLeaf -/
def rmX3_inLeaf : Room := { frames := 10, cells := 0, slots := 0, locals := 120 }
section
variable {p : Program} {l : Launch} {e : Env} {s : State} {m : MethodId} {args : Array Value} {below : List Frame} {meth : Method} {c : Code} {D : va_G} {cI cZ : ClassId} {ad : Nat → Nat}
def fX3_inLeaf (n : Nat) (i0 : Int32) (i1 : Int32) (st : zS) : zF Int32 := (if (16 : Int32) ≤ (i0 - ((16 : Int32) * i1)) then some (.inl (16 : Int32), st) else some (.inl (i0 - ((16 : Int32) * i1)), st))
set_option maxHeartbeats 4000000 in
set_option maxRecDepth 100000 in
theorem kX3_inLeaf (hl : l.stackTraces = false) (n : Nat) (i0 : Int32) (i1 : Int32) (st : zS) (hn : fX3_inLeaf n i0 i1 st ≠ none) : zM (fun v : Int32 => some (.int v)) l yX3_inLeaf wsX3_inLeaf rmX3_inLeaf D zcl (mty cI cZ) 7 ad (mce cI cZ ad) mT 0 0 [.int i0, .int i1] st (fX3_inLeaf n i0 i1 st) := by
  refine z_ofJ (cc := cX3_inLeaf) (maxL := 2) (ret := (some .int)) (lv := [(0, .int i0), (1, .int i1)]) (by decide) rfl (Nat.le_of_ble_eq_true rfl) rfl ?_
  intro p e s m args below meth c C hne hT hr
  obtain ⟨F, hFe⟩ : ∃ F, F = fX3_inLeaf n i0 i1 st := ⟨_, rfl⟩
  rw [← hFe] at hn ⊢
  have hF : fX3_inLeaf n i0 i1 st = F := hFe.symm
  clear hFe
  unfold fX3_inLeaf at hF
  have C : zC p s m args meth c cX3_inLeaf RX3 wsX3_inLeaf D zcl (mty cI cZ) 7 ad 2 := C
  refine j_iload_n C dX3_inLeaf_0 rfl 0 rfl ?_
  refine j_bipush (v := (16 : Int32)) C dX3_inLeaf_1 (by decide) ?_
  refine j_iload_n C dX3_inLeaf_3 rfl 1 rfl ?_
  refine j_imul C dX3_inLeaf_4 ?_
  refine j_isub C dX3_inLeaf_5 ?_
  refine j_bipush (v := (16 : Int32)) C dX3_inLeaf_6 (by decide) ?_
  refine j_icmp_ge (tgt := 20) C dX3_inLeaf_8 (by decide) (fun c1 => ?_) (fun c1 => ?_)
  · replace hF := zif_t hF c1
    refine j_bipush (v := (16 : Int32)) C dX3_inLeaf_20 (by decide) ?_
    exact j_iret C hr hF (Nat.le_of_ble_eq_true rfl) (Nat.le_of_ble_eq_true rfl) dX3_inLeaf_22
  · replace hF := zif_f hF c1
    refine j_iload_n C dX3_inLeaf_11 rfl 0 rfl ?_
    refine j_bipush (v := (16 : Int32)) C dX3_inLeaf_12 (by decide) ?_
    refine j_iload_n C dX3_inLeaf_14 rfl 1 rfl ?_
    refine j_imul C dX3_inLeaf_15 ?_
    refine j_isub C dX3_inLeaf_16 ?_
    refine j_goto (tgt := 22) C dX3_inLeaf_17 (by decide) ?_
    exact j_iret C hr hF (Nat.le_of_ble_eq_true rfl) (Nat.le_of_ble_eq_true rfl) dX3_inLeaf_22
end
/-! X3_refuses -/
def rmX3_refuses : Room := { frames := 10, cells := 0, slots := 0, locals := 120 }
theorem in_X3_refuses_wsX30 : ∀ w ∈ wsX30, w ∈ wsX3_refuses := by decide +kernel
section
variable {p : Program} {l : Launch} {e : Env} {s : State} {m : MethodId} {args : Array Value} {below : List Frame} {meth : Method} {c : Code} {D : va_G} {cI cZ : ClassId} {ad : Nat → Nat}
def fX3_refuses (n : Nat) (i1 : Int32) (i2 : Int32) (st : zS) : zF Int32 := (if i1 = 0 then (if i2 = 0 then (zl (upA st 0 (upd (st 0) 0 (0 : Int32))) (fun (s3 : zS) => (if (s3 0 0) ≤ 0 then some (.inl (0 : Int32), s3) else some (.inl (1 : Int32), s3)))) else (zl (upA st 0 (upd (st 0) 0 (2 : Int32))) (fun (s5 : zS) => (if (s5 0 0) ≤ 0 then some (.inl (0 : Int32), s5) else some (.inl (1 : Int32), s5))))) else (zl (upA st 0 (upd (st 0) 0 (1 : Int32))) (fun (s7 : zS) => (if (s7 0 0) ≤ 0 then some (.inl (0 : Int32), s7) else some (.inl (1 : Int32), s7)))))
set_option maxHeartbeats 4000000 in
set_option maxRecDepth 100000 in
theorem kX3_refuses (hl : l.stackTraces = false) (n : Nat) (i1 : Int32) (i2 : Int32) (st : zS) (hn : fX3_refuses n i1 i2 st ≠ none) : zM (fun v : Int32 => some (.int v)) l yX3_refuses wsX3_refuses rmX3_refuses D zcl (mty cI cZ) 7 ad (mce cI cZ ad) mT 0 0 [.ref (ad 0), .int i1, .int i2] st (fX3_refuses n i1 i2 st) := by
  refine z_ofJ (cc := cX3_refuses) (maxL := 3) (ret := (some .boolean)) (lv := [(0, .ref (ad 0)), (1, .int i1), (2, .int i2)]) (by decide) rfl (Nat.le_of_ble_eq_true rfl) rfl ?_
  intro p e s m args below meth c C hne hT hr
  obtain ⟨F, hFe⟩ : ∃ F, F = fX3_refuses n i1 i2 st := ⟨_, rfl⟩
  rw [← hFe] at hn ⊢
  have hF : fX3_refuses n i1 i2 st = F := hFe.symm
  clear hFe
  unfold fX3_refuses at hF
  have C : zC p s m args meth c cX3_refuses RX3 wsX3_refuses D zcl (mty cI cZ) 7 ad 3 := C
  refine j_aload_n C dX3_refuses_0 rfl 0 rfl ?_
  refine j_iload_n C dX3_refuses_1 rfl 1 rfl ?_
  refine j_if_eq (tgt := 9) C dX3_refuses_2 (by decide) (fun c1 => ?_) (fun c1 => ?_)
  · replace hF := zif_t hF c1
    refine j_iload_n C dX3_refuses_9 rfl 2 rfl ?_
    refine j_if_eq (tgt := 17) C dX3_refuses_10 (by decide) (fun c2 => ?_) (fun c2 => ?_)
    · replace hF := zif_t hF c2
      refine j_iconst (v := (0 : Int32)) C dX3_refuses_17 (by decide) ?_
      refine m_put0 C in_X3_refuses_wsX30 0 (by decide) (by decide +kernel) dX3_refuses_18 ?_
      obtain ⟨s3, es3, hF⟩ := zl_e hF
      rw [← es3]
      refine j_aload_n C dX3_refuses_21 rfl 0 rfl ?_
      refine m_get0 C in_X3_refuses_wsX30 0 (by decide) (by decide +kernel) rfl dX3_refuses_22 ?_
      refine j_if_le (tgt := 32) C dX3_refuses_25 (by decide) (fun c4 => ?_) (fun c4 => ?_)
      · replace hF := zif_t hF c4
        refine j_iconst (v := (0 : Int32)) C dX3_refuses_32 (by decide) ?_
        exact j_zret C hr rfl hF (Nat.le_of_ble_eq_true rfl) (Nat.le_of_ble_eq_true rfl) dX3_refuses_33
      · replace hF := zif_f hF c4
        refine j_iconst (v := (1 : Int32)) C dX3_refuses_28 (by decide) ?_
        refine j_goto (tgt := 33) C dX3_refuses_29 (by decide) ?_
        exact j_zret C hr rfl hF (Nat.le_of_ble_eq_true rfl) (Nat.le_of_ble_eq_true rfl) dX3_refuses_33
    · replace hF := zif_f hF c2
      refine j_iconst (v := (2 : Int32)) C dX3_refuses_13 (by decide) ?_
      refine j_goto (tgt := 18) C dX3_refuses_14 (by decide) ?_
      refine m_put0 C in_X3_refuses_wsX30 0 (by decide) (by decide +kernel) dX3_refuses_18 ?_
      obtain ⟨s5, es5, hF⟩ := zl_e hF
      rw [← es5]
      refine j_aload_n C dX3_refuses_21 rfl 0 rfl ?_
      refine m_get0 C in_X3_refuses_wsX30 0 (by decide) (by decide +kernel) rfl dX3_refuses_22 ?_
      refine j_if_le (tgt := 32) C dX3_refuses_25 (by decide) (fun c6 => ?_) (fun c6 => ?_)
      · replace hF := zif_t hF c6
        refine j_iconst (v := (0 : Int32)) C dX3_refuses_32 (by decide) ?_
        exact j_zret C hr rfl hF (Nat.le_of_ble_eq_true rfl) (Nat.le_of_ble_eq_true rfl) dX3_refuses_33
      · replace hF := zif_f hF c6
        refine j_iconst (v := (1 : Int32)) C dX3_refuses_28 (by decide) ?_
        refine j_goto (tgt := 33) C dX3_refuses_29 (by decide) ?_
        exact j_zret C hr rfl hF (Nat.le_of_ble_eq_true rfl) (Nat.le_of_ble_eq_true rfl) dX3_refuses_33
  · replace hF := zif_f hF c1
    refine j_iconst (v := (1 : Int32)) C dX3_refuses_5 (by decide) ?_
    refine j_goto (tgt := 18) C dX3_refuses_6 (by decide) ?_
    refine m_put0 C in_X3_refuses_wsX30 0 (by decide) (by decide +kernel) dX3_refuses_18 ?_
    obtain ⟨s7, es7, hF⟩ := zl_e hF
    rw [← es7]
    refine j_aload_n C dX3_refuses_21 rfl 0 rfl ?_
    refine m_get0 C in_X3_refuses_wsX30 0 (by decide) (by decide +kernel) rfl dX3_refuses_22 ?_
    refine j_if_le (tgt := 32) C dX3_refuses_25 (by decide) (fun c8 => ?_) (fun c8 => ?_)
    · replace hF := zif_t hF c8
      refine j_iconst (v := (0 : Int32)) C dX3_refuses_32 (by decide) ?_
      exact j_zret C hr rfl hF (Nat.le_of_ble_eq_true rfl) (Nat.le_of_ble_eq_true rfl) dX3_refuses_33
    · replace hF := zif_f hF c8
      refine j_iconst (v := (1 : Int32)) C dX3_refuses_28 (by decide) ?_
      refine j_goto (tgt := 33) C dX3_refuses_29 (by decide) ?_
      exact j_zret C hr rfl hF (Nat.le_of_ble_eq_true rfl) (Nat.le_of_ble_eq_true rfl) dX3_refuses_33
end
/-! X3_isPart -/
def rmX3_isPart : Room := { frames := 11, cells := 0, slots := 0, locals := 160 }
theorem in_X3_isPart_wsX30 : ∀ w ∈ wsX30, w ∈ wsX3_isPart := by decide +kernel
section
variable {p : Program} {l : Launch} {e : Env} {s : State} {m : MethodId} {args : Array Value} {below : List Frame} {meth : Method} {c : Code} {D : va_G} {cI cZ : ClassId} {ad : Nat → Nat}
def fX3_isPart (n : Nat) (i1 : Int32) (i2 : Int32) (i3 : Int32) (st : zS) : zF Int32 := (zb (fX3_isArray n i1 st) (fun (v2 : Int32) (u1 : zS) => (if v2 = 0 then some (.inl (0 : Int32), u1) else (if i2 < 0 then some (.inl (0 : Int32), u1) else (if i3 < i2 then some (.inl (0 : Int32), u1) else (if inb i1 (ml 2) then (if (u1 2 (i1).toNatClampNeg) < i3 then some (.inl (0 : Int32), u1) else some (.inl (1 : Int32), u1)) else none))))))
set_option maxHeartbeats 4000000 in
set_option maxRecDepth 100000 in
theorem kX3_isPart (hl : l.stackTraces = false) (n : Nat) (i1 : Int32) (i2 : Int32) (i3 : Int32) (st : zS) (hn : fX3_isPart n i1 i2 i3 st ≠ none) : zM (fun v : Int32 => some (.int v)) l yX3_isPart wsX3_isPart rmX3_isPart D zcl (mty cI cZ) 7 ad (mce cI cZ ad) mT 0 0 [.ref (ad 0), .int i1, .int i2, .int i3] st (fX3_isPart n i1 i2 i3 st) := by
  refine z_ofJ (cc := cX3_isPart) (maxL := 4) (ret := (some .boolean)) (lv := [(0, .ref (ad 0)), (1, .int i1), (2, .int i2), (3, .int i3)]) (by decide) rfl (Nat.le_of_ble_eq_true rfl) rfl ?_
  intro p e s m args below meth c C hne hT hr
  obtain ⟨F, hFe⟩ : ∃ F, F = fX3_isPart n i1 i2 i3 st := ⟨_, rfl⟩
  rw [← hFe] at hn ⊢
  have hF : fX3_isPart n i1 i2 i3 st = F := hFe.symm
  clear hFe
  unfold fX3_isPart at hF
  have C : zC p s m args meth c cX3_isPart RX3 wsX3_isPart D zcl (mty cI cZ) 7 ad 4 := C
  refine j_aload_n C dX3_isPart_0 rfl 0 rfl ?_
  refine j_iload_n C dX3_isPart_1 rfl 1 rfl ?_
  refine j_callVi C hne mT_S hT (q0 := 0) (As := [.int i1]) (rest := []) (kX3_isArray hl n i1 st (zb_n hF hn)) (cwV 1 C.1.2.2.2.2 gX3_isPart_X3_isArray rfl rfl rfl (by decide +kernel) ⟨(Nat.le_of_ble_eq_true rfl), (Nat.le_of_ble_eq_true rfl)⟩) (by decide) mce_0 rfl rfl rfl (Nat.le_of_ble_eq_true rfl) dX3_isPart_2 ⟨(Nat.le_of_ble_eq_true rfl), (Nat.le_of_ble_eq_true rfl)⟩ (fun _ _ h9 => zb_x hF h9) (Nat.le_of_ble_eq_true rfl) (Nat.le_of_ble_eq_true rfl) (fun v2 u1 h3 => ?_)
  replace hF := zb_l hF h3
  refine j_if_eq (tgt := 31) C dX3_isPart_5 (by decide) (fun c4 => ?_) (fun c4 => ?_)
  · replace hF := zif_t hF c4
    refine j_iconst (v := (0 : Int32)) C dX3_isPart_31 (by decide) ?_
    exact j_zret C hr rfl hF (Nat.le_of_ble_eq_true rfl) (Nat.le_of_ble_eq_true rfl) dX3_isPart_32
  · replace hF := zif_f hF c4
    refine j_iload_n C dX3_isPart_8 rfl 2 rfl ?_
    refine j_if_lt (tgt := 31) C dX3_isPart_9 (by decide) (fun c5 => ?_) (fun c5 => ?_)
    · replace hF := zif_t hF c5
      refine j_iconst (v := (0 : Int32)) C dX3_isPart_31 (by decide) ?_
      exact j_zret C hr rfl hF (Nat.le_of_ble_eq_true rfl) (Nat.le_of_ble_eq_true rfl) dX3_isPart_32
    · replace hF := zif_f hF c5
      refine j_iload_n C dX3_isPart_12 rfl 2 rfl ?_
      refine j_iload_n C dX3_isPart_13 rfl 3 rfl ?_
      refine j_icmp_gt (tgt := 31) C dX3_isPart_14 (by decide) (fun c6 => ?_) (fun c6 => ?_)
      · replace hF := zif_t hF c6
        refine j_iconst (v := (0 : Int32)) C dX3_isPart_31 (by decide) ?_
        exact j_zret C hr rfl hF (Nat.le_of_ble_eq_true rfl) (Nat.le_of_ble_eq_true rfl) dX3_isPart_32
      · replace hF := zif_f hF c6
        refine j_iload_n C dX3_isPart_17 rfl 3 rfl ?_
        refine j_aload_n C dX3_isPart_18 rfl 0 rfl ?_
        refine m_get0 C in_X3_isPart_wsX30 2 (by decide) (by decide +kernel) rfl dX3_isPart_19 ?_
        refine j_iload_n C dX3_isPart_22 rfl 1 rfl ?_
        have b7 := zif_c hF hn
        replace hF := zif_t hF b7
        refine m_iald C (by decide) b7 dX3_isPart_23 ?_
        refine j_icmp_gt (tgt := 31) C dX3_isPart_24 (by decide) (fun c8 => ?_) (fun c8 => ?_)
        · replace hF := zif_t hF c8
          refine j_iconst (v := (0 : Int32)) C dX3_isPart_31 (by decide) ?_
          exact j_zret C hr rfl hF (Nat.le_of_ble_eq_true rfl) (Nat.le_of_ble_eq_true rfl) dX3_isPart_32
        · replace hF := zif_f hF c8
          refine j_iconst (v := (1 : Int32)) C dX3_isPart_27 (by decide) ?_
          refine j_goto (tgt := 32) C dX3_isPart_28 (by decide) ?_
          exact j_zret C hr rfl hF (Nat.le_of_ble_eq_true rfl) (Nat.le_of_ble_eq_true rfl) dX3_isPart_32
end
/-! X3_isLeaf -/
def rmX3_isLeaf : Room := { frames := 11, cells := 0, slots := 0, locals := 160 }
theorem in_X3_isLeaf_wsX30 : ∀ w ∈ wsX30, w ∈ wsX3_isLeaf := by decide +kernel
section
variable {p : Program} {l : Launch} {e : Env} {s : State} {m : MethodId} {args : Array Value} {below : List Frame} {meth : Method} {c : Code} {D : va_G} {cI cZ : ClassId} {ad : Nat → Nat}
def fX3_isLeaf (n : Nat) (i1 : Int32) (i2 : Int32) (st : zS) : zF Int32 := (zb (fX3_isArray n i1 st) (fun (v2 : Int32) (u1 : zS) => (if v2 = 0 then some (.inl (0 : Int32), u1) else (if i2 < 0 then some (.inl (0 : Int32), u1) else (if inb i1 (ml 2) then (zb (fX3_leaves n (u1 2 (i1).toNatClampNeg) u1) (fun (v8 : Int32) (u7 : zS) => (if v8 ≤ i2 then some (.inl (0 : Int32), u7) else some (.inl (1 : Int32), u7)))) else none)))))
set_option maxHeartbeats 4000000 in
set_option maxRecDepth 100000 in
theorem kX3_isLeaf (hl : l.stackTraces = false) (n : Nat) (i1 : Int32) (i2 : Int32) (st : zS) (hn : fX3_isLeaf n i1 i2 st ≠ none) : zM (fun v : Int32 => some (.int v)) l yX3_isLeaf wsX3_isLeaf rmX3_isLeaf D zcl (mty cI cZ) 7 ad (mce cI cZ ad) mT 0 0 [.ref (ad 0), .int i1, .int i2] st (fX3_isLeaf n i1 i2 st) := by
  refine z_ofJ (cc := cX3_isLeaf) (maxL := 3) (ret := (some .boolean)) (lv := [(0, .ref (ad 0)), (1, .int i1), (2, .int i2)]) (by decide) rfl (Nat.le_of_ble_eq_true rfl) rfl ?_
  intro p e s m args below meth c C hne hT hr
  obtain ⟨F, hFe⟩ : ∃ F, F = fX3_isLeaf n i1 i2 st := ⟨_, rfl⟩
  rw [← hFe] at hn ⊢
  have hF : fX3_isLeaf n i1 i2 st = F := hFe.symm
  clear hFe
  unfold fX3_isLeaf at hF
  have C : zC p s m args meth c cX3_isLeaf RX3 wsX3_isLeaf D zcl (mty cI cZ) 7 ad 3 := C
  refine j_aload_n C dX3_isLeaf_0 rfl 0 rfl ?_
  refine j_iload_n C dX3_isLeaf_1 rfl 1 rfl ?_
  refine j_callVi C hne mT_S hT (q0 := 0) (As := [.int i1]) (rest := []) (kX3_isArray hl n i1 st (zb_n hF hn)) (cwV 1 C.1.2.2.2.2 gX3_isLeaf_X3_isArray rfl rfl rfl (by decide +kernel) ⟨(Nat.le_of_ble_eq_true rfl), (Nat.le_of_ble_eq_true rfl)⟩) (by decide) mce_0 rfl rfl rfl (Nat.le_of_ble_eq_true rfl) dX3_isLeaf_2 ⟨(Nat.le_of_ble_eq_true rfl), (Nat.le_of_ble_eq_true rfl)⟩ (fun _ _ h9 => zb_x hF h9) (Nat.le_of_ble_eq_true rfl) (Nat.le_of_ble_eq_true rfl) (fun v2 u1 h3 => ?_)
  replace hF := zb_l hF h3
  refine j_if_eq (tgt := 29) C dX3_isLeaf_5 (by decide) (fun c4 => ?_) (fun c4 => ?_)
  · replace hF := zif_t hF c4
    refine j_iconst (v := (0 : Int32)) C dX3_isLeaf_29 (by decide) ?_
    exact j_zret C hr rfl hF (Nat.le_of_ble_eq_true rfl) (Nat.le_of_ble_eq_true rfl) dX3_isLeaf_30
  · replace hF := zif_f hF c4
    refine j_iload_n C dX3_isLeaf_8 rfl 2 rfl ?_
    refine j_if_lt (tgt := 29) C dX3_isLeaf_9 (by decide) (fun c5 => ?_) (fun c5 => ?_)
    · replace hF := zif_t hF c5
      refine j_iconst (v := (0 : Int32)) C dX3_isLeaf_29 (by decide) ?_
      exact j_zret C hr rfl hF (Nat.le_of_ble_eq_true rfl) (Nat.le_of_ble_eq_true rfl) dX3_isLeaf_30
    · replace hF := zif_f hF c5
      refine j_iload_n C dX3_isLeaf_12 rfl 2 rfl ?_
      refine j_aload_n C dX3_isLeaf_13 rfl 0 rfl ?_
      refine m_get0 C in_X3_isLeaf_wsX30 2 (by decide) (by decide +kernel) rfl dX3_isLeaf_14 ?_
      refine j_iload_n C dX3_isLeaf_17 rfl 1 rfl ?_
      have b6 := zif_c hF hn
      replace hF := zif_t hF b6
      refine m_iald C (by decide) b6 dX3_isLeaf_18 ?_
      refine j_callSi C hne mT_S hT (As := [.int (u1 2 (i1).toNatClampNeg)]) (rest := [.int i2]) (kX3_leaves hl n (u1 2 (i1).toNatClampNeg) u1 (zb_n hF hn)) (va_cwS 1 C.1.2.2.2.2 gX3_isLeaf_X3_leaves rfl rfl rfl (by decide +kernel) ⟨(Nat.le_of_ble_eq_true rfl), (Nat.le_of_ble_eq_true rfl)⟩) rfl rfl (Nat.le_of_ble_eq_true rfl) dX3_isLeaf_19 ⟨(Nat.le_of_ble_eq_true rfl), (Nat.le_of_ble_eq_true rfl)⟩ (fun _ _ h9 => zb_x hF h9) (Nat.le_of_ble_eq_true rfl) (Nat.le_of_ble_eq_true rfl) (fun v8 u7 h9 => ?_)
      replace hF := zb_l hF h9
      refine j_icmp_ge (tgt := 29) C dX3_isLeaf_22 (by decide) (fun c10 => ?_) (fun c10 => ?_)
      · replace hF := zif_t hF c10
        refine j_iconst (v := (0 : Int32)) C dX3_isLeaf_29 (by decide) ?_
        exact j_zret C hr rfl hF (Nat.le_of_ble_eq_true rfl) (Nat.le_of_ble_eq_true rfl) dX3_isLeaf_30
      · replace hF := zif_f hF c10
        refine j_iconst (v := (1 : Int32)) C dX3_isLeaf_25 (by decide) ?_
        refine j_goto (tgt := 30) C dX3_isLeaf_26 (by decide) ?_
        exact j_zret C hr rfl hF (Nat.le_of_ble_eq_true rfl) (Nat.le_of_ble_eq_true rfl) dX3_isLeaf_30
end
/-! X3_takeRow -/
def rmX3_takeRow : Room := { frames := 10, cells := 0, slots := 0, locals := 120 }
theorem in_X3_takeRow_wsX30 : ∀ w ∈ wsX30, w ∈ wsX3_takeRow := by decide +kernel
section
variable {p : Program} {l : Launch} {e : Env} {s : State} {m : MethodId} {args : Array Value} {below : List Frame} {meth : Method} {c : Code} {D : va_G} {cI cZ : ClassId} {ad : Nat → Nat}
def fX3_takeRow_2 (n : Nat) (X_36 : zS → zF Unit) : Nat → Int32 → Int32 → zS → zF Unit
  | 0, _, _, _ => none
  | k + 1, i1, i2, st => (if inb i1 (ml 2) then (if (st 2 (i1).toNatClampNeg) ≤ i2 then X_36 st else (if inb (((4096 : Int32) * i1) + i2) (ml 3) then (if inb i2 (ml 6) then (zl (upA st 6 (upd (st 6) (i2).toNatClampNeg (st 3 ((((4096 : Int32) * i1) + i2)).toNatClampNeg))) (fun (s5 : zS) => fX3_takeRow_2 n X_36 k i1 (i2 + (1 : Int32)) s5)) else none) else none)) else none)
set_option maxHeartbeats 4000000 in
set_option maxRecDepth 100000 in
theorem wX3_takeRow_2 (C : zC p s m args meth c cX3_takeRow RX3 wsX3_takeRow D zcl (mty cI cZ) 7 ad 3) (hne : ∀ x ∈ c.exceptionTable.toList, False) (hl : l.stackTraces = false) (hT : mT s.heap.size s) (hr : meth.sig.returnType = none) {F : zF Unit} (hn : F ≠ none) (n : Nat) {X_36 : zS → zF Unit} (hX_36 : ∀  (st : zS), X_36 st = F → mJ (fun _ : Unit => none) F 0 0 p l e rmX3_takeRow s m args below meth c D cI cZ ad 3 st 0 0 36 [] []) : ∀ (k : Nat) (i1 : Int32) (i2 : Int32) (st : zS), fX3_takeRow_2 n X_36 k i1 i2 st = F → mJ (fun _ : Unit => none) F 0 0 p l e rmX3_takeRow s m args below meth c D cI cZ ad 3 st 0 0 2 [(0, .ref (ad 0)), (1, .int i1), (2, .int i2)] [] := by
  intro k
  induction k with
  | zero =>
    intro i1 i2 st hF
    exact absurd hF.symm hn
  | succ k ih =>
    intro i1 i2 st hF
    rw [fX3_takeRow_2] at hF
    refine j_iload_n C dX3_takeRow_2 rfl 2 rfl ?_
    refine j_aload_n C dX3_takeRow_3 rfl 0 rfl ?_
    refine m_get0 C in_X3_takeRow_wsX30 2 (by decide) (by decide +kernel) rfl dX3_takeRow_4 ?_
    refine j_iload_n C dX3_takeRow_7 rfl 1 rfl ?_
    have b1 := zif_c hF hn
    replace hF := zif_t hF b1
    refine m_iald C (by decide) b1 dX3_takeRow_8 ?_
    refine j_icmp_ge (tgt := 36) C dX3_takeRow_9 (by decide) (fun c2 => ?_) (fun c2 => ?_)
    · replace hF := zif_t hF c2
      refine j_sub [] rfl ?_
      exact hX_36 st hF
    · replace hF := zif_f hF c2
      refine j_aload_n C dX3_takeRow_12 rfl 0 rfl ?_
      refine m_get0 C in_X3_takeRow_wsX30 7 (by decide) (by decide +kernel) rfl dX3_takeRow_13 ?_
      refine j_iload_n C dX3_takeRow_16 rfl 2 rfl ?_
      refine j_aload_n C dX3_takeRow_17 rfl 0 rfl ?_
      refine m_get0 C in_X3_takeRow_wsX30 3 (by decide) (by decide +kernel) rfl dX3_takeRow_18 ?_
      refine j_sipush (v := (4096 : Int32)) C dX3_takeRow_21 (by decide) ?_
      refine j_iload_n C dX3_takeRow_24 rfl 1 rfl ?_
      refine j_imul C dX3_takeRow_25 ?_
      refine j_iload_n C dX3_takeRow_26 rfl 2 rfl ?_
      refine j_iadd C dX3_takeRow_27 ?_
      have b3 := zif_c hF hn
      replace hF := zif_t hF b3
      refine m_iald C (by decide) b3 dX3_takeRow_28 ?_
      have b4 := zif_c hF hn
      replace hF := zif_t hF b4
      refine m_iast C (by decide) b4 dX3_takeRow_29 ?_
      obtain ⟨s5, es5, hF⟩ := zl_e hF
      rw [← es5]
      refine j_iinc (lv' := [(2, .int (i2 + (1 : Int32))), (0, .ref (ad 0)), (1, .int i1)]) C dX3_takeRow_30 2 rfl rfl (by decide) rfl ?_
      refine j_goto (tgt := 2) C dX3_takeRow_33 (by decide) ?_
      refine j_sub [1, 2, 0] rfl ?_
      exact ih i1 (i2 + (1 : Int32)) s5 hF
def fX3_takeRow (n : Nat) (i1 : Int32) (st : zS) : zF Unit := fX3_takeRow_2 n (fun  (st : zS) => some (.inl (), st)) n i1 (0 : Int32) st
set_option maxHeartbeats 4000000 in
set_option maxRecDepth 100000 in
theorem kX3_takeRow (hl : l.stackTraces = false) (n : Nat) (i1 : Int32) (st : zS) (hn : fX3_takeRow n i1 st ≠ none) : zM (fun _ : Unit => none) l yX3_takeRow wsX3_takeRow rmX3_takeRow D zcl (mty cI cZ) 7 ad (mce cI cZ ad) mT 0 0 [.ref (ad 0), .int i1] st (fX3_takeRow n i1 st) := by
  refine z_ofJ (cc := cX3_takeRow) (maxL := 3) (ret := none) (lv := [(0, .ref (ad 0)), (1, .int i1)]) (by decide) rfl (Nat.le_of_ble_eq_true rfl) rfl ?_
  intro p e s m args below meth c C hne hT hr
  obtain ⟨F, hFe⟩ : ∃ F, F = fX3_takeRow n i1 st := ⟨_, rfl⟩
  rw [← hFe] at hn ⊢
  have hF : fX3_takeRow n i1 st = F := hFe.symm
  clear hFe
  unfold fX3_takeRow at hF
  have C : zC p s m args meth c cX3_takeRow RX3 wsX3_takeRow D zcl (mty cI cZ) 7 ad 3 := C
  refine j_iconst (v := (0 : Int32)) C dX3_takeRow_0 (by decide) ?_
  refine j_istore_n (lv' := [(2, .int (0 : Int32)), (0, .ref (ad 0)), (1, .int i1)]) C dX3_takeRow_1 rfl (by decide) rfl ?_
  refine j_sub [1, 2, 0] rfl ?_
  refine wX3_takeRow_2 C hne hl hT hr hn n ?_ n i1 (0 : Int32) st hF
  · intro  st hF
    exact j_vret C hr hF (Nat.le_of_ble_eq_true rfl) (Nat.le_of_ble_eq_true rfl) dX3_takeRow_36
end
