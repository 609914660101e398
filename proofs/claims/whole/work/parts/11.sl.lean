/-! X2_isThere -/
def rmX2_isThere : Room := { frames := 10, cells := 0, slots := 0, locals := 120 }
theorem in_X2_isThere_wsX10 : ∀ w ∈ wsX10, w ∈ wsX2_isThere := by decide +kernel
theorem in_X2_isThere_wsX20 : ∀ w ∈ wsX20, w ∈ wsX2_isThere := by decide +kernel
section
variable {p : Program} {l : Launch} {e : Env} {s : State} {m : MethodId} {args : Array Value} {below : List Frame} {meth : Method} {c : Code} {D : va_G} {cI cR : ClassId} {ad : Nat → Nat}
def fX2_isThere (n : Nat) (i1 : Int32) (st : zS) : zF Int32 := (if i1 < 0 then some (.inl (0 : Int32), st) else (if (16 : Int32) ≤ i1 then some (.inl (0 : Int32), st) else (if inb i1 16 then (if (st (9 + (i1).toNatClampNeg) 2) = 0 then some (.inl (0 : Int32), st) else some (.inl (1 : Int32), st)) else none)))
set_option maxHeartbeats 4000000 in
set_option maxRecDepth 100000 in
theorem kX2_isThere (hl : l.stackTraces = false) (n : Nat) (i1 : Int32) (st : zS) (hn : fX2_isThere n i1 st ≠ none) : zM (fun v : Int32 => some (.int v)) l yX2_isThere wsX2_isThere rmX2_isThere D zcl (zty cI cR) 57 ad (sce cI cR ad) (sT ad) 0 0 [.ref (ad 0), .int i1] st (fX2_isThere n i1 st) := by
  refine z_ofJ (cc := cX2_isThere) (maxL := 2) (ret := (some .boolean)) (lv := [(0, .ref (ad 0)), (1, .int i1)]) (by decide) rfl (Nat.le_of_ble_eq_true rfl) rfl ?_
  intro p e s m args below meth c C hne hT hr
  obtain ⟨F, hFe⟩ : ∃ F, F = fX2_isThere n i1 st := ⟨_, rfl⟩
  rw [← hFe] at hn ⊢
  have hF : fX2_isThere n i1 st = F := hFe.symm
  clear hFe
  unfold fX2_isThere at hF
  have C : zC p s m args meth c cX2_isThere RX2 wsX2_isThere D zcl (zty cI cR) 57 ad 2 := C
  refine j_iload_n C dX2_isThere_0 rfl 1 rfl ?_
  refine j_if_lt (tgt := 26) C dX2_isThere_1 (by decide) (fun c1 => ?_) (fun c1 => ?_)
  · replace hF := zif_t hF c1
    refine j_iconst (v := (0 : Int32)) C dX2_isThere_26 (by decide) ?_
    exact j_zret C hr rfl hF (Nat.le_of_ble_eq_true rfl) (Nat.le_of_ble_eq_true rfl) dX2_isThere_27
  · replace hF := zif_f hF c1
    refine j_iload_n C dX2_isThere_4 rfl 1 rfl ?_
    refine j_bipush (v := (16 : Int32)) C dX2_isThere_5 (by decide) ?_
    refine j_icmp_ge (tgt := 26) C dX2_isThere_7 (by decide) (fun c2 => ?_) (fun c2 => ?_)
    · replace hF := zif_t hF c2
      refine j_iconst (v := (0 : Int32)) C dX2_isThere_26 (by decide) ?_
      exact j_zret C hr rfl hF (Nat.le_of_ble_eq_true rfl) (Nat.le_of_ble_eq_true rfl) dX2_isThere_27
    · replace hF := zif_f hF c2
      refine j_aload_n C dX2_isThere_10 rfl 0 rfl ?_
      refine s_get0 C in_X2_isThere_wsX20 0 (by decide) (by decide +kernel) 1 rfl dX2_isThere_11 ?_
      refine j_iload_n C dX2_isThere_14 rfl 1 rfl ?_
      have b3 := zif_c hF hn
      replace hF := zif_t hF b3
      refine s_aald C b3 dX2_isThere_15 ?_
      refine s_getR C in_X2_isThere_wsX10 (inb.row b3) 2 (by decide) (by decide +kernel) rfl dX2_isThere_16 ?_
      refine j_if_eq (tgt := 26) C dX2_isThere_19 (by decide) (fun c4 => ?_) (fun c4 => ?_)
      · replace hF := zif_t hF c4
        refine j_iconst (v := (0 : Int32)) C dX2_isThere_26 (by decide) ?_
        exact j_zret C hr rfl hF (Nat.le_of_ble_eq_true rfl) (Nat.le_of_ble_eq_true rfl) dX2_isThere_27
      · replace hF := zif_f hF c4
        refine j_iconst (v := (1 : Int32)) C dX2_isThere_22 (by decide) ?_
        refine j_goto (tgt := 27) C dX2_isThere_23 (by decide) ?_
        exact j_zret C hr rfl hF (Nat.le_of_ble_eq_true rfl) (Nat.le_of_ble_eq_true rfl) dX2_isThere_27
end
/-! X2_isLeafThere -/
def rmX2_isLeafThere : Room := { frames := 12, cells := 0, slots := 0, locals := 200 }
theorem in_X2_isLeafThere_wsX20 : ∀ w ∈ wsX20, w ∈ wsX2_isLeafThere := by decide +kernel
section
variable {p : Program} {l : Launch} {e : Env} {s : State} {m : MethodId} {args : Array Value} {below : List Frame} {meth : Method} {c : Code} {D : va_G} {cI cR : ClassId} {ad : Nat → Nat}
def fX2_isLeafThere (n : Nat) (i1 : Int32) (i2 : Int32) (st : zS) : zF Int32 := (zb (fX2_isThere n i1 st) (fun (v2 : Int32) (u1 : zS) => (if v2 = 0 then some (.inl (0 : Int32), u1) else (if i2 < 0 then some (.inl (0 : Int32), u1) else (if inb i1 16 then (zb (fX1_leafCount n (9 + (i1).toNatClampNeg) u1) (fun (v8 : Int32) (u7 : zS) => (if v8 ≤ i2 then some (.inl (0 : Int32), u7) else some (.inl (1 : Int32), u7)))) else none)))))
set_option maxHeartbeats 4000000 in
set_option maxRecDepth 100000 in
theorem kX2_isLeafThere (hl : l.stackTraces = false) (n : Nat) (i1 : Int32) (i2 : Int32) (st : zS) (hn : fX2_isLeafThere n i1 i2 st ≠ none) : zM (fun v : Int32 => some (.int v)) l yX2_isLeafThere wsX2_isLeafThere rmX2_isLeafThere D zcl (zty cI cR) 57 ad (sce cI cR ad) (sT ad) 0 0 [.ref (ad 0), .int i1, .int i2] st (fX2_isLeafThere n i1 i2 st) := by
  refine z_ofJ (cc := cX2_isLeafThere) (maxL := 3) (ret := (some .boolean)) (lv := [(0, .ref (ad 0)), (1, .int i1), (2, .int i2)]) (by decide) rfl (Nat.le_of_ble_eq_true rfl) rfl ?_
  intro p e s m args below meth c C hne hT hr
  obtain ⟨F, hFe⟩ : ∃ F, F = fX2_isLeafThere n i1 i2 st := ⟨_, rfl⟩
  rw [← hFe] at hn ⊢
  have hF : fX2_isLeafThere n i1 i2 st = F := hFe.symm
  clear hFe
  unfold fX2_isLeafThere at hF
  have C : zC p s m args meth c cX2_isLeafThere RX2 wsX2_isLeafThere D zcl (zty cI cR) 57 ad 3 := C
  refine j_aload_n C dX2_isLeafThere_0 rfl 0 rfl ?_
  refine j_iload_n C dX2_isLeafThere_1 rfl 1 rfl ?_
  refine j_callVi C hne sT_S hT (q0 := 0) (As := [.int i1]) (rest := []) (kX2_isThere hl n i1 st (zb_n hF hn)) (cwV 1 C.1.2.2.2.2 gX2_isLeafThere_X2_isThere rfl rfl rfl (by decide +kernel) ⟨(Nat.le_of_ble_eq_true rfl), (Nat.le_of_ble_eq_true rfl)⟩) (by decide) sce_0 rfl rfl rfl (Nat.le_of_ble_eq_true rfl) dX2_isLeafThere_2 ⟨(Nat.le_of_ble_eq_true rfl), (Nat.le_of_ble_eq_true rfl)⟩ (fun _ _ h9 => zb_x hF h9) (Nat.le_of_ble_eq_true rfl) (Nat.le_of_ble_eq_true rfl) (fun v2 u1 h3 => ?_)
  replace hF := zb_l hF h3
  refine j_if_eq (tgt := 29) C dX2_isLeafThere_5 (by decide) (fun c4 => ?_) (fun c4 => ?_)
  · replace hF := zif_t hF c4
    refine j_iconst (v := (0 : Int32)) C dX2_isLeafThere_29 (by decide) ?_
    exact j_zret C hr rfl hF (Nat.le_of_ble_eq_true rfl) (Nat.le_of_ble_eq_true rfl) dX2_isLeafThere_30
  · replace hF := zif_f hF c4
    refine j_iload_n C dX2_isLeafThere_8 rfl 2 rfl ?_
    refine j_if_lt (tgt := 29) C dX2_isLeafThere_9 (by decide) (fun c5 => ?_) (fun c5 => ?_)
    · replace hF := zif_t hF c5
      refine j_iconst (v := (0 : Int32)) C dX2_isLeafThere_29 (by decide) ?_
      exact j_zret C hr rfl hF (Nat.le_of_ble_eq_true rfl) (Nat.le_of_ble_eq_true rfl) dX2_isLeafThere_30
    · replace hF := zif_f hF c5
      refine j_iload_n C dX2_isLeafThere_12 rfl 2 rfl ?_
      refine j_aload_n C dX2_isLeafThere_13 rfl 0 rfl ?_
      refine s_get0 C in_X2_isLeafThere_wsX20 0 (by decide) (by decide +kernel) 1 rfl dX2_isLeafThere_14 ?_
      refine j_iload_n C dX2_isLeafThere_17 rfl 1 rfl ?_
      have b6 := zif_c hF hn
      replace hF := zif_t hF b6
      refine s_aald C b6 dX2_isLeafThere_18 ?_
      refine j_callVi C hne sT_S hT (q0 := (9 + (i1).toNatClampNeg)) (As := []) (rest := [.int i2]) (kX1_leafCount hl n (9 + (i1).toNatClampNeg) (inb.row b6) u1 (zb_n hF hn)) (cwV 0 C.1.2.2.2.2 gX2_isLeafThere_X1_leafCount rfl rfl rfl (by decide +kernel) ⟨(Nat.le_of_ble_eq_true rfl), (Nat.le_of_ble_eq_true rfl)⟩) (isRow.lt (inb.row b6)) (sce_row (inb.row b6)) rfl rfl rfl (Nat.le_of_ble_eq_true rfl) dX2_isLeafThere_19 ⟨(Nat.le_of_ble_eq_true rfl), (Nat.le_of_ble_eq_true rfl)⟩ (fun _ _ h9 => zb_x hF h9) (Nat.le_of_ble_eq_true rfl) (Nat.le_of_ble_eq_true rfl) (fun v8 u7 h9 => ?_)
      replace hF := zb_l hF h9
      refine j_icmp_ge (tgt := 29) C dX2_isLeafThere_22 (by decide) (fun c10 => ?_) (fun c10 => ?_)
      · replace hF := zif_t hF c10
        refine j_iconst (v := (0 : Int32)) C dX2_isLeafThere_29 (by decide) ?_
        exact j_zret C hr rfl hF (Nat.le_of_ble_eq_true rfl) (Nat.le_of_ble_eq_true rfl) dX2_isLeafThere_30
      · replace hF := zif_f hF c10
        refine j_iconst (v := (1 : Int32)) C dX2_isLeafThere_25 (by decide) ?_
        refine j_goto (tgt := 30) C dX2_isLeafThere_26 (by decide) ?_
        exact j_zret C hr rfl hF (Nat.le_of_ble_eq_true rfl) (Nat.le_of_ble_eq_true rfl) dX2_isLeafThere_30
end
/-! X2_arrayThere -/
def rmX2_arrayThere : Room := { frames := 11, cells := 1, slots := 6, locals := 160 }
theorem hatA_X2_arrayThere : ∀ w ∈ (vx_atS RX2 37 "java/lang/IllegalArgumentException" ["java/lang/RuntimeException", "java/lang/Exception"]).filter goodWord, w ∈ wsX2_arrayThere := by decide +kernel
theorem in_X2_arrayThere_wsX20 : ∀ w ∈ wsX20, w ∈ wsX2_arrayThere := by decide +kernel
section
variable {p : Program} {l : Launch} {e : Env} {s : State} {m : MethodId} {args : Array Value} {below : List Frame} {meth : Method} {c : Code} {D : va_G} {cI cR : ClassId} {ad : Nat → Nat}
def fX2_arrayThere (n : Nat) (i1 : Int32) (st : zS) : zF Nat := (zb (fX2_isThere n i1 st) (fun (v2 : Int32) (u1 : zS) => (if v2 = 0 then some (.inr true, u1) else (if inb i1 16 then some (.inl (9 + (i1).toNatClampNeg), u1) else none))))
set_option maxHeartbeats 4000000 in
set_option maxRecDepth 100000 in
theorem kX2_arrayThere (hl : l.stackTraces = false) (n : Nat) (i1 : Int32) (st : zS) (hn : fX2_arrayThere n i1 st ≠ none) : zM (fun k : Nat => some (.ref (ad k))) l yX2_arrayThere wsX2_arrayThere rmX2_arrayThere D zcl (zty cI cR) 57 ad (sce cI cR ad) (sT ad) 1 6 [.ref (ad 0), .int i1] st (fX2_arrayThere n i1 st) := by
  refine z_ofJ (cc := cX2_arrayThere) (maxL := 2) (ret := (some (.object "SharedLeaves$Row"))) (lv := [(0, .ref (ad 0)), (1, .int i1)]) (by decide) rfl (Nat.le_of_ble_eq_true rfl) rfl ?_
  intro p e s m args below meth c C hne hT hr
  obtain ⟨F, hFe⟩ : ∃ F, F = fX2_arrayThere n i1 st := ⟨_, rfl⟩
  rw [← hFe] at hn ⊢
  have hF : fX2_arrayThere n i1 st = F := hFe.symm
  clear hFe
  unfold fX2_arrayThere at hF
  have C : zC p s m args meth c cX2_arrayThere RX2 wsX2_arrayThere D zcl (zty cI cR) 57 ad 2 := C
  refine j_aload_n C dX2_arrayThere_0 rfl 0 rfl ?_
  refine j_iload_n C dX2_arrayThere_1 rfl 1 rfl ?_
  refine j_callVi C hne sT_S hT (q0 := 0) (As := [.int i1]) (rest := []) (kX2_isThere hl n i1 st (zb_n hF hn)) (cwV 1 C.1.2.2.2.2 gX2_arrayThere_X2_isThere rfl rfl rfl (by decide +kernel) ⟨(Nat.le_of_ble_eq_true rfl), (Nat.le_of_ble_eq_true rfl)⟩) (by decide) sce_0 rfl rfl rfl (Nat.le_of_ble_eq_true rfl) dX2_arrayThere_2 ⟨(Nat.le_of_ble_eq_true rfl), (Nat.le_of_ble_eq_true rfl)⟩ (fun _ _ h9 => zb_x hF h9) (Nat.le_of_ble_eq_true rfl) (Nat.le_of_ble_eq_true rfl) (fun v2 u1 h3 => ?_)
  replace hF := zb_l hF h3
  refine j_if_ne (tgt := 18) C dX2_arrayThere_5 (by decide) (fun c4 => ?_) (fun c4 => ?_)
  · replace hF := zif_f hF c4
    refine j_aload_n C dX2_arrayThere_18 rfl 0 rfl ?_
    refine s_get0 C in_X2_arrayThere_wsX20 0 (by decide) (by decide +kernel) 1 rfl dX2_arrayThere_19 ?_
    refine j_iload_n C dX2_arrayThere_22 rfl 1 rfl ?_
    have b5 := zif_c hF hn
    replace hF := zif_t hF b5
    refine s_aald C b5 dX2_arrayThere_23 ?_
    exact j_aret C hr hF (Nat.le_of_ble_eq_true rfl) (Nat.le_of_ble_eq_true rfl) dX2_arrayThere_24
  · replace hF := zif_t hF c4
    exact s_throwA (text := "no such array") C hne hl hT (by decide +kernel) (by decide +kernel) hatA_X2_arrayThere (by decide) dX2_arrayThere_8 dX2_arrayThere_11 dX2_arrayThere_12 dX2_arrayThere_14 dX2_arrayThere_17 (Nat.le_of_ble_eq_true rfl) (Nat.le_of_ble_eq_true rfl) (Nat.le_of_ble_eq_true rfl) (Nat.le_of_ble_eq_true rfl) hF (Nat.le_of_ble_eq_true rfl) (Nat.le_of_ble_eq_true rfl)
end
theorem fX2_arrayThere_row {n : Nat} {i : Int32} {st u : zS} {k : Nat} (h : fX2_arrayThere n i st = some (.inl k, u)) : isRow k := by
  unfold fX2_arrayThere at h
  cases hc : fX2_isThere n i st with
  | none => rw [hc] at h; cases h
  | some q =>
    obtain ⟨r, w⟩ := q
    rw [hc] at h
    cases r with
    | inr b => simp [zb] at h
    | inl v =>
      simp only [zb] at h
      split at h
      · simp at h
      · split at h
        · rename_i hb
          simp at h
          obtain ⟨rfl, rfl⟩ := h
          exact inb.row hb
        · cases h
/-! X2_numberForNewArray -/
def rmX2_numberForNewArray : Room := { frames := 10, cells := 1, slots := 6, locals := 120 }
theorem hatS_X2_numberForNewArray : ∀ w ∈ (vx_atS RX2 157 "java/lang/IllegalStateException" ["java/lang/RuntimeException", "java/lang/Exception"]).filter goodWord, w ∈ wsX2_numberForNewArray := by decide +kernel
theorem in_X2_numberForNewArray_wsX10 : ∀ w ∈ wsX10, w ∈ wsX2_numberForNewArray := by decide +kernel
theorem in_X2_numberForNewArray_wsX20 : ∀ w ∈ wsX20, w ∈ wsX2_numberForNewArray := by decide +kernel
section
variable {p : Program} {l : Launch} {e : Env} {s : State} {m : MethodId} {args : Array Value} {below : List Frame} {meth : Method} {c : Code} {D : va_G} {cI cR : ClassId} {ad : Nat → Nat}
def fX2_numberForNewArray_2 (n : Nat) (X_28 : zS → zF Int32) (X_20 : Int32 → zS → zF Int32) : Nat → Int32 → zS → zF Int32
  | 0, _, _ => none
  | k + 1, i1, st => (if (16 : Int32) ≤ i1 then X_28 st else (if inb i1 16 then (if (st (9 + (i1).toNatClampNeg) 2) = 0 then X_20 i1 st else fX2_numberForNewArray_2 n X_28 X_20 k (i1 + (1 : Int32)) st) else none))
set_option maxHeartbeats 4000000 in
set_option maxRecDepth 100000 in
theorem wX2_numberForNewArray_2 (C : zC p s m args meth c cX2_numberForNewArray RX2 wsX2_numberForNewArray D zcl (zty cI cR) 57 ad 2) (hne : ∀ x ∈ c.exceptionTable.toList, False) (hl : l.stackTraces = false) (hT : (sT ad) s.heap.size s) (hr : meth.sig.returnType = (some .int)) {F : zF Int32} (hn : F ≠ none) (n : Nat) {X_28 : zS → zF Int32} {X_20 : Int32 → zS → zF Int32} (hX_28 : ∀  (st : zS), X_28 st = F → sJ (fun v : Int32 => some (.int v)) F 1 6 p l e rmX2_numberForNewArray s m args below meth c D cI cR ad 2 st 0 0 28 [] []) (hX_20 : ∀ (i1 : Int32) (st : zS), X_20 i1 st = F → sJ (fun v : Int32 => some (.int v)) F 1 6 p l e rmX2_numberForNewArray s m args below meth c D cI cR ad 2 st 0 0 20 [(1, .int i1)] []) : ∀ (k : Nat) (i1 : Int32) (st : zS), fX2_numberForNewArray_2 n X_28 X_20 k i1 st = F → sJ (fun v : Int32 => some (.int v)) F 1 6 p l e rmX2_numberForNewArray s m args below meth c D cI cR ad 2 st 0 0 2 [(0, .ref (ad 0)), (1, .int i1)] [] := by
  intro k
  induction k with
  | zero =>
    intro i1 st hF
    exact absurd hF.symm hn
  | succ k ih =>
    intro i1 st hF
    rw [fX2_numberForNewArray_2] at hF
    refine j_iload_n C dX2_numberForNewArray_2 rfl 1 rfl ?_
    refine j_bipush (v := (16 : Int32)) C dX2_numberForNewArray_3 (by decide) ?_
    refine j_icmp_ge (tgt := 28) C dX2_numberForNewArray_5 (by decide) (fun c1 => ?_) (fun c1 => ?_)
    · replace hF := zif_t hF c1
      refine j_sub [] rfl ?_
      exact hX_28 st hF
    · replace hF := zif_f hF c1
      refine j_aload_n C dX2_numberForNewArray_8 rfl 0 rfl ?_
      refine s_get0 C in_X2_numberForNewArray_wsX20 0 (by decide) (by decide +kernel) 1 rfl dX2_numberForNewArray_9 ?_
      refine j_iload_n C dX2_numberForNewArray_12 rfl 1 rfl ?_
      have b2 := zif_c hF hn
      replace hF := zif_t hF b2
      refine s_aald C b2 dX2_numberForNewArray_13 ?_
      refine s_getR C in_X2_numberForNewArray_wsX10 (inb.row b2) 2 (by decide) (by decide +kernel) rfl dX2_numberForNewArray_14 ?_
      refine j_if_ne (tgt := 22) C dX2_numberForNewArray_17 (by decide) (fun c3 => ?_) (fun c3 => ?_)
      · replace hF := zif_f hF c3
        refine j_iinc (lv' := [(1, .int (i1 + (1 : Int32))), (0, .ref (ad 0))]) C dX2_numberForNewArray_22 1 rfl rfl (by decide) rfl ?_
        refine j_goto (tgt := 2) C dX2_numberForNewArray_25 (by decide) ?_
        refine j_sub [1, 0] rfl ?_
        exact ih (i1 + (1 : Int32)) st hF
      · replace hF := zif_t hF c3
        refine j_sub [1] rfl ?_
        exact hX_20 i1 st hF
def fX2_numberForNewArray (n : Nat)  (st : zS) : zF Int32 := fX2_numberForNewArray_2 n (fun  (st : zS) => some (.inr false, st)) (fun (i1 : Int32) (st : zS) => some (.inl i1, st)) n (0 : Int32) st
set_option maxHeartbeats 4000000 in
set_option maxRecDepth 100000 in
theorem kX2_numberForNewArray (hl : l.stackTraces = false) (n : Nat)  (st : zS) (hn : fX2_numberForNewArray n  st ≠ none) : zM (fun v : Int32 => some (.int v)) l yX2_numberForNewArray wsX2_numberForNewArray rmX2_numberForNewArray D zcl (zty cI cR) 57 ad (sce cI cR ad) (sT ad) 1 6 [.ref (ad 0)] st (fX2_numberForNewArray n  st) := by
  refine z_ofJ (cc := cX2_numberForNewArray) (maxL := 2) (ret := (some .int)) (lv := [(0, .ref (ad 0))]) (by decide) rfl (Nat.le_of_ble_eq_true rfl) rfl ?_
  intro p e s m args below meth c C hne hT hr
  obtain ⟨F, hFe⟩ : ∃ F, F = fX2_numberForNewArray n  st := ⟨_, rfl⟩
  rw [← hFe] at hn ⊢
  have hF : fX2_numberForNewArray n  st = F := hFe.symm
  clear hFe
  unfold fX2_numberForNewArray at hF
  have C : zC p s m args meth c cX2_numberForNewArray RX2 wsX2_numberForNewArray D zcl (zty cI cR) 57 ad 2 := C
  refine j_iconst (v := (0 : Int32)) C dX2_numberForNewArray_0 (by decide) ?_
  refine j_istore_n (lv' := [(1, .int (0 : Int32)), (0, .ref (ad 0))]) C dX2_numberForNewArray_1 rfl (by decide) rfl ?_
  refine j_sub [1, 0] rfl ?_
  refine wX2_numberForNewArray_2 C hne hl hT hr hn n ?_ ?_ n (0 : Int32) st hF
  · intro  st hF
    exact s_throwS (text := "all arrays are there") C hne hl hT (by decide +kernel) (by decide +kernel) hatS_X2_numberForNewArray (by decide) dX2_numberForNewArray_28 dX2_numberForNewArray_31 dX2_numberForNewArray_32 dX2_numberForNewArray_34 dX2_numberForNewArray_37 (Nat.le_of_ble_eq_true rfl) (Nat.le_of_ble_eq_true rfl) (Nat.le_of_ble_eq_true rfl) (Nat.le_of_ble_eq_true rfl) hF (Nat.le_of_ble_eq_true rfl) (Nat.le_of_ble_eq_true rfl)
  · intro i1 st hF
    refine j_iload_n C dX2_numberForNewArray_20 rfl 0 rfl ?_
    exact j_iret C hr hF (Nat.le_of_ble_eq_true rfl) (Nat.le_of_ble_eq_true rfl) dX2_numberForNewArray_21
end
/-! X2_checkIndex -/
def rmX2_checkIndex : Room := { frames := 10, cells := 1, slots := 6, locals := 120 }
theorem hatA_X2_checkIndex : ∀ w ∈ (vx_atS RX2 37 "java/lang/IllegalArgumentException" ["java/lang/RuntimeException", "java/lang/Exception"]).filter goodWord, w ∈ wsX2_checkIndex := by decide +kernel
theorem in_X2_checkIndex_wsX10 : ∀ w ∈ wsX10, w ∈ wsX2_checkIndex := by decide +kernel
section
variable {p : Program} {l : Launch} {e : Env} {s : State} {m : MethodId} {args : Array Value} {below : List Frame} {meth : Method} {c : Code} {D : va_G} {cI cR : ClassId} {ad : Nat → Nat}
def fX2_checkIndex (n : Nat) (r0 : Nat) (i1 : Int32) (st : zS) : zF Unit := (if i1 < 0 then some (.inr true, st) else (if i1 < (st r0 3) then some (.inl (), st) else some (.inr true, st)))
set_option maxHeartbeats 4000000 in
set_option maxRecDepth 100000 in
theorem kX2_checkIndex (hl : l.stackTraces = false) (n : Nat) (r0 : Nat) (hr0 : isRow r0) (i1 : Int32) (st : zS) (hn : fX2_checkIndex n r0 i1 st ≠ none) : zM (fun _ : Unit => none) l yX2_checkIndex wsX2_checkIndex rmX2_checkIndex D zcl (zty cI cR) 57 ad (sce cI cR ad) (sT ad) 1 6 [.ref (ad r0), .int i1] st (fX2_checkIndex n r0 i1 st) := by
  refine z_ofJ (cc := cX2_checkIndex) (maxL := 2) (ret := none) (lv := [(0, .ref (ad r0)), (1, .int i1)]) (by decide) rfl (Nat.le_of_ble_eq_true rfl) rfl ?_
  intro p e s m args below meth c C hne hT hr
  obtain ⟨F, hFe⟩ : ∃ F, F = fX2_checkIndex n r0 i1 st := ⟨_, rfl⟩
  rw [← hFe] at hn ⊢
  have hF : fX2_checkIndex n r0 i1 st = F := hFe.symm
  clear hFe
  unfold fX2_checkIndex at hF
  have C : zC p s m args meth c cX2_checkIndex RX2 wsX2_checkIndex D zcl (zty cI cR) 57 ad 2 := C
  refine j_iload_n C dX2_checkIndex_0 rfl 1 rfl ?_
  refine j_if_lt (tgt := 12) C dX2_checkIndex_1 (by decide) (fun c1 => ?_) (fun c1 => ?_)
  · replace hF := zif_t hF c1
    exact s_throwA (text := "no such index") C hne hl hT (by decide +kernel) (by decide +kernel) hatA_X2_checkIndex (by decide) dX2_checkIndex_12 dX2_checkIndex_15 dX2_checkIndex_16 dX2_checkIndex_18 dX2_checkIndex_21 (Nat.le_of_ble_eq_true rfl) (Nat.le_of_ble_eq_true rfl) (Nat.le_of_ble_eq_true rfl) (Nat.le_of_ble_eq_true rfl) hF (Nat.le_of_ble_eq_true rfl) (Nat.le_of_ble_eq_true rfl)
  · replace hF := zif_f hF c1
    refine j_iload_n C dX2_checkIndex_4 rfl 1 rfl ?_
    refine j_aload_n C dX2_checkIndex_5 rfl 0 rfl ?_
    refine s_getR C in_X2_checkIndex_wsX10 hr0 3 (by decide) (by decide +kernel) rfl dX2_checkIndex_6 ?_
    refine j_icmp_lt (tgt := 22) C dX2_checkIndex_9 (by decide) (fun c2 => ?_) (fun c2 => ?_)
    · replace hF := zif_t hF c2
      exact j_vret C hr hF (Nat.le_of_ble_eq_true rfl) (Nat.le_of_ble_eq_true rfl) dX2_checkIndex_22
    · replace hF := zif_f hF c2
      exact s_throwA (text := "no such index") C hne hl hT (by decide +kernel) (by decide +kernel) hatA_X2_checkIndex (by decide) dX2_checkIndex_12 dX2_checkIndex_15 dX2_checkIndex_16 dX2_checkIndex_18 dX2_checkIndex_21 (Nat.le_of_ble_eq_true rfl) (Nat.le_of_ble_eq_true rfl) (Nat.le_of_ble_eq_true rfl) (Nat.le_of_ble_eq_true rfl) hF (Nat.le_of_ble_eq_true rfl) (Nat.le_of_ble_eq_true rfl)
end
/-! X2_checkRange -/
def rmX2_checkRange : Room := { frames := 10, cells := 1, slots := 6, locals := 120 }
theorem hatA_X2_checkRange : ∀ w ∈ (vx_atS RX2 37 "java/lang/IllegalArgumentException" ["java/lang/RuntimeException", "java/lang/Exception"]).filter goodWord, w ∈ wsX2_checkRange := by decide +kernel
theorem in_X2_checkRange_wsX10 : ∀ w ∈ wsX10, w ∈ wsX2_checkRange := by decide +kernel
section
variable {p : Program} {l : Launch} {e : Env} {s : State} {m : MethodId} {args : Array Value} {below : List Frame} {meth : Method} {c : Code} {D : va_G} {cI cR : ClassId} {ad : Nat → Nat}
def fX2_checkRange (n : Nat) (r0 : Nat) (i1 : Int32) (i2 : Int32) (st : zS) : zF Unit := (if i1 < 0 then some (.inr true, st) else (if i2 < i1 then some (.inr true, st) else (if i2 ≤ (st r0 3) then some (.inl (), st) else some (.inr true, st))))
set_option maxHeartbeats 4000000 in
set_option maxRecDepth 100000 in
theorem kX2_checkRange (hl : l.stackTraces = false) (n : Nat) (r0 : Nat) (hr0 : isRow r0) (i1 : Int32) (i2 : Int32) (st : zS) (hn : fX2_checkRange n r0 i1 i2 st ≠ none) : zM (fun _ : Unit => none) l yX2_checkRange wsX2_checkRange rmX2_checkRange D zcl (zty cI cR) 57 ad (sce cI cR ad) (sT ad) 1 6 [.ref (ad r0), .int i1, .int i2] st (fX2_checkRange n r0 i1 i2 st) := by
  refine z_ofJ (cc := cX2_checkRange) (maxL := 3) (ret := none) (lv := [(0, .ref (ad r0)), (1, .int i1), (2, .int i2)]) (by decide) rfl (Nat.le_of_ble_eq_true rfl) rfl ?_
  intro p e s m args below meth c C hne hT hr
  obtain ⟨F, hFe⟩ : ∃ F, F = fX2_checkRange n r0 i1 i2 st := ⟨_, rfl⟩
  rw [← hFe] at hn ⊢
  have hF : fX2_checkRange n r0 i1 i2 st = F := hFe.symm
  clear hFe
  unfold fX2_checkRange at hF
  have C : zC p s m args meth c cX2_checkRange RX2 wsX2_checkRange D zcl (zty cI cR) 57 ad 3 := C
  refine j_iload_n C dX2_checkRange_0 rfl 1 rfl ?_
  refine j_if_lt (tgt := 17) C dX2_checkRange_1 (by decide) (fun c1 => ?_) (fun c1 => ?_)
  · replace hF := zif_t hF c1
    exact s_throwA (text := "no such range") C hne hl hT (by decide +kernel) (by decide +kernel) hatA_X2_checkRange (by decide) dX2_checkRange_17 dX2_checkRange_20 dX2_checkRange_21 dX2_checkRange_23 dX2_checkRange_26 (Nat.le_of_ble_eq_true rfl) (Nat.le_of_ble_eq_true rfl) (Nat.le_of_ble_eq_true rfl) (Nat.le_of_ble_eq_true rfl) hF (Nat.le_of_ble_eq_true rfl) (Nat.le_of_ble_eq_true rfl)
  · replace hF := zif_f hF c1
    refine j_iload_n C dX2_checkRange_4 rfl 1 rfl ?_
    refine j_iload_n C dX2_checkRange_5 rfl 2 rfl ?_
    refine j_icmp_gt (tgt := 17) C dX2_checkRange_6 (by decide) (fun c2 => ?_) (fun c2 => ?_)
    · replace hF := zif_t hF c2
      exact s_throwA (text := "no such range") C hne hl hT (by decide +kernel) (by decide +kernel) hatA_X2_checkRange (by decide) dX2_checkRange_17 dX2_checkRange_20 dX2_checkRange_21 dX2_checkRange_23 dX2_checkRange_26 (Nat.le_of_ble_eq_true rfl) (Nat.le_of_ble_eq_true rfl) (Nat.le_of_ble_eq_true rfl) (Nat.le_of_ble_eq_true rfl) hF (Nat.le_of_ble_eq_true rfl) (Nat.le_of_ble_eq_true rfl)
    · replace hF := zif_f hF c2
      refine j_iload_n C dX2_checkRange_9 rfl 2 rfl ?_
      refine j_aload_n C dX2_checkRange_10 rfl 0 rfl ?_
      refine s_getR C in_X2_checkRange_wsX10 hr0 3 (by decide) (by decide +kernel) rfl dX2_checkRange_11 ?_
      refine j_icmp_le (tgt := 27) C dX2_checkRange_14 (by decide) (fun c3 => ?_) (fun c3 => ?_)
      · replace hF := zif_t hF c3
        exact j_vret C hr hF (Nat.le_of_ble_eq_true rfl) (Nat.le_of_ble_eq_true rfl) dX2_checkRange_27
      · replace hF := zif_f hF c3
        exact s_throwA (text := "no such range") C hne hl hT (by decide +kernel) (by decide +kernel) hatA_X2_checkRange (by decide) dX2_checkRange_17 dX2_checkRange_20 dX2_checkRange_21 dX2_checkRange_23 dX2_checkRange_26 (Nat.le_of_ble_eq_true rfl) (Nat.le_of_ble_eq_true rfl) (Nat.le_of_ble_eq_true rfl) (Nat.le_of_ble_eq_true rfl) hF (Nat.le_of_ble_eq_true rfl) (Nat.le_of_ble_eq_true rfl)
end
/-! X2_checkRoom -/
def rmX2_checkRoom : Room := { frames := 10, cells := 1, slots := 6, locals := 120 }
theorem hatS_X2_checkRoom : ∀ w ∈ (vx_atS RX2 157 "java/lang/IllegalStateException" ["java/lang/RuntimeException", "java/lang/Exception"]).filter goodWord, w ∈ wsX2_checkRoom := by decide +kernel
theorem in_X2_checkRoom_wsX00 : ∀ w ∈ wsX00, w ∈ wsX2_checkRoom := by decide +kernel
theorem in_X2_checkRoom_wsX20 : ∀ w ∈ wsX20, w ∈ wsX2_checkRoom := by decide +kernel
section
variable {p : Program} {l : Launch} {e : Env} {s : State} {m : MethodId} {args : Array Value} {below : List Frame} {meth : Method} {c : Code} {D : va_G} {cI cR : ClassId} {ad : Nat → Nat}
def fX2_checkRoom (n : Nat) (i1 : Int32) (st : zS) : zF Unit := (if i1 ≤ (st 2 3) then some (.inl (), st) else some (.inr false, st))
set_option maxHeartbeats 4000000 in
set_option maxRecDepth 100000 in
theorem kX2_checkRoom (hl : l.stackTraces = false) (n : Nat) (i1 : Int32) (st : zS) (hn : fX2_checkRoom n i1 st ≠ none) : zM (fun _ : Unit => none) l yX2_checkRoom wsX2_checkRoom rmX2_checkRoom D zcl (zty cI cR) 57 ad (sce cI cR ad) (sT ad) 1 6 [.ref (ad 0), .int i1] st (fX2_checkRoom n i1 st) := by
  refine z_ofJ (cc := cX2_checkRoom) (maxL := 2) (ret := none) (lv := [(0, .ref (ad 0)), (1, .int i1)]) (by decide) rfl (Nat.le_of_ble_eq_true rfl) rfl ?_
  intro p e s m args below meth c C hne hT hr
  obtain ⟨F, hFe⟩ : ∃ F, F = fX2_checkRoom n i1 st := ⟨_, rfl⟩
  rw [← hFe] at hn ⊢
  have hF : fX2_checkRoom n i1 st = F := hFe.symm
  clear hFe
  unfold fX2_checkRoom at hF
  have C : zC p s m args meth c cX2_checkRoom RX2 wsX2_checkRoom D zcl (zty cI cR) 57 ad 2 := C
  refine j_iload_n C dX2_checkRoom_0 rfl 1 rfl ?_
  refine j_aload_n C dX2_checkRoom_1 rfl 0 rfl ?_
  refine s_get0 C in_X2_checkRoom_wsX20 1 (by decide) (by decide +kernel) 2 rfl dX2_checkRoom_2 ?_
  refine s_get2 C in_X2_checkRoom_wsX00 3 (by decide) (by decide +kernel) rfl dX2_checkRoom_5 ?_
  refine j_icmp_le (tgt := 21) C dX2_checkRoom_8 (by decide) (fun c1 => ?_) (fun c1 => ?_)
  · replace hF := zif_t hF c1
    exact j_vret C hr hF (Nat.le_of_ble_eq_true rfl) (Nat.le_of_ble_eq_true rfl) dX2_checkRoom_21
  · replace hF := zif_f hF c1
    exact s_throwS (text := "no room") C hne hl hT (by decide +kernel) (by decide +kernel) hatS_X2_checkRoom (by decide) dX2_checkRoom_11 dX2_checkRoom_14 dX2_checkRoom_15 dX2_checkRoom_17 dX2_checkRoom_20 (Nat.le_of_ble_eq_true rfl) (Nat.le_of_ble_eq_true rfl) (Nat.le_of_ble_eq_true rfl) (Nat.le_of_ble_eq_true rfl) hF (Nat.le_of_ble_eq_true rfl) (Nat.le_of_ble_eq_true rfl)
end
/-! X2_readValues -/
def rmX2_readValues : Room := { frames := 12, cells := 0, slots := 0, locals := 200 }
theorem in_X2_readValues_wsX10 : ∀ w ∈ wsX10, w ∈ wsX2_readValues := by decide +kernel
theorem in_X2_readValues_wsX20 : ∀ w ∈ wsX20, w ∈ wsX2_readValues := by decide +kernel
section
variable {p : Program} {l : Launch} {e : Env} {s : State} {m : MethodId} {args : Array Value} {below : List Frame} {meth : Method} {c : Code} {D : va_G} {cI cR : ClassId} {ad : Nat → Nat}
def fX2_readValues_6 (n : Nat) (X_117 : zS → zF Unit) : Nat → Nat → Int32 → Int32 → Nat → Int32 → Int32 → zS → zF Unit
  | 0, _, _, _, _, _, _, _ => none
  | k + 1, r1, i2, i3, r4, i5, i6, st => (zb (fX2_leavesFor n i3 st) (fun (v2 : Int32) (u1 : zS) => (if v2 ≤ i6 then X_117 u1 else (if inb i6 (al (r1 + 16)) then (if (u1 (r1 + 16) (i6).toNatClampNeg) = ((-1) : Int32) then (if inb i6 (al (r1 + 32)) then (zb (fJ7_fill_fda19 n r4 ((i5 + (if i2 < (i6 * (16 : Int32)) then (i6 * (16 : Int32)) else i2)) - i2) ((((i5 + (if i2 < (i6 * (16 : Int32)) then (i6 * (16 : Int32)) else i2)) - i2) + (if ((i6 + (1 : Int32)) * (16 : Int32)) < i3 then ((i6 + (1 : Int32)) * (16 : Int32)) else i3)) - (if i2 < (i6 * (16 : Int32)) then (i6 * (16 : Int32)) else i2)) (u1 (r1 + 32) (i6).toNatClampNeg) u1) (fun (v12 : Unit) (u11 : zS) => fX2_readValues_6 n X_117 k r1 i2 i3 r4 i5 (i6 + (1 : Int32)) u11)) else none) else (zb (fX0_read n (u1 (r1 + 16) (i6).toNatClampNeg) ((if i2 < (i6 * (16 : Int32)) then (i6 * (16 : Int32)) else i2) - (if i2 < (i6 * (16 : Int32)) then (i6 * (16 : Int32)) else i2) / (16 : Int32) * (16 : Int32)) r4 ((i5 + (if i2 < (i6 * (16 : Int32)) then (i6 * (16 : Int32)) else i2)) - i2) ((if ((i6 + (1 : Int32)) * (16 : Int32)) < i3 then ((i6 + (1 : Int32)) * (16 : Int32)) else i3) - (if i2 < (i6 * (16 : Int32)) then (i6 * (16 : Int32)) else i2)) u1) (fun (v8 : Unit) (u7 : zS) => fX2_readValues_6 n X_117 k r1 i2 i3 r4 i5 (i6 + (1 : Int32)) u7))) else none))))
set_option maxHeartbeats 4000000 in
set_option maxRecDepth 100000 in
theorem wX2_readValues_6 (C : zC p s m args meth c cX2_readValues RX2 wsX2_readValues D zcl (zty cI cR) 57 ad 11) (hne : ∀ x ∈ c.exceptionTable.toList, False) (hl : l.stackTraces = false) (hT : (sT ad) s.heap.size s) (hr : meth.sig.returnType = none) {F : zF Unit} (hn : F ≠ none) (n : Nat) {X_117 : zS → zF Unit} (hX_117 : ∀  (st : zS), X_117 st = F → sJ (fun _ : Unit => none) F 0 0 p l e rmX2_readValues s m args below meth c D cI cR ad 11 st 0 0 117 [] []) : ∀ (k : Nat) (r1 : Nat) (hr1 : isRow r1) (i2 : Int32) (i3 : Int32) (r4 : Nat) (hr4 : isArr r4) (i5 : Int32) (i6 : Int32) (st : zS), fX2_readValues_6 n X_117 k r1 i2 i3 r4 i5 i6 st = F → sJ (fun _ : Unit => none) F 0 0 p l e rmX2_readValues s m args below meth c D cI cR ad 11 st 0 0 6 [(0, .ref (ad 0)), (1, .ref (ad r1)), (2, .int i2), (3, .int i3), (4, .ref (ad r4)), (5, .int i5), (6, .int i6)] [] := by
  intro k
  induction k with
  | zero =>
    intro r1 hr1 i2 i3 r4 hr4 i5 i6 st hF
    exact absurd hF.symm hn
  | succ k ih =>
    intro r1 hr1 i2 i3 r4 hr4 i5 i6 st hF
    rw [fX2_readValues_6] at hF
    refine j_iload C dX2_readValues_6 6 rfl ?_
    refine j_iload_n C dX2_readValues_8 rfl 3 rfl ?_
    refine j_callSi C hne sT_S hT (As := [.int i3]) (rest := [.int i6]) (kX2_leavesFor hl n i3 st (zb_n hF hn)) (va_cwS 1 C.1.2.2.2.2 gX2_readValues_X2_leavesFor rfl rfl rfl (by decide +kernel) ⟨(Nat.le_of_ble_eq_true rfl), (Nat.le_of_ble_eq_true rfl)⟩) rfl rfl (Nat.le_of_ble_eq_true rfl) dX2_readValues_9 ⟨(Nat.le_of_ble_eq_true rfl), (Nat.le_of_ble_eq_true rfl)⟩ (fun _ _ h9 => zb_x hF h9) (Nat.le_of_ble_eq_true rfl) (Nat.le_of_ble_eq_true rfl) (fun v2 u1 h3 => ?_)
    replace hF := zb_l hF h3
    refine j_icmp_ge (tgt := 117) C dX2_readValues_12 (by decide) (fun c4 => ?_) (fun c4 => ?_)
    · replace hF := zif_t hF c4
      refine j_sub [] rfl ?_
      exact hX_117 u1 hF
    · replace hF := zif_f hF c4
      refine j_iload_n C dX2_readValues_15 rfl 2 rfl ?_
      refine j_iload C dX2_readValues_16 6 rfl ?_
      refine j_bipush (v := (16 : Int32)) C dX2_readValues_18 (by decide) ?_
      refine j_imul C dX2_readValues_20 ?_
      refine j_mmax C (by decide +kernel) (by decide +kernel) (by decide +kernel) (by decide +kernel) (Nat.le_of_ble_eq_true rfl) (Nat.le_of_ble_eq_true rfl) (Nat.le_of_ble_eq_true rfl) (Nat.le_of_ble_eq_true rfl) dX2_readValues_21 ?_
      refine j_istore (lv' := [(7, .int (if i2 < (i6 * (16 : Int32)) then (i6 * (16 : Int32)) else i2)), (0, .ref (ad 0)), (1, .ref (ad r1)), (2, .int i2), (3, .int i3), (4, .ref (ad r4)), (5, .int i5), (6, .int i6)]) C dX2_readValues_24 (by decide) rfl ?_
      refine j_iload_n C dX2_readValues_26 rfl 4 rfl ?_
      refine j_iload C dX2_readValues_27 7 rfl ?_
      refine j_iconst (v := (1 : Int32)) C dX2_readValues_29 (by decide) ?_
      refine j_iadd C dX2_readValues_30 ?_
      refine j_bipush (v := (16 : Int32)) C dX2_readValues_31 (by decide) ?_
      refine j_imul C dX2_readValues_33 ?_
      refine j_mmin C (by decide +kernel) (by decide +kernel) (by decide +kernel) (by decide +kernel) (Nat.le_of_ble_eq_true rfl) (Nat.le_of_ble_eq_true rfl) (Nat.le_of_ble_eq_true rfl) (Nat.le_of_ble_eq_true rfl) dX2_readValues_34 ?_
      refine j_istore (lv' := [(8, .int (if ((i6 + (1 : Int32)) * (16 : Int32)) < i3 then ((i6 + (1 : Int32)) * (16 : Int32)) else i3)), (7, .int (if i2 < (i6 * (16 : Int32)) then (i6 * (16 : Int32)) else i2)), (0, .ref (ad 0)), (1, .ref (ad r1)), (2, .int i2), (3, .int i3), (4, .ref (ad r4)), (5, .int i5), (6, .int i6)]) C dX2_readValues_37 (by decide) rfl ?_
      refine j_iload C dX2_readValues_39 7 rfl ?_
      refine j_iload C dX2_readValues_41 1 rfl ?_
      refine j_iadd C dX2_readValues_43 ?_
      refine j_iload_n C dX2_readValues_44 rfl 4 rfl ?_
      refine j_isub C dX2_readValues_45 ?_
      refine j_istore (lv' := [(9, .int ((i5 + (if i2 < (i6 * (16 : Int32)) then (i6 * (16 : Int32)) else i2)) - i2)), (8, .int (if ((i6 + (1 : Int32)) * (16 : Int32)) < i3 then ((i6 + (1 : Int32)) * (16 : Int32)) else i3)), (7, .int (if i2 < (i6 * (16 : Int32)) then (i6 * (16 : Int32)) else i2)), (0, .ref (ad 0)), (1, .ref (ad r1)), (2, .int i2), (3, .int i3), (4, .ref (ad r4)), (5, .int i5), (6, .int i6)]) C dX2_readValues_46 (by decide) rfl ?_
      refine j_aload_n C dX2_readValues_48 rfl 4 rfl ?_
      refine s_getR C in_X2_readValues_wsX10 hr1 0 (by decide) (by decide +kernel) rfl dX2_readValues_49 ?_
      refine j_iload C dX2_readValues_52 9 rfl ?_
      have b5 := zif_c hF hn
      replace hF := zif_t hF b5
      refine s_iald C (isRow.p hr1) b5 dX2_readValues_54 ?_
      refine j_istore (lv' := [(10, .int (u1 (r1 + 16) (i6).toNatClampNeg)), (9, .int ((i5 + (if i2 < (i6 * (16 : Int32)) then (i6 * (16 : Int32)) else i2)) - i2)), (8, .int (if ((i6 + (1 : Int32)) * (16 : Int32)) < i3 then ((i6 + (1 : Int32)) * (16 : Int32)) else i3)), (7, .int (if i2 < (i6 * (16 : Int32)) then (i6 * (16 : Int32)) else i2)), (0, .ref (ad 0)), (1, .ref (ad r1)), (2, .int i2), (3, .int i3), (4, .ref (ad r4)), (5, .int i5), (6, .int i6)]) C dX2_readValues_55 (by decide) rfl ?_
      refine j_iload C dX2_readValues_57 0 rfl ?_
      refine j_iconst (v := ((-1) : Int32)) C dX2_readValues_59 (by decide) ?_
      refine j_icmp_ne (tgt := 88) C dX2_readValues_60 (by decide) (fun c6 => ?_) (fun c6 => ?_)
      · replace hF := zif_f hF c6
        refine j_aload_n C dX2_readValues_88 rfl 4 rfl ?_
        refine s_get0 C in_X2_readValues_wsX20 1 (by decide) (by decide +kernel) 2 rfl dX2_readValues_89 ?_
        refine j_iload C dX2_readValues_92 0 rfl ?_
        refine j_iload C dX2_readValues_94 3 rfl ?_
        refine j_bipush (v := (16 : Int32)) C dX2_readValues_96 (by decide) ?_
        refine j_irem C dX2_readValues_98 (by decide) ?_
        refine j_aload C dX2_readValues_99 8 rfl ?_
        refine j_iload C dX2_readValues_101 1 rfl ?_
        refine j_iload C dX2_readValues_103 2 rfl ?_
        refine j_iload C dX2_readValues_105 3 rfl ?_
        refine j_isub C dX2_readValues_107 ?_
        refine j_callVv C hne sT_S hT (q0 := 2) (As := [.int (u1 (r1 + 16) (i6).toNatClampNeg), .int ((if i2 < (i6 * (16 : Int32)) then (i6 * (16 : Int32)) else i2) - (if i2 < (i6 * (16 : Int32)) then (i6 * (16 : Int32)) else i2) / (16 : Int32) * (16 : Int32)), .ref (ad r4), .int ((i5 + (if i2 < (i6 * (16 : Int32)) then (i6 * (16 : Int32)) else i2)) - i2), .int ((if ((i6 + (1 : Int32)) * (16 : Int32)) < i3 then ((i6 + (1 : Int32)) * (16 : Int32)) else i3) - (if i2 < (i6 * (16 : Int32)) then (i6 * (16 : Int32)) else i2))]) (rest := []) (kX0_read hl n (u1 (r1 + 16) (i6).toNatClampNeg) ((if i2 < (i6 * (16 : Int32)) then (i6 * (16 : Int32)) else i2) - (if i2 < (i6 * (16 : Int32)) then (i6 * (16 : Int32)) else i2) / (16 : Int32) * (16 : Int32)) r4 hr4 ((i5 + (if i2 < (i6 * (16 : Int32)) then (i6 * (16 : Int32)) else i2)) - i2) ((if ((i6 + (1 : Int32)) * (16 : Int32)) < i3 then ((i6 + (1 : Int32)) * (16 : Int32)) else i3) - (if i2 < (i6 * (16 : Int32)) then (i6 * (16 : Int32)) else i2)) u1 (zb_n hF hn)) (cwV 5 C.1.2.2.2.2 gX2_readValues_X0_read rfl rfl rfl (by decide +kernel) ⟨(Nat.le_of_ble_eq_true rfl), (Nat.le_of_ble_eq_true rfl)⟩) (by decide) sce_2 rfl rfl rfl (Nat.le_of_ble_eq_true rfl) dX2_readValues_108 ⟨(Nat.le_of_ble_eq_true rfl), (Nat.le_of_ble_eq_true rfl)⟩ (fun _ _ h9 => zb_x hF h9) (Nat.le_of_ble_eq_true rfl) (Nat.le_of_ble_eq_true rfl) (fun v8 u7 h9 => ?_)
        replace hF := zb_l hF h9
        refine j_iinc (lv' := [(6, .int (i6 + (1 : Int32))), (10, .int (u1 (r1 + 16) (i6).toNatClampNeg)), (9, .int ((i5 + (if i2 < (i6 * (16 : Int32)) then (i6 * (16 : Int32)) else i2)) - i2)), (8, .int (if ((i6 + (1 : Int32)) * (16 : Int32)) < i3 then ((i6 + (1 : Int32)) * (16 : Int32)) else i3)), (7, .int (if i2 < (i6 * (16 : Int32)) then (i6 * (16 : Int32)) else i2)), (0, .ref (ad 0)), (1, .ref (ad r1)), (2, .int i2), (3, .int i3), (4, .ref (ad r4)), (5, .int i5)]) C dX2_readValues_111 10 rfl rfl (by decide) rfl ?_
        refine j_goto (tgt := 6) C dX2_readValues_114 (by decide) ?_
        refine j_sub [5, 6, 7, 8, 9, 10, 0] rfl ?_
        exact ih r1 hr1 i2 i3 r4 hr4 i5 (i6 + (1 : Int32)) u7 hF
      · replace hF := zif_t hF c6
        refine j_aload C dX2_readValues_63 8 rfl ?_
        refine j_iload C dX2_readValues_65 1 rfl ?_
        refine j_iload C dX2_readValues_67 1 rfl ?_
        refine j_iload C dX2_readValues_69 2 rfl ?_
        refine j_iadd C dX2_readValues_71 ?_
        refine j_iload C dX2_readValues_72 3 rfl ?_
        refine j_isub C dX2_readValues_74 ?_
        refine j_aload_n C dX2_readValues_75 rfl 5 rfl ?_
        refine s_getR C in_X2_readValues_wsX10 hr1 1 (by decide) (by decide +kernel) rfl dX2_readValues_76 ?_
        refine j_iload C dX2_readValues_79 10 rfl ?_
        have b10 := zif_c hF hn
        replace hF := zif_t hF b10
        refine s_iald C (isRow.n hr1) b10 dX2_readValues_81 ?_
        refine j_callSv C hne sT_S hT (As := [.ref (ad r4), .int ((i5 + (if i2 < (i6 * (16 : Int32)) then (i6 * (16 : Int32)) else i2)) - i2), .int ((((i5 + (if i2 < (i6 * (16 : Int32)) then (i6 * (16 : Int32)) else i2)) - i2) + (if ((i6 + (1 : Int32)) * (16 : Int32)) < i3 then ((i6 + (1 : Int32)) * (16 : Int32)) else i3)) - (if i2 < (i6 * (16 : Int32)) then (i6 * (16 : Int32)) else i2)), .int (u1 (r1 + 32) (i6).toNatClampNeg)]) (rest := []) (kJ7_fill_fda19 hl n r4 hr4 ((i5 + (if i2 < (i6 * (16 : Int32)) then (i6 * (16 : Int32)) else i2)) - i2) ((((i5 + (if i2 < (i6 * (16 : Int32)) then (i6 * (16 : Int32)) else i2)) - i2) + (if ((i6 + (1 : Int32)) * (16 : Int32)) < i3 then ((i6 + (1 : Int32)) * (16 : Int32)) else i3)) - (if i2 < (i6 * (16 : Int32)) then (i6 * (16 : Int32)) else i2)) (u1 (r1 + 32) (i6).toNatClampNeg) u1 (zb_n hF hn)) (va_cwS 4 C.1.2.2.2.2 gX2_readValues_J7_fill_fda19 rfl rfl rfl (by decide +kernel) ⟨(Nat.le_of_ble_eq_true rfl), (Nat.le_of_ble_eq_true rfl)⟩) rfl rfl (Nat.le_of_ble_eq_true rfl) dX2_readValues_82 ⟨(Nat.le_of_ble_eq_true rfl), (Nat.le_of_ble_eq_true rfl)⟩ (fun _ _ h9 => zb_x hF h9) (Nat.le_of_ble_eq_true rfl) (Nat.le_of_ble_eq_true rfl) (fun v12 u11 h13 => ?_)
        replace hF := zb_l hF h13
        refine j_goto (tgt := 111) C dX2_readValues_85 (by decide) ?_
        refine j_iinc (lv' := [(6, .int (i6 + (1 : Int32))), (10, .int (u1 (r1 + 16) (i6).toNatClampNeg)), (9, .int ((i5 + (if i2 < (i6 * (16 : Int32)) then (i6 * (16 : Int32)) else i2)) - i2)), (8, .int (if ((i6 + (1 : Int32)) * (16 : Int32)) < i3 then ((i6 + (1 : Int32)) * (16 : Int32)) else i3)), (7, .int (if i2 < (i6 * (16 : Int32)) then (i6 * (16 : Int32)) else i2)), (0, .ref (ad 0)), (1, .ref (ad r1)), (2, .int i2), (3, .int i3), (4, .ref (ad r4)), (5, .int i5)]) C dX2_readValues_111 10 rfl rfl (by decide) rfl ?_
        refine j_goto (tgt := 6) C dX2_readValues_114 (by decide) ?_
        refine j_sub [5, 6, 7, 8, 9, 10, 0] rfl ?_
        exact ih r1 hr1 i2 i3 r4 hr4 i5 (i6 + (1 : Int32)) u11 hF
def fX2_readValues (n : Nat) (r1 : Nat) (i2 : Int32) (i3 : Int32) (r4 : Nat) (i5 : Int32) (st : zS) : zF Unit := fX2_readValues_6 n (fun  (st : zS) => some (.inl (), st)) n r1 i2 i3 r4 i5 (i2 / (16 : Int32)) st
set_option maxHeartbeats 4000000 in
set_option maxRecDepth 100000 in
theorem kX2_readValues (hl : l.stackTraces = false) (n : Nat) (r1 : Nat) (hr1 : isRow r1) (i2 : Int32) (i3 : Int32) (r4 : Nat) (hr4 : isArr r4) (i5 : Int32) (st : zS) (hn : fX2_readValues n r1 i2 i3 r4 i5 st ≠ none) : zM (fun _ : Unit => none) l yX2_readValues wsX2_readValues rmX2_readValues D zcl (zty cI cR) 57 ad (sce cI cR ad) (sT ad) 0 0 [.ref (ad 0), .ref (ad r1), .int i2, .int i3, .ref (ad r4), .int i5] st (fX2_readValues n r1 i2 i3 r4 i5 st) := by
  refine z_ofJ (cc := cX2_readValues) (maxL := 11) (ret := none) (lv := [(0, .ref (ad 0)), (1, .ref (ad r1)), (2, .int i2), (3, .int i3), (4, .ref (ad r4)), (5, .int i5)]) (by decide) rfl (Nat.le_of_ble_eq_true rfl) rfl ?_
  intro p e s m args below meth c C hne hT hr
  obtain ⟨F, hFe⟩ : ∃ F, F = fX2_readValues n r1 i2 i3 r4 i5 st := ⟨_, rfl⟩
  rw [← hFe] at hn ⊢
  have hF : fX2_readValues n r1 i2 i3 r4 i5 st = F := hFe.symm
  clear hFe
  unfold fX2_readValues at hF
  have C : zC p s m args meth c cX2_readValues RX2 wsX2_readValues D zcl (zty cI cR) 57 ad 11 := C
  refine j_iload_n C dX2_readValues_0 rfl 2 rfl ?_
  refine j_bipush (v := (16 : Int32)) C dX2_readValues_1 (by decide) ?_
  refine j_idiv C dX2_readValues_3 (by decide) ?_
  refine j_istore (lv' := [(6, .int (i2 / (16 : Int32))), (0, .ref (ad 0)), (1, .ref (ad r1)), (2, .int i2), (3, .int i3), (4, .ref (ad r4)), (5, .int i5)]) C dX2_readValues_4 (by decide) rfl ?_
  refine j_sub [1, 2, 3, 4, 5, 6, 0] rfl ?_
  refine wX2_readValues_6 C hne hl hT hr hn n ?_ n r1 hr1 i2 i3 r4 hr4 i5 (i2 / (16 : Int32)) st hF
  · intro  st hF
    exact j_vret C hr hF (Nat.le_of_ble_eq_true rfl) (Nat.le_of_ble_eq_true rfl) dX2_readValues_117
end
/-! X2_readLeaves -/
def rmX2_readLeaves : Room := { frames := 13, cells := 0, slots := 0, locals := 240 }
theorem in_X2_readLeaves_wsX10 : ∀ w ∈ wsX10, w ∈ wsX2_readLeaves := by decide +kernel
theorem in_X2_readLeaves_wsX20 : ∀ w ∈ wsX20, w ∈ wsX2_readLeaves := by decide +kernel
section
variable {p : Program} {l : Launch} {e : Env} {s : State} {m : MethodId} {args : Array Value} {below : List Frame} {meth : Method} {c : Code} {D : va_G} {cI cR : ClassId} {ad : Nat → Nat}
def fX2_readLeaves (n : Nat) (r1 : Nat) (i2 : Int32) (i3 : Int32) (st : zS) : zF Unit := (zb (fX2_readValues n r1 (i2 * (16 : Int32)) (if (i3 * (16 : Int32)) < (st r1 3) then (i3 * (16 : Int32)) else (st r1 3)) 6 (i2 * (16 : Int32)) st) (fun (v2 : Unit) (u1 : zS) => some (.inl (), u1)))
set_option maxHeartbeats 4000000 in
set_option maxRecDepth 100000 in
theorem kX2_readLeaves (hl : l.stackTraces = false) (n : Nat) (r1 : Nat) (hr1 : isRow r1) (i2 : Int32) (i3 : Int32) (st : zS) (hn : fX2_readLeaves n r1 i2 i3 st ≠ none) : zM (fun _ : Unit => none) l yX2_readLeaves wsX2_readLeaves rmX2_readLeaves D zcl (zty cI cR) 57 ad (sce cI cR ad) (sT ad) 0 0 [.ref (ad 0), .ref (ad r1), .int i2, .int i3] st (fX2_readLeaves n r1 i2 i3 st) := by
  refine z_ofJ (cc := cX2_readLeaves) (maxL := 6) (ret := none) (lv := [(0, .ref (ad 0)), (1, .ref (ad r1)), (2, .int i2), (3, .int i3)]) (by decide) rfl (Nat.le_of_ble_eq_true rfl) rfl ?_
  intro p e s m args below meth c C hne hT hr
  obtain ⟨F, hFe⟩ : ∃ F, F = fX2_readLeaves n r1 i2 i3 st := ⟨_, rfl⟩
  rw [← hFe] at hn ⊢
  have hF : fX2_readLeaves n r1 i2 i3 st = F := hFe.symm
  clear hFe
  unfold fX2_readLeaves at hF
  have C : zC p s m args meth c cX2_readLeaves RX2 wsX2_readLeaves D zcl (zty cI cR) 57 ad 6 := C
  refine j_iload_n C dX2_readLeaves_0 rfl 2 rfl ?_
  refine j_bipush (v := (16 : Int32)) C dX2_readLeaves_1 (by decide) ?_
  refine j_imul C dX2_readLeaves_3 ?_
  refine j_istore (lv' := [(4, .int (i2 * (16 : Int32))), (0, .ref (ad 0)), (1, .ref (ad r1)), (2, .int i2), (3, .int i3)]) C dX2_readLeaves_4 (by decide) rfl ?_
  refine j_aload_n C dX2_readLeaves_6 rfl 2 rfl ?_
  refine s_getR C in_X2_readLeaves_wsX10 hr1 3 (by decide) (by decide +kernel) rfl dX2_readLeaves_7 ?_
  refine j_iload_n C dX2_readLeaves_10 rfl 4 rfl ?_
  refine j_bipush (v := (16 : Int32)) C dX2_readLeaves_11 (by decide) ?_
  refine j_imul C dX2_readLeaves_13 ?_
  refine j_mmin C (by decide +kernel) (by decide +kernel) (by decide +kernel) (by decide +kernel) (Nat.le_of_ble_eq_true rfl) (Nat.le_of_ble_eq_true rfl) (Nat.le_of_ble_eq_true rfl) (Nat.le_of_ble_eq_true rfl) dX2_readLeaves_14 ?_
  refine j_istore (lv' := [(5, .int (if (i3 * (16 : Int32)) < (st r1 3) then (i3 * (16 : Int32)) else (st r1 3))), (4, .int (i2 * (16 : Int32))), (0, .ref (ad 0)), (1, .ref (ad r1)), (2, .int i2), (3, .int i3)]) C dX2_readLeaves_17 (by decide) rfl ?_
  refine j_aload_n C dX2_readLeaves_19 rfl 2 rfl ?_
  refine j_aload_n C dX2_readLeaves_20 rfl 3 rfl ?_
  refine j_iload C dX2_readLeaves_21 1 rfl ?_
  refine j_iload C dX2_readLeaves_23 0 rfl ?_
  refine j_aload_n C dX2_readLeaves_25 rfl 2 rfl ?_
  refine s_get0 C in_X2_readLeaves_wsX20 2 (by decide) (by decide +kernel) 6 rfl dX2_readLeaves_26 ?_
  refine j_iload C dX2_readLeaves_29 1 rfl ?_
  refine j_callVv C hne sT_S hT (q0 := 0) (As := [.ref (ad r1), .int (i2 * (16 : Int32)), .int (if (i3 * (16 : Int32)) < (st r1 3) then (i3 * (16 : Int32)) else (st r1 3)), .ref (ad 6), .int (i2 * (16 : Int32))]) (rest := []) (kX2_readValues hl n r1 hr1 (i2 * (16 : Int32)) (if (i3 * (16 : Int32)) < (st r1 3) then (i3 * (16 : Int32)) else (st r1 3)) 6 (by decide) (i2 * (16 : Int32)) st (zb_n hF hn)) (cwV 5 C.1.2.2.2.2 gX2_readLeaves_X2_readValues rfl rfl rfl (by decide +kernel) ⟨(Nat.le_of_ble_eq_true rfl), (Nat.le_of_ble_eq_true rfl)⟩) (by decide) sce_0 rfl rfl rfl (Nat.le_of_ble_eq_true rfl) dX2_readLeaves_31 ⟨(Nat.le_of_ble_eq_true rfl), (Nat.le_of_ble_eq_true rfl)⟩ (fun _ _ h9 => zb_x hF h9) (Nat.le_of_ble_eq_true rfl) (Nat.le_of_ble_eq_true rfl) (fun v2 u1 h3 => ?_)
  replace hF := zb_l hF h3
  exact j_vret C hr hF (Nat.le_of_ble_eq_true rfl) (Nat.le_of_ble_eq_true rfl) dX2_readLeaves_34
end
