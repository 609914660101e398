/-! X2_release -/
def rmX2_release : Room := { frames := 13, cells := 0, slots := 0, locals := 240 }
theorem in_X2_release_wsX10 : ∀ w ∈ wsX10, w ∈ wsX2_release := by decide +kernel
theorem in_X2_release_wsX20 : ∀ w ∈ wsX20, w ∈ wsX2_release := by decide +kernel
section
variable {p : Program} {l : Launch} {e : Env} {s : State} {m : MethodId} {args : Array Value} {below : List Frame} {meth : Method} {c : Code} {D : va_G} {cI cR : ClassId} {ad : Nat → Nat}
def fX2_release_19 (n : Nat) (X_40 : Nat → zS → zF Int32) : Nat → Nat → Int32 → zS → zF Int32
  | 0, _, _, _ => none
  | k + 1, r2, i3, st => (zb (fX1_leafCount n r2 st) (fun (v7 : Int32) (u6 : zS) => (if v7 ≤ i3 then X_40 r2 u6 else (zb (fX2_setConstant n r2 i3 (0 : Int32) u6) (fun (v11 : Unit) (u10 : zS) => fX2_release_19 n X_40 k r2 (i3 + (1 : Int32)) u10)))))
set_option maxHeartbeats 4000000 in
set_option maxRecDepth 100000 in
theorem wX2_release_19 (C : zC p s m args meth c cX2_release RX2 wsX2_release D zcl (zty cI cR) 57 ad 4) (hne : ∀ x ∈ c.exceptionTable.toList, False) (hl : l.stackTraces = false) (hT : (sT ad) s.heap.size s) (hr : meth.sig.returnType = (some .boolean)) {F : zF Int32} (hn : F ≠ none) (n : Nat) {X_40 : Nat → zS → zF Int32} (hX_40 : ∀ (r2 : Nat) (hr2 : isRow r2) (st : zS), X_40 r2 st = F → sJ (fun v : Int32 => some (.int v)) F 0 0 p l e rmX2_release s m args below meth c D cI cR ad 4 st 0 0 40 [(2, .ref (ad r2))] []) : ∀ (k : Nat) (r2 : Nat) (hr2 : isRow r2) (i3 : Int32) (st : zS), fX2_release_19 n X_40 k r2 i3 st = F → sJ (fun v : Int32 => some (.int v)) F 0 0 p l e rmX2_release s m args below meth c D cI cR ad 4 st 0 0 19 [(0, .ref (ad 0)), (2, .ref (ad r2)), (3, .int i3)] [] := by
  intro k
  induction k with
  | zero =>
    intro r2 hr2 i3 st hF
    exact absurd hF.symm hn
  | succ k ih =>
    intro r2 hr2 i3 st hF
    rw [fX2_release_19] at hF
    refine j_iload_n C dX2_release_19 rfl 2 rfl ?_
    refine j_aload_n C dX2_release_20 rfl 1 rfl ?_
    refine j_callVi C hne sT_S hT (q0 := r2) (As := []) (rest := [.int i3]) (kX1_leafCount hl n r2 hr2 st (zb_n hF hn)) (cwV 0 C.1.2.2.2.2 gX2_release_X1_leafCount rfl rfl rfl (by decide +kernel) ⟨(Nat.le_of_ble_eq_true rfl), (Nat.le_of_ble_eq_true rfl)⟩) (isRow.lt hr2) (sce_row hr2) rfl rfl rfl (Nat.le_of_ble_eq_true rfl) dX2_release_21 ⟨(Nat.le_of_ble_eq_true rfl), (Nat.le_of_ble_eq_true rfl)⟩ (fun _ _ h9 => zb_x hF h9) (Nat.le_of_ble_eq_true rfl) (Nat.le_of_ble_eq_true rfl) (fun v7 u6 h8 => ?_)
    replace hF := zb_l hF h8
    refine j_icmp_ge (tgt := 40) C dX2_release_24 (by decide) (fun c9 => ?_) (fun c9 => ?_)
    · replace hF := zif_t hF c9
      refine j_sub [1] rfl ?_
      exact hX_40 r2 hr2 u6 hF
    · replace hF := zif_f hF c9
      refine j_aload_n C dX2_release_27 rfl 0 rfl ?_
      refine j_aload_n C dX2_release_28 rfl 1 rfl ?_
      refine j_iload_n C dX2_release_29 rfl 2 rfl ?_
      refine j_iconst (v := (0 : Int32)) C dX2_release_30 (by decide) ?_
      refine j_callVv C hne sT_S hT (q0 := 0) (As := [.ref (ad r2), .int i3, .int (0 : Int32)]) (rest := []) (kX2_setConstant hl n r2 hr2 i3 (0 : Int32) u6 (zb_n hF hn)) (cwV 3 C.1.2.2.2.2 gX2_release_X2_setConstant rfl rfl rfl (by decide +kernel) ⟨(Nat.le_of_ble_eq_true rfl), (Nat.le_of_ble_eq_true rfl)⟩) (by decide) sce_0 rfl rfl rfl (Nat.le_of_ble_eq_true rfl) dX2_release_31 ⟨(Nat.le_of_ble_eq_true rfl), (Nat.le_of_ble_eq_true rfl)⟩ (fun _ _ h9 => zb_x hF h9) (Nat.le_of_ble_eq_true rfl) (Nat.le_of_ble_eq_true rfl) (fun v11 u10 h12 => ?_)
      replace hF := zb_l hF h12
      refine j_iinc (lv' := [(3, .int (i3 + (1 : Int32))), (0, .ref (ad 0)), (2, .ref (ad r2))]) C dX2_release_34 2 rfl rfl (by decide) rfl ?_
      refine j_goto (tgt := 19) C dX2_release_37 (by decide) ?_
      refine j_sub [1, 2, 0] rfl ?_
      exact ih r2 hr2 (i3 + (1 : Int32)) u10 hF
def fX2_release (n : Nat) (i1 : Int32) (st : zS) : zF Int32 := (zb (fX2_isThere n i1 st) (fun (v2 : Int32) (u1 : zS) => (if v2 = 0 then some (.inl (0 : Int32), u1) else (if inb i1 16 then fX2_release_19 n (fun (r2 : Nat) (st : zS) => (zl (upA st r2 (upd (st r2) 2 (0 : Int32))) (fun (s13 : zS) => some (.inl (1 : Int32), s13)))) n (9 + (i1).toNatClampNeg) (0 : Int32) u1 else none))))
set_option maxHeartbeats 4000000 in
set_option maxRecDepth 100000 in
theorem kX2_release (hl : l.stackTraces = false) (n : Nat) (i1 : Int32) (st : zS) (hn : fX2_release n i1 st ≠ none) : zM (fun v : Int32 => some (.int v)) l yX2_release wsX2_release rmX2_release D zcl (zty cI cR) 57 ad (sce cI cR ad) (sT ad) 0 0 [.ref (ad 0), .int i1] st (fX2_release n i1 st) := by
  refine z_ofJ (cc := cX2_release) (maxL := 4) (ret := (some .boolean)) (lv := [(0, .ref (ad 0)), (1, .int i1)]) (by decide) rfl (Nat.le_of_ble_eq_true rfl) rfl ?_
  intro p e s m args below meth c C hne hT hr
  obtain ⟨F, hFe⟩ : ∃ F, F = fX2_release n i1 st := ⟨_, rfl⟩
  rw [← hFe] at hn ⊢
  have hF : fX2_release n i1 st = F := hFe.symm
  clear hFe
  unfold fX2_release at hF
  have C : zC p s m args meth c cX2_release RX2 wsX2_release D zcl (zty cI cR) 57 ad 4 := C
  refine j_aload_n C dX2_release_0 rfl 0 rfl ?_
  refine j_iload_n C dX2_release_1 rfl 1 rfl ?_
  refine j_callVi C hne sT_S hT (q0 := 0) (As := [.int i1]) (rest := []) (kX2_isThere hl n i1 st (zb_n hF hn)) (cwV 1 C.1.2.2.2.2 gX2_release_X2_isThere rfl rfl rfl (by decide +kernel) ⟨(Nat.le_of_ble_eq_true rfl), (Nat.le_of_ble_eq_true rfl)⟩) (by decide) sce_0 rfl rfl rfl (Nat.le_of_ble_eq_true rfl) dX2_release_2 ⟨(Nat.le_of_ble_eq_true rfl), (Nat.le_of_ble_eq_true rfl)⟩ (fun _ _ h9 => zb_x hF h9) (Nat.le_of_ble_eq_true rfl) (Nat.le_of_ble_eq_true rfl) (fun v2 u1 h3 => ?_)
  replace hF := zb_l hF h3
  refine j_if_ne (tgt := 10) C dX2_release_5 (by decide) (fun c4 => ?_) (fun c4 => ?_)
  · replace hF := zif_f hF c4
    refine j_aload_n C dX2_release_10 rfl 0 rfl ?_
    refine s_get0 C in_X2_release_wsX20 0 (by decide) (by decide +kernel) 1 rfl dX2_release_11 ?_
    refine j_iload_n C dX2_release_14 rfl 1 rfl ?_
    have b5 := zif_c hF hn
    replace hF := zif_t hF b5
    refine s_aald C b5 dX2_release_15 ?_
    refine j_astore_n (lv' := [(2, .ref (ad (9 + (i1).toNatClampNeg))), (0, .ref (ad 0)), (1, .int i1)]) C dX2_release_16 rfl (by decide) rfl ?_
    refine j_iconst (v := (0 : Int32)) C dX2_release_17 (by decide) ?_
    refine j_istore_n (lv' := [(3, .int (0 : Int32)), (2, .ref (ad (9 + (i1).toNatClampNeg))), (0, .ref (ad 0)), (1, .int i1)]) C dX2_release_18 rfl (by decide) rfl ?_
    refine j_sub [2, 1, 0] rfl ?_
    refine wX2_release_19 C hne hl hT hr hn n ?_ n (9 + (i1).toNatClampNeg) (inb.row b5) (0 : Int32) u1 hF
    · intro r2 hr2 st hF
      refine j_aload_n C dX2_release_40 rfl 0 rfl ?_
      refine j_iconst (v := (0 : Int32)) C dX2_release_41 (by decide) ?_
      refine s_putRt C in_X2_release_wsX10 hr2 (by decide +kernel) rfl rfl dX2_release_42 ?_
      obtain ⟨s13, es13, hF⟩ := zl_e hF
      rw [← es13]
      refine j_iconst (v := (1 : Int32)) C dX2_release_45 (by decide) ?_
      exact j_zret C hr rfl hF (Nat.le_of_ble_eq_true rfl) (Nat.le_of_ble_eq_true rfl) dX2_release_46
  · replace hF := zif_t hF c4
    refine j_iconst (v := (0 : Int32)) C dX2_release_8 (by decide) ?_
    exact j_zret C hr rfl hF (Nat.le_of_ble_eq_true rfl) (Nat.le_of_ble_eq_true rfl) dX2_release_9
end
/-! X2_get -/
def rmX2_get : Room := { frames := 12, cells := 2, slots := 12, locals := 200 }
theorem in_X2_get_wsX10 : ∀ w ∈ wsX10, w ∈ wsX2_get := by decide +kernel
theorem in_X2_get_wsX20 : ∀ w ∈ wsX20, w ∈ wsX2_get := by decide +kernel
section
variable {p : Program} {l : Launch} {e : Env} {s : State} {m : MethodId} {args : Array Value} {below : List Frame} {meth : Method} {c : Code} {D : va_G} {cI cR : ClassId} {ad : Nat → Nat}
def fX2_get (n : Nat) (i1 : Int32) (i2 : Int32) (st : zS) : zF Int32 := (zb (fX2_arrayThere n i1 st) (fun (v2 : Nat) (u1 : zS) => (zb (fX2_checkIndex n v2 i2 u1) (fun (v6 : Unit) (u5 : zS) => (if inb (i2 / (16 : Int32)) (al (v2 + 16)) then (if (u5 (v2 + 16) ((i2 / (16 : Int32))).toNatClampNeg) = ((-1) : Int32) then (if inb (i2 / (16 : Int32)) (al (v2 + 32)) then some (.inl (u5 (v2 + 32) ((i2 / (16 : Int32))).toNatClampNeg), u5) else none) else (zb (fX0_valueAt n (u5 (v2 + 16) ((i2 / (16 : Int32))).toNatClampNeg) (i2 - i2 / (16 : Int32) * (16 : Int32)) u5) (fun (v11 : Int32) (u10 : zS) => some (.inl v11, u10)))) else none)))))
set_option maxHeartbeats 4000000 in
set_option maxRecDepth 100000 in
theorem kX2_get (hl : l.stackTraces = false) (n : Nat) (i1 : Int32) (i2 : Int32) (st : zS) (hn : fX2_get n i1 i2 st ≠ none) : zM (fun v : Int32 => some (.int v)) l yX2_get wsX2_get rmX2_get D zcl (zty cI cR) 57 ad (sce cI cR ad) (sT ad) 2 12 [.ref (ad 0), .int i1, .int i2] st (fX2_get n i1 i2 st) := by
  refine z_ofJ (cc := cX2_get) (maxL := 6) (ret := (some .int)) (lv := [(0, .ref (ad 0)), (1, .int i1), (2, .int i2)]) (by decide) rfl (Nat.le_of_ble_eq_true rfl) rfl ?_
  intro p e s m args below meth c C hne hT hr
  obtain ⟨F, hFe⟩ : ∃ F, F = fX2_get n i1 i2 st := ⟨_, rfl⟩
  rw [← hFe] at hn ⊢
  have hF : fX2_get n i1 i2 st = F := hFe.symm
  clear hFe
  unfold fX2_get at hF
  have C : zC p s m args meth c cX2_get RX2 wsX2_get D zcl (zty cI cR) 57 ad 6 := C
  refine j_aload_n C dX2_get_0 rfl 0 rfl ?_
  refine j_iload_n C dX2_get_1 rfl 1 rfl ?_
  refine j_callVr C hne sT_S hT (q0 := 0) (As := [.int i1]) (rest := []) (kX2_arrayThere hl n i1 st (zb_n hF hn)) (cwV 1 C.1.2.2.2.2 gX2_get_X2_arrayThere rfl rfl rfl (by decide +kernel) ⟨(Nat.le_of_ble_eq_true rfl), (Nat.le_of_ble_eq_true rfl)⟩) (by decide) sce_0 rfl rfl rfl (Nat.le_of_ble_eq_true rfl) dX2_get_2 ⟨(Nat.le_of_ble_eq_true rfl), (Nat.le_of_ble_eq_true rfl)⟩ (fun _ _ h9 => zb_x hF h9) (Nat.le_of_ble_eq_true rfl) (Nat.le_of_ble_eq_true rfl) (fun v2 u1 h3 => ?_)
  replace hF := zb_l hF h3
  have k4 := fX2_arrayThere_row h3
  refine j_astore_n (lv' := [(3, .ref (ad v2)), (0, .ref (ad 0)), (1, .int i1), (2, .int i2)]) C dX2_get_5 rfl (by decide) rfl ?_
  refine j_aload_n C dX2_get_6 rfl 0 rfl ?_
  refine j_iload_n C dX2_get_7 rfl 3 rfl ?_
  refine j_callSv C hne sT_S hT (As := [.ref (ad v2), .int i2]) (rest := []) (kX2_checkIndex hl n v2 k4 i2 u1 (zb_n hF hn)) (va_cwS 2 C.1.2.2.2.2 gX2_get_X2_checkIndex rfl rfl rfl (by decide +kernel) ⟨(Nat.le_of_ble_eq_true rfl), (Nat.le_of_ble_eq_true rfl)⟩) rfl rfl (Nat.le_of_ble_eq_true rfl) dX2_get_8 ⟨(Nat.le_of_ble_eq_true rfl), (Nat.le_of_ble_eq_true rfl)⟩ (fun _ _ h9 => zb_x hF h9) (Nat.le_of_ble_eq_true rfl) (Nat.le_of_ble_eq_true rfl) (fun v6 u5 h7 => ?_)
  replace hF := zb_l hF h7
  refine j_iload_n C dX2_get_11 rfl 3 rfl ?_
  refine j_bipush (v := (16 : Int32)) C dX2_get_12 (by decide) ?_
  refine j_idiv C dX2_get_14 (by decide) ?_
  refine j_istore (lv' := [(4, .int (i2 / (16 : Int32))), (3, .ref (ad v2)), (0, .ref (ad 0)), (1, .int i1), (2, .int i2)]) C dX2_get_15 (by decide) rfl ?_
  refine j_aload_n C dX2_get_17 rfl 1 rfl ?_
  refine s_getR C in_X2_get_wsX10 k4 0 (by decide) (by decide +kernel) rfl dX2_get_18 ?_
  refine j_iload C dX2_get_21 0 rfl ?_
  have b8 := zif_c hF hn
  replace hF := zif_t hF b8
  refine s_iald C (isRow.p k4) b8 dX2_get_23 ?_
  refine j_istore (lv' := [(5, .int (u5 (v2 + 16) ((i2 / (16 : Int32))).toNatClampNeg)), (4, .int (i2 / (16 : Int32))), (3, .ref (ad v2)), (0, .ref (ad 0)), (1, .int i1), (2, .int i2)]) C dX2_get_24 (by decide) rfl ?_
  refine j_iload C dX2_get_26 0 rfl ?_
  refine j_iconst (v := ((-1) : Int32)) C dX2_get_28 (by decide) ?_
  refine j_icmp_ne (tgt := 42) C dX2_get_29 (by decide) (fun c9 => ?_) (fun c9 => ?_)
  · replace hF := zif_f hF c9
    refine j_aload_n C dX2_get_42 rfl 3 rfl ?_
    refine s_get0 C in_X2_get_wsX20 1 (by decide) (by decide +kernel) 2 rfl dX2_get_43 ?_
    refine j_iload C dX2_get_46 0 rfl ?_
    refine j_iload_n C dX2_get_48 rfl 5 rfl ?_
    refine j_bipush (v := (16 : Int32)) C dX2_get_49 (by decide) ?_
    refine j_irem C dX2_get_51 (by decide) ?_
    refine j_callVi C hne sT_S hT (q0 := 2) (As := [.int (u5 (v2 + 16) ((i2 / (16 : Int32))).toNatClampNeg), .int (i2 - i2 / (16 : Int32) * (16 : Int32))]) (rest := []) (kX0_valueAt hl n (u5 (v2 + 16) ((i2 / (16 : Int32))).toNatClampNeg) (i2 - i2 / (16 : Int32) * (16 : Int32)) u5 (zb_n hF hn)) (cwV 2 C.1.2.2.2.2 gX2_get_X0_valueAt rfl rfl rfl (by decide +kernel) ⟨(Nat.le_of_ble_eq_true rfl), (Nat.le_of_ble_eq_true rfl)⟩) (by decide) sce_2 rfl rfl rfl (Nat.le_of_ble_eq_true rfl) dX2_get_52 ⟨(Nat.le_of_ble_eq_true rfl), (Nat.le_of_ble_eq_true rfl)⟩ (fun _ _ h9 => zb_x hF h9) (Nat.le_of_ble_eq_true rfl) (Nat.le_of_ble_eq_true rfl) (fun v11 u10 h12 => ?_)
    replace hF := zb_l hF h12
    exact j_iret C hr hF (Nat.le_of_ble_eq_true rfl) (Nat.le_of_ble_eq_true rfl) dX2_get_55
  · replace hF := zif_t hF c9
    refine j_aload_n C dX2_get_32 rfl 2 rfl ?_
    refine s_getR C in_X2_get_wsX10 k4 1 (by decide) (by decide +kernel) rfl dX2_get_33 ?_
    refine j_iload C dX2_get_36 1 rfl ?_
    have b13 := zif_c hF hn
    replace hF := zif_t hF b13
    refine s_iald C (isRow.n k4) b13 dX2_get_38 ?_
    refine j_goto (tgt := 55) C dX2_get_39 (by decide) ?_
    exact j_iret C hr hF (Nat.le_of_ble_eq_true rfl) (Nat.le_of_ble_eq_true rfl) dX2_get_55
end
/-! X2_set -/
def rmX2_set : Room := { frames := 16, cells := 3, slots := 18, locals := 360 }
section
variable {p : Program} {l : Launch} {e : Env} {s : State} {m : MethodId} {args : Array Value} {below : List Frame} {meth : Method} {c : Code} {D : va_G} {cI cR : ClassId} {ad : Nat → Nat}
def fX2_set (n : Nat) (i1 : Int32) (i2 : Int32) (i3 : Int32) (st : zS) : zF Unit := (zb (fX2_arrayThere n i1 st) (fun (v2 : Nat) (u1 : zS) => (zb (fX2_checkIndex n v2 i2 u1) (fun (v6 : Unit) (u5 : zS) => (zb (fX2_fillValues n v2 i2 (i2 + (1 : Int32)) i3 u5) (fun (v9 : Unit) (u8 : zS) => some (.inl (), u8)))))))
set_option maxHeartbeats 4000000 in
set_option maxRecDepth 100000 in
theorem kX2_set (hl : l.stackTraces = false) (n : Nat) (i1 : Int32) (i2 : Int32) (i3 : Int32) (st : zS) (hn : fX2_set n i1 i2 i3 st ≠ none) : zM (fun _ : Unit => none) l yX2_set wsX2_set rmX2_set D zcl (zty cI cR) 57 ad (sce cI cR ad) (sT ad) 3 18 [.ref (ad 0), .int i1, .int i2, .int i3] st (fX2_set n i1 i2 i3 st) := by
  refine z_ofJ (cc := cX2_set) (maxL := 5) (ret := none) (lv := [(0, .ref (ad 0)), (1, .int i1), (2, .int i2), (3, .int i3)]) (by decide) rfl (Nat.le_of_ble_eq_true rfl) rfl ?_
  intro p e s m args below meth c C hne hT hr
  obtain ⟨F, hFe⟩ : ∃ F, F = fX2_set n i1 i2 i3 st := ⟨_, rfl⟩
  rw [← hFe] at hn ⊢
  have hF : fX2_set n i1 i2 i3 st = F := hFe.symm
  clear hFe
  unfold fX2_set at hF
  have C : zC p s m args meth c cX2_set RX2 wsX2_set D zcl (zty cI cR) 57 ad 5 := C
  refine j_aload_n C dX2_set_0 rfl 0 rfl ?_
  refine j_iload_n C dX2_set_1 rfl 1 rfl ?_
  refine j_callVr C hne sT_S hT (q0 := 0) (As := [.int i1]) (rest := []) (kX2_arrayThere hl n i1 st (zb_n hF hn)) (cwV 1 C.1.2.2.2.2 gX2_set_X2_arrayThere rfl rfl rfl (by decide +kernel) ⟨(Nat.le_of_ble_eq_true rfl), (Nat.le_of_ble_eq_true rfl)⟩) (by decide) sce_0 rfl rfl rfl (Nat.le_of_ble_eq_true rfl) dX2_set_2 ⟨(Nat.le_of_ble_eq_true rfl), (Nat.le_of_ble_eq_true rfl)⟩ (fun _ _ h9 => zb_x hF h9) (Nat.le_of_ble_eq_true rfl) (Nat.le_of_ble_eq_true rfl) (fun v2 u1 h3 => ?_)
  replace hF := zb_l hF h3
  have k4 := fX2_arrayThere_row h3
  refine j_astore (lv' := [(4, .ref (ad v2)), (0, .ref (ad 0)), (1, .int i1), (2, .int i2), (3, .int i3)]) C dX2_set_5 (by decide) rfl ?_
  refine j_aload C dX2_set_7 0 rfl ?_
  refine j_iload_n C dX2_set_9 rfl 3 rfl ?_
  refine j_callSv C hne sT_S hT (As := [.ref (ad v2), .int i2]) (rest := []) (kX2_checkIndex hl n v2 k4 i2 u1 (zb_n hF hn)) (va_cwS 2 C.1.2.2.2.2 gX2_set_X2_checkIndex rfl rfl rfl (by decide +kernel) ⟨(Nat.le_of_ble_eq_true rfl), (Nat.le_of_ble_eq_true rfl)⟩) rfl rfl (Nat.le_of_ble_eq_true rfl) dX2_set_10 ⟨(Nat.le_of_ble_eq_true rfl), (Nat.le_of_ble_eq_true rfl)⟩ (fun _ _ h9 => zb_x hF h9) (Nat.le_of_ble_eq_true rfl) (Nat.le_of_ble_eq_true rfl) (fun v6 u5 h7 => ?_)
  replace hF := zb_l hF h7
  refine j_aload_n C dX2_set_13 rfl 1 rfl ?_
  refine j_aload C dX2_set_14 0 rfl ?_
  refine j_iload_n C dX2_set_16 rfl 3 rfl ?_
  refine j_iload_n C dX2_set_17 rfl 3 rfl ?_
  refine j_iconst (v := (1 : Int32)) C dX2_set_18 (by decide) ?_
  refine j_iadd C dX2_set_19 ?_
  refine j_iload_n C dX2_set_20 rfl 4 rfl ?_
  refine j_callVv C hne sT_S hT (q0 := 0) (As := [.ref (ad v2), .int i2, .int (i2 + (1 : Int32)), .int i3]) (rest := []) (kX2_fillValues hl n v2 k4 i2 (i2 + (1 : Int32)) i3 u5 (zb_n hF hn)) (cwV 4 C.1.2.2.2.2 gX2_set_X2_fillValues rfl rfl rfl (by decide +kernel) ⟨(Nat.le_of_ble_eq_true rfl), (Nat.le_of_ble_eq_true rfl)⟩) (by decide) sce_0 rfl rfl rfl (Nat.le_of_ble_eq_true rfl) dX2_set_21 ⟨(Nat.le_of_ble_eq_true rfl), (Nat.le_of_ble_eq_true rfl)⟩ (fun _ _ h9 => zb_x hF h9) (Nat.le_of_ble_eq_true rfl) (Nat.le_of_ble_eq_true rfl) (fun v9 u8 h10 => ?_)
  replace hF := zb_l hF h10
  exact j_vret C hr hF (Nat.le_of_ble_eq_true rfl) (Nat.le_of_ble_eq_true rfl) dX2_set_24
end
