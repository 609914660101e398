/-! X2_planFor -/
def rmX2_planFor : Room := { frames := 12, cells := 0, slots := 0, locals := 200 }
theorem in_X2_planFor_wsX10 : ∀ w ∈ wsX10, w ∈ wsX2_planFor := by decide +kernel
theorem in_X2_planFor_wsX20 : ∀ w ∈ wsX20, w ∈ wsX2_planFor := by decide +kernel
section
variable {p : Program} {l : Launch} {e : Env} {s : State} {m : MethodId} {args : Array Value} {below : List Frame} {meth : Method} {c : Code} {D : va_G} {cI cR : ClassId} {ad : Nat → Nat}
def fX2_planFor (n : Nat) (r1 : Nat) (i2 : Int32) (st : zS) : zF Int32 := (zb (fX2_isLeafAsInNext n r1 i2 st) (fun (v2 : Int32) (u1 : zS) => (if v2 = 0 then (zb (fX2_isOneNumberInNext n i2 (u1 r1 3) u1) (fun (v6 : Int32) (u5 : zS) => (if v6 = 0 then (if inb i2 (al (r1 + 16)) then (if (u5 (r1 + 16) (i2).toNatClampNeg) = ((-1) : Int32) then (if (0 : Int32) = 0 then some (.inl (3 : Int32), u5) else some (.inl (2 : Int32), u5)) else (zb (fX0_isShared n (u5 (r1 + 16) (i2).toNatClampNeg) u5) (fun (v13 : Int32) (u12 : zS) => (if v13 = 0 then (if (1 : Int32) = 0 then some (.inl (3 : Int32), u12) else some (.inl (2 : Int32), u12)) else (if (0 : Int32) = 0 then some (.inl (3 : Int32), u12) else some (.inl (2 : Int32), u12)))))) else none) else some (.inl (1 : Int32), u5)))) else some (.inl (0 : Int32), u1))))
set_option maxHeartbeats 4000000 in
set_option maxRecDepth 100000 in
theorem kX2_planFor (hl : l.stackTraces = false) (n : Nat) (r1 : Nat) (hr1 : isRow r1) (i2 : Int32) (st : zS) (hn : fX2_planFor n r1 i2 st ≠ none) : zM (fun v : Int32 => some (.int v)) l yX2_planFor wsX2_planFor rmX2_planFor D zcl (zty cI cR) 57 ad (sce cI cR ad) (sT ad) 0 0 [.ref (ad 0), .ref (ad r1), .int i2] st (fX2_planFor n r1 i2 st) := by
  refine z_ofJ (cc := cX2_planFor) (maxL := 5) (ret := (some .int)) (lv := [(0, .ref (ad 0)), (1, .ref (ad r1)), (2, .int i2)]) (by decide) rfl (Nat.le_of_ble_eq_true rfl) rfl ?_
  intro p e s m args below meth c C hne hT hr
  obtain ⟨F, hFe⟩ : ∃ F, F = fX2_planFor n r1 i2 st := ⟨_, rfl⟩
  rw [← hFe] at hn ⊢
  have hF : fX2_planFor n r1 i2 st = F := hFe.symm
  clear hFe
  unfold fX2_planFor at hF
  have C : zC p s m args meth c cX2_planFor RX2 wsX2_planFor D zcl (zty cI cR) 57 ad 5 := C
  refine j_aload_n C dX2_planFor_0 rfl 0 rfl ?_
  refine j_aload_n C dX2_planFor_1 rfl 1 rfl ?_
  refine j_iload_n C dX2_planFor_2 rfl 2 rfl ?_
  refine j_callVi C hne sT_S hT (q0 := 0) (As := [.ref (ad r1), .int i2]) (rest := []) (kX2_isLeafAsInNext hl n r1 hr1 i2 st (zb_n hF hn)) (cwV 2 C.1.2.2.2.2 gX2_planFor_X2_isLeafAsInNext rfl rfl rfl (by decide +kernel) ⟨(Nat.le_of_ble_eq_true rfl), (Nat.le_of_ble_eq_true rfl)⟩) (by decide) sce_0 rfl rfl rfl (Nat.le_of_ble_eq_true rfl) dX2_planFor_3 ⟨(Nat.le_of_ble_eq_true rfl), (Nat.le_of_ble_eq_true rfl)⟩ (fun _ _ h9 => zb_x hF h9) (Nat.le_of_ble_eq_true rfl) (Nat.le_of_ble_eq_true rfl) (fun v2 u1 h3 => ?_)
  replace hF := zb_l hF h3
  refine j_if_eq (tgt := 11) C dX2_planFor_6 (by decide) (fun c4 => ?_) (fun c4 => ?_)
  · replace hF := zif_t hF c4
    refine j_aload_n C dX2_planFor_11 rfl 0 rfl ?_
    refine j_iload_n C dX2_planFor_12 rfl 2 rfl ?_
    refine j_aload_n C dX2_planFor_13 rfl 1 rfl ?_
    refine s_getR C in_X2_planFor_wsX10 hr1 3 (by decide) (by decide +kernel) rfl dX2_planFor_14 ?_
    refine j_callVi C hne sT_S hT (q0 := 0) (As := [.int i2, .int (u1 r1 3)]) (rest := []) (kX2_isOneNumberInNext hl n i2 (u1 r1 3) u1 (zb_n hF hn)) (cwV 2 C.1.2.2.2.2 gX2_planFor_X2_isOneNumberInNext rfl rfl rfl (by decide +kernel) ⟨(Nat.le_of_ble_eq_true rfl), (Nat.le_of_ble_eq_true rfl)⟩) (by decide) sce_0 rfl rfl rfl (Nat.le_of_ble_eq_true rfl) dX2_planFor_17 ⟨(Nat.le_of_ble_eq_true rfl), (Nat.le_of_ble_eq_true rfl)⟩ (fun _ _ h9 => zb_x hF h9) (Nat.le_of_ble_eq_true rfl) (Nat.le_of_ble_eq_true rfl) (fun v6 u5 h7 => ?_)
    replace hF := zb_l hF h7
    refine j_if_eq (tgt := 25) C dX2_planFor_20 (by decide) (fun c8 => ?_) (fun c8 => ?_)
    · replace hF := zif_t hF c8
      refine j_aload_n C dX2_planFor_25 rfl 1 rfl ?_
      refine s_getR C in_X2_planFor_wsX10 hr1 0 (by decide) (by decide +kernel) rfl dX2_planFor_26 ?_
      refine j_iload_n C dX2_planFor_29 rfl 2 rfl ?_
      have b9 := zif_c hF hn
      replace hF := zif_t hF b9
      refine s_iald C (isRow.p hr1) b9 dX2_planFor_30 ?_
      refine j_istore_n (lv' := [(3, .int (u5 (r1 + 16) (i2).toNatClampNeg)), (0, .ref (ad 0)), (1, .ref (ad r1)), (2, .int i2)]) C dX2_planFor_31 rfl (by decide) rfl ?_
      refine j_iload_n C dX2_planFor_32 rfl 0 rfl ?_
      refine j_iconst (v := ((-1) : Int32)) C dX2_planFor_33 (by decide) ?_
      refine j_icmp_eq (tgt := 52) C dX2_planFor_34 (by decide) (fun c10 => ?_) (fun c10 => ?_)
      · replace hF := zif_t hF c10
        refine j_iconst (v := (0 : Int32)) C dX2_planFor_52 (by decide) ?_
        refine j_istore (lv' := [(4, .int (0 : Int32)), (3, .int (u5 (r1 + 16) (i2).toNatClampNeg)), (0, .ref (ad 0)), (1, .ref (ad r1)), (2, .int i2)]) C dX2_planFor_53 (by decide) rfl ?_
        refine j_iload C dX2_planFor_55 0 rfl ?_
        refine j_if_eq (tgt := 64) C dX2_planFor_57 (by decide) (fun c11 => ?_) (fun c11 => ?_)
        · replace hF := zif_t hF c11
          refine j_iconst (v := (3 : Int32)) C dX2_planFor_64 (by decide) ?_
          exact j_iret C hr hF (Nat.le_of_ble_eq_true rfl) (Nat.le_of_ble_eq_true rfl) dX2_planFor_65
        · replace hF := zif_f hF c11
          refine j_iconst (v := (2 : Int32)) C dX2_planFor_60 (by decide) ?_
          refine j_goto (tgt := 65) C dX2_planFor_61 (by decide) ?_
          exact j_iret C hr hF (Nat.le_of_ble_eq_true rfl) (Nat.le_of_ble_eq_true rfl) dX2_planFor_65
      · replace hF := zif_f hF c10
        refine j_aload_n C dX2_planFor_37 rfl 1 rfl ?_
        refine s_get0 C in_X2_planFor_wsX20 1 (by decide) (by decide +kernel) 2 rfl dX2_planFor_38 ?_
        refine j_iload_n C dX2_planFor_41 rfl 0 rfl ?_
        refine j_callVi C hne sT_S hT (q0 := 2) (As := [.int (u5 (r1 + 16) (i2).toNatClampNeg)]) (rest := []) (kX0_isShared hl n (u5 (r1 + 16) (i2).toNatClampNeg) u5 (zb_n hF hn)) (cwV 1 C.1.2.2.2.2 gX2_planFor_X0_isShared rfl rfl rfl (by decide +kernel) ⟨(Nat.le_of_ble_eq_true rfl), (Nat.le_of_ble_eq_true rfl)⟩) (by decide) sce_2 rfl rfl rfl (Nat.le_of_ble_eq_true rfl) dX2_planFor_42 ⟨(Nat.le_of_ble_eq_true rfl), (Nat.le_of_ble_eq_true rfl)⟩ (fun _ _ h9 => zb_x hF h9) (Nat.le_of_ble_eq_true rfl) (Nat.le_of_ble_eq_true rfl) (fun v13 u12 h14 => ?_)
        replace hF := zb_l hF h14
        refine j_if_ne (tgt := 52) C dX2_planFor_45 (by decide) (fun c15 => ?_) (fun c15 => ?_)
        · replace hF := zif_f hF c15
          refine j_iconst (v := (0 : Int32)) C dX2_planFor_52 (by decide) ?_
          refine j_istore (lv' := [(4, .int (0 : Int32)), (3, .int (u5 (r1 + 16) (i2).toNatClampNeg)), (0, .ref (ad 0)), (1, .ref (ad r1)), (2, .int i2)]) C dX2_planFor_53 (by decide) rfl ?_
          refine j_iload C dX2_planFor_55 0 rfl ?_
          refine j_if_eq (tgt := 64) C dX2_planFor_57 (by decide) (fun c16 => ?_) (fun c16 => ?_)
          · replace hF := zif_t hF c16
            refine j_iconst (v := (3 : Int32)) C dX2_planFor_64 (by decide) ?_
            exact j_iret C hr hF (Nat.le_of_ble_eq_true rfl) (Nat.le_of_ble_eq_true rfl) dX2_planFor_65
          · replace hF := zif_f hF c16
            refine j_iconst (v := (2 : Int32)) C dX2_planFor_60 (by decide) ?_
            refine j_goto (tgt := 65) C dX2_planFor_61 (by decide) ?_
            exact j_iret C hr hF (Nat.le_of_ble_eq_true rfl) (Nat.le_of_ble_eq_true rfl) dX2_planFor_65
        · replace hF := zif_t hF c15
          refine j_iconst (v := (1 : Int32)) C dX2_planFor_48 (by decide) ?_
          refine j_goto (tgt := 53) C dX2_planFor_49 (by decide) ?_
          refine j_istore (lv' := [(4, .int (1 : Int32)), (3, .int (u5 (r1 + 16) (i2).toNatClampNeg)), (0, .ref (ad 0)), (1, .ref (ad r1)), (2, .int i2)]) C dX2_planFor_53 (by decide) rfl ?_
          refine j_iload C dX2_planFor_55 0 rfl ?_
          refine j_if_eq (tgt := 64) C dX2_planFor_57 (by decide) (fun c17 => ?_) (fun c17 => ?_)
          · replace hF := zif_t hF c17
            refine j_iconst (v := (3 : Int32)) C dX2_planFor_64 (by decide) ?_
            exact j_iret C hr hF (Nat.le_of_ble_eq_true rfl) (Nat.le_of_ble_eq_true rfl) dX2_planFor_65
          · replace hF := zif_f hF c17
            refine j_iconst (v := (2 : Int32)) C dX2_planFor_60 (by decide) ?_
            refine j_goto (tgt := 65) C dX2_planFor_61 (by decide) ?_
            exact j_iret C hr hF (Nat.le_of_ble_eq_true rfl) (Nat.le_of_ble_eq_true rfl) dX2_planFor_65
    · replace hF := zif_f hF c8
      refine j_iconst (v := (1 : Int32)) C dX2_planFor_23 (by decide) ?_
      exact j_iret C hr hF (Nat.le_of_ble_eq_true rfl) (Nat.le_of_ble_eq_true rfl) dX2_planFor_24
  · replace hF := zif_f hF c4
    refine j_iconst (v := (0 : Int32)) C dX2_planFor_9 (by decide) ?_
    exact j_iret C hr hF (Nat.le_of_ble_eq_true rfl) (Nat.le_of_ble_eq_true rfl) dX2_planFor_10
end
/-! X2_carryOut -/
def rmX2_carryOut : Room := { frames := 13, cells := 0, slots := 0, locals := 240 }
theorem in_X2_carryOut_wsX10 : ∀ w ∈ wsX10, w ∈ wsX2_carryOut := by decide +kernel
theorem in_X2_carryOut_wsX20 : ∀ w ∈ wsX20, w ∈ wsX2_carryOut := by decide +kernel
section
variable {p : Program} {l : Launch} {e : Env} {s : State} {m : MethodId} {args : Array Value} {below : List Frame} {meth : Method} {c : Code} {D : va_G} {cI cR : ClassId} {ad : Nat → Nat}
def fX2_carryOut (n : Nat) (i1 : Int32) (r2 : Nat) (i3 : Int32) (st : zS) : zF Unit := (if i1 = (1 : Int32) then (if inb (i3 * (16 : Int32)) (al 6) then (zb (fX2_setConstant n r2 i3 (st 6 ((i3 * (16 : Int32))).toNatClampNeg) st) (fun (v16 : Unit) (u15 : zS) => some (.inl (), u15))) else none) else (if i1 = (2 : Int32) then (if inb i3 (al (r2 + 16)) then (zb (fX1_valuesIn n r2 i3 st) (fun (v9 : Int32) (u8 : zS) => (zb (fX0_write n (st (r2 + 16) (i3).toNatClampNeg) 6 (i3 * (16 : Int32)) v9 u8) (fun (v12 : Unit) (u11 : zS) => some (.inl (), u11))))) else none) else (if i1 = (3 : Int32) then (zb (fX2_setOwn n r2 i3 st) (fun (v5 : Unit) (u4 : zS) => some (.inl (), u4))) else some (.inl (), st))))
set_option maxHeartbeats 4000000 in
set_option maxRecDepth 100000 in
theorem kX2_carryOut (hl : l.stackTraces = false) (n : Nat) (i1 : Int32) (r2 : Nat) (hr2 : isRow r2) (i3 : Int32) (st : zS) (hn : fX2_carryOut n i1 r2 i3 st ≠ none) : zM (fun _ : Unit => none) l yX2_carryOut wsX2_carryOut rmX2_carryOut D zcl (zty cI cR) 57 ad (sce cI cR ad) (sT ad) 0 0 [.ref (ad 0), .int i1, .ref (ad r2), .int i3] st (fX2_carryOut n i1 r2 i3 st) := by
  refine z_ofJ (cc := cX2_carryOut) (maxL := 4) (ret := none) (lv := [(0, .ref (ad 0)), (1, .int i1), (2, .ref (ad r2)), (3, .int i3)]) (by decide) rfl (Nat.le_of_ble_eq_true rfl) rfl ?_
  intro p e s m args below meth c C hne hT hr
  obtain ⟨F, hFe⟩ : ∃ F, F = fX2_carryOut n i1 r2 i3 st := ⟨_, rfl⟩
  rw [← hFe] at hn ⊢
  have hF : fX2_carryOut n i1 r2 i3 st = F := hFe.symm
  clear hFe
  unfold fX2_carryOut at hF
  have C : zC p s m args meth c cX2_carryOut RX2 wsX2_carryOut D zcl (zty cI cR) 57 ad 4 := C
  refine j_iload_n C dX2_carryOut_0 rfl 1 rfl ?_
  refine j_iconst (v := (1 : Int32)) C dX2_carryOut_1 (by decide) ?_
  refine j_icmp_ne (tgt := 23) C dX2_carryOut_2 (by decide) (fun c1 => ?_) (fun c1 => ?_)
  · replace hF := zif_f hF c1
    refine j_iload_n C dX2_carryOut_23 rfl 1 rfl ?_
    refine j_iconst (v := (2 : Int32)) C dX2_carryOut_24 (by decide) ?_
    refine j_icmp_ne (tgt := 57) C dX2_carryOut_25 (by decide) (fun c2 => ?_) (fun c2 => ?_)
    · replace hF := zif_f hF c2
      refine j_iload_n C dX2_carryOut_57 rfl 1 rfl ?_
      refine j_iconst (v := (3 : Int32)) C dX2_carryOut_58 (by decide) ?_
      refine j_icmp_ne (tgt := 68) C dX2_carryOut_59 (by decide) (fun c3 => ?_) (fun c3 => ?_)
      · replace hF := zif_f hF c3
        exact j_vret C hr hF (Nat.le_of_ble_eq_true rfl) (Nat.le_of_ble_eq_true rfl) dX2_carryOut_68
      · replace hF := zif_t hF c3
        refine j_aload_n C dX2_carryOut_62 rfl 0 rfl ?_
        refine j_aload_n C dX2_carryOut_63 rfl 2 rfl ?_
        refine j_iload_n C dX2_carryOut_64 rfl 3 rfl ?_
        refine j_callVv C hne sT_S hT (q0 := 0) (As := [.ref (ad r2), .int i3]) (rest := []) (kX2_setOwn hl n r2 hr2 i3 st (zb_n hF hn)) (cwV 2 C.1.2.2.2.2 gX2_carryOut_X2_setOwn rfl rfl rfl (by decide +kernel) ⟨(Nat.le_of_ble_eq_true rfl), (Nat.le_of_ble_eq_true rfl)⟩) (by decide) sce_0 rfl rfl rfl (Nat.le_of_ble_eq_true rfl) dX2_carryOut_65 ⟨(Nat.le_of_ble_eq_true rfl), (Nat.le_of_ble_eq_true rfl)⟩ (fun _ _ h9 => zb_x hF h9) (Nat.le_of_ble_eq_true rfl) (Nat.le_of_ble_eq_true rfl) (fun v5 u4 h6 => ?_)
        replace hF := zb_l hF h6
        exact j_vret C hr hF (Nat.le_of_ble_eq_true rfl) (Nat.le_of_ble_eq_true rfl) dX2_carryOut_68
    · replace hF := zif_t hF c2
      refine j_aload_n C dX2_carryOut_28 rfl 0 rfl ?_
      refine s_get0 C in_X2_carryOut_wsX20 1 (by decide) (by decide +kernel) 2 rfl dX2_carryOut_29 ?_
      refine j_aload_n C dX2_carryOut_32 rfl 2 rfl ?_
      refine s_getR C in_X2_carryOut_wsX10 hr2 0 (by decide) (by decide +kernel) rfl dX2_carryOut_33 ?_
      refine j_iload_n C dX2_carryOut_36 rfl 3 rfl ?_
      have b7 := zif_c hF hn
      replace hF := zif_t hF b7
      refine s_iald C (isRow.p hr2) b7 dX2_carryOut_37 ?_
      refine j_aload_n C dX2_carryOut_38 rfl 0 rfl ?_
      refine s_get0 C in_X2_carryOut_wsX20 2 (by decide) (by decide +kernel) 6 rfl dX2_carryOut_39 ?_
      refine j_iload_n C dX2_carryOut_42 rfl 3 rfl ?_
      refine j_bipush (v := (16 : Int32)) C dX2_carryOut_43 (by decide) ?_
      refine j_imul C dX2_carryOut_45 ?_
      refine j_aload_n C dX2_carryOut_46 rfl 2 rfl ?_
      refine j_iload_n C dX2_carryOut_47 rfl 3 rfl ?_
      refine j_callVi C hne sT_S hT (q0 := r2) (As := [.int i3]) (rest := [.int (i3 * (16 : Int32)), .ref (ad 6), .int (st (r2 + 16) (i3).toNatClampNeg), .ref (ad 2)]) (kX1_valuesIn hl n r2 hr2 i3 st (zb_n hF hn)) (cwV 1 C.1.2.2.2.2 gX2_carryOut_X1_valuesIn rfl rfl rfl (by decide +kernel) ⟨(Nat.le_of_ble_eq_true rfl), (Nat.le_of_ble_eq_true rfl)⟩) (isRow.lt hr2) (sce_row hr2) rfl rfl rfl (Nat.le_of_ble_eq_true rfl) dX2_carryOut_48 ⟨(Nat.le_of_ble_eq_true rfl), (Nat.le_of_ble_eq_true rfl)⟩ (fun _ _ h9 => zb_x hF h9) (Nat.le_of_ble_eq_true rfl) (Nat.le_of_ble_eq_true rfl) (fun v9 u8 h10 => ?_)
      replace hF := zb_l hF h10
      refine j_callVv C hne sT_S hT (q0 := 2) (As := [.int (st (r2 + 16) (i3).toNatClampNeg), .ref (ad 6), .int (i3 * (16 : Int32)), .int v9]) (rest := []) (kX0_write hl n (st (r2 + 16) (i3).toNatClampNeg) 6 (by decide) (i3 * (16 : Int32)) v9 u8 (zb_n hF hn)) (cwV 4 C.1.2.2.2.2 gX2_carryOut_X0_write rfl rfl rfl (by decide +kernel) ⟨(Nat.le_of_ble_eq_true rfl), (Nat.le_of_ble_eq_true rfl)⟩) (by decide) sce_2 rfl rfl rfl (Nat.le_of_ble_eq_true rfl) dX2_carryOut_51 ⟨(Nat.le_of_ble_eq_true rfl), (Nat.le_of_ble_eq_true rfl)⟩ (fun _ _ h9 => zb_x hF h9) (Nat.le_of_ble_eq_true rfl) (Nat.le_of_ble_eq_true rfl) (fun v12 u11 h13 => ?_)
      replace hF := zb_l hF h13
      refine j_goto (tgt := 68) C dX2_carryOut_54 (by decide) ?_
      exact j_vret C hr hF (Nat.le_of_ble_eq_true rfl) (Nat.le_of_ble_eq_true rfl) dX2_carryOut_68
  · replace hF := zif_t hF c1
    refine j_aload_n C dX2_carryOut_5 rfl 0 rfl ?_
    refine j_aload_n C dX2_carryOut_6 rfl 2 rfl ?_
    refine j_iload_n C dX2_carryOut_7 rfl 3 rfl ?_
    refine j_aload_n C dX2_carryOut_8 rfl 0 rfl ?_
    refine s_get0 C in_X2_carryOut_wsX20 2 (by decide) (by decide +kernel) 6 rfl dX2_carryOut_9 ?_
    refine j_iload_n C dX2_carryOut_12 rfl 3 rfl ?_
    refine j_bipush (v := (16 : Int32)) C dX2_carryOut_13 (by decide) ?_
    refine j_imul C dX2_carryOut_15 ?_
    have b14 := zif_c hF hn
    replace hF := zif_t hF b14
    refine s_iald C (by decide) b14 dX2_carryOut_16 ?_
    refine j_callVv C hne sT_S hT (q0 := 0) (As := [.ref (ad r2), .int i3, .int (st 6 ((i3 * (16 : Int32))).toNatClampNeg)]) (rest := []) (kX2_setConstant hl n r2 hr2 i3 (st 6 ((i3 * (16 : Int32))).toNatClampNeg) st (zb_n hF hn)) (cwV 3 C.1.2.2.2.2 gX2_carryOut_X2_setConstant rfl rfl rfl (by decide +kernel) ⟨(Nat.le_of_ble_eq_true rfl), (Nat.le_of_ble_eq_true rfl)⟩) (by decide) sce_0 rfl rfl rfl (Nat.le_of_ble_eq_true rfl) dX2_carryOut_17 ⟨(Nat.le_of_ble_eq_true rfl), (Nat.le_of_ble_eq_true rfl)⟩ (fun _ _ h9 => zb_x hF h9) (Nat.le_of_ble_eq_true rfl) (Nat.le_of_ble_eq_true rfl) (fun v16 u15 h17 => ?_)
    replace hF := zb_l hF h17
    refine j_goto (tgt := 68) C dX2_carryOut_20 (by decide) ?_
    exact j_vret C hr hF (Nat.le_of_ble_eq_true rfl) (Nat.le_of_ble_eq_true rfl) dX2_carryOut_68
end
/-! X2_changeLeaves -/
def rmX2_changeLeaves : Room := { frames := 14, cells := 1, slots := 6, locals := 280 }
theorem in_X2_changeLeaves_wsX20 : ∀ w ∈ wsX20, w ∈ wsX2_changeLeaves := by decide +kernel
section
variable {p : Program} {l : Launch} {e : Env} {s : State} {m : MethodId} {args : Array Value} {below : List Frame} {meth : Method} {c : Code} {D : va_G} {cI cR : ClassId} {ad : Nat → Nat}
def fX2_changeLeaves_6 (n : Nat) (X_46 : Nat → Int32 → Int32 → Int32 → zS → zF Unit) : Nat → Nat → Int32 → Int32 → Int32 → Int32 → zS → zF Unit
  | 0, _, _, _, _, _, _ => none
  | k + 1, r1, i2, i3, i4, i5, st => (if i3 ≤ i5 then X_46 r1 i2 i3 i4 st else (zb (fX2_planFor n r1 i5 st) (fun (v3 : Int32) (u2 : zS) => (if inb i5 (al 8) then (zl (upA u2 8 (upd (u2 8) (i5).toNatClampNeg v3)) (fun (s6 : zS) => (if inb i5 (al 8) then (if (s6 8 (i5).toNatClampNeg) = (3 : Int32) then fX2_changeLeaves_6 n X_46 k r1 i2 i3 (i4 + (1 : Int32)) (i5 + (1 : Int32)) s6 else fX2_changeLeaves_6 n X_46 k r1 i2 i3 i4 (i5 + (1 : Int32)) s6) else none))) else none))))
set_option maxHeartbeats 4000000 in
set_option maxRecDepth 100000 in
theorem wX2_changeLeaves_6 (C : zC p s m args meth c cX2_changeLeaves RX2 wsX2_changeLeaves D zcl (zty cI cR) 57 ad 6) (hne : ∀ x ∈ c.exceptionTable.toList, False) (hl : l.stackTraces = false) (hT : (sT ad) s.heap.size s) (hr : meth.sig.returnType = none) {F : zF Unit} (hn : F ≠ none) (n : Nat) {X_46 : Nat → Int32 → Int32 → Int32 → zS → zF Unit} (hX_46 : ∀ (r1 : Nat) (hr1 : isRow r1) (i2 : Int32) (i3 : Int32) (i4 : Int32) (st : zS), X_46 r1 i2 i3 i4 st = F → sJ (fun _ : Unit => none) F 1 6 p l e rmX2_changeLeaves s m args below meth c D cI cR ad 6 st 0 0 46 [(0, .ref (ad 0)), (1, .ref (ad r1)), (2, .int i2), (3, .int i3), (4, .int i4)] []) : ∀ (k : Nat) (r1 : Nat) (hr1 : isRow r1) (i2 : Int32) (i3 : Int32) (i4 : Int32) (i5 : Int32) (st : zS), fX2_changeLeaves_6 n X_46 k r1 i2 i3 i4 i5 st = F → sJ (fun _ : Unit => none) F 1 6 p l e rmX2_changeLeaves s m args below meth c D cI cR ad 6 st 0 0 6 [(0, .ref (ad 0)), (1, .ref (ad r1)), (2, .int i2), (3, .int i3), (4, .int i4), (5, .int i5)] [] := by
  intro k
  induction k with
  | zero =>
    intro r1 hr1 i2 i3 i4 i5 st hF
    exact absurd hF.symm hn
  | succ k ih =>
    intro r1 hr1 i2 i3 i4 i5 st hF
    rw [fX2_changeLeaves_6] at hF
    refine j_iload C dX2_changeLeaves_6 5 rfl ?_
    refine j_iload_n C dX2_changeLeaves_8 rfl 3 rfl ?_
    refine j_icmp_ge (tgt := 46) C dX2_changeLeaves_9 (by decide) (fun c1 => ?_) (fun c1 => ?_)
    · replace hF := zif_t hF c1
      refine j_sub [0, 1, 2, 3, 4] rfl ?_
      exact hX_46 r1 hr1 i2 i3 i4 st hF
    · replace hF := zif_f hF c1
      refine j_aload_n C dX2_changeLeaves_12 rfl 0 rfl ?_
      refine s_get0 C in_X2_changeLeaves_wsX20 4 (by decide) (by decide +kernel) 8 rfl dX2_changeLeaves_13 ?_
      refine j_iload C dX2_changeLeaves_16 5 rfl ?_
      refine j_aload_n C dX2_changeLeaves_18 rfl 0 rfl ?_
      refine j_aload_n C dX2_changeLeaves_19 rfl 1 rfl ?_
      refine j_iload C dX2_changeLeaves_20 5 rfl ?_
      refine j_callVi C hne sT_S hT (q0 := 0) (As := [.ref (ad r1), .int i5]) (rest := [.int i5, .ref (ad 8)]) (kX2_planFor hl n r1 hr1 i5 st (zb_n hF hn)) (cwV 2 C.1.2.2.2.2 gX2_changeLeaves_X2_planFor rfl rfl rfl (by decide +kernel) ⟨(Nat.le_of_ble_eq_true rfl), (Nat.le_of_ble_eq_true rfl)⟩) (by decide) sce_0 rfl rfl rfl (Nat.le_of_ble_eq_true rfl) dX2_changeLeaves_22 ⟨(Nat.le_of_ble_eq_true rfl), (Nat.le_of_ble_eq_true rfl)⟩ (fun _ _ h9 => zb_x hF h9) (Nat.le_of_ble_eq_true rfl) (Nat.le_of_ble_eq_true rfl) (fun v3 u2 h4 => ?_)
      replace hF := zb_l hF h4
      have b5 := zif_c hF hn
      replace hF := zif_t hF b5
      refine s_iast C (by decide) b5 dX2_changeLeaves_25 ?_
      obtain ⟨s6, es6, hF⟩ := zl_e hF
      rw [← es6]
      refine j_aload_n C dX2_changeLeaves_26 rfl 0 rfl ?_
      refine s_get0 C in_X2_changeLeaves_wsX20 4 (by decide) (by decide +kernel) 8 rfl dX2_changeLeaves_27 ?_
      refine j_iload C dX2_changeLeaves_30 5 rfl ?_
      have b7 := zif_c hF hn
      replace hF := zif_t hF b7
      refine s_iald C (by decide) b7 dX2_changeLeaves_32 ?_
      refine j_iconst (v := (3 : Int32)) C dX2_changeLeaves_33 (by decide) ?_
      refine j_icmp_ne (tgt := 40) C dX2_changeLeaves_34 (by decide) (fun c8 => ?_) (fun c8 => ?_)
      · replace hF := zif_f hF c8
        refine j_iinc (lv' := [(5, .int (i5 + (1 : Int32))), (0, .ref (ad 0)), (1, .ref (ad r1)), (2, .int i2), (3, .int i3), (4, .int i4)]) C dX2_changeLeaves_40 5 rfl rfl (by decide) rfl ?_
        refine j_goto (tgt := 6) C dX2_changeLeaves_43 (by decide) ?_
        refine j_sub [1, 2, 3, 4, 5, 0] rfl ?_
        exact ih r1 hr1 i2 i3 i4 (i5 + (1 : Int32)) s6 hF
      · replace hF := zif_t hF c8
        refine j_iinc (lv' := [(4, .int (i4 + (1 : Int32))), (0, .ref (ad 0)), (1, .ref (ad r1)), (2, .int i2), (3, .int i3), (5, .int i5)]) C dX2_changeLeaves_37 4 rfl rfl (by decide) rfl ?_
        refine j_iinc (lv' := [(5, .int (i5 + (1 : Int32))), (4, .int (i4 + (1 : Int32))), (0, .ref (ad 0)), (1, .ref (ad r1)), (2, .int i2), (3, .int i3)]) C dX2_changeLeaves_40 5 rfl rfl (by decide) rfl ?_
        refine j_goto (tgt := 6) C dX2_changeLeaves_43 (by decide) ?_
        refine j_sub [2, 3, 4, 5, 1, 0] rfl ?_
        exact ih r1 hr1 i2 i3 (i4 + (1 : Int32)) (i5 + (1 : Int32)) s6 hF
def fX2_changeLeaves_55 (n : Nat) (X_81 : zS → zF Unit) : Nat → Nat → Int32 → Int32 → zS → zF Unit
  | 0, _, _, _, _ => none
  | k + 1, r1, i3, i5, st => (if i3 ≤ i5 then X_81 st else (if inb i5 (al 8) then (zb (fX2_carryOut n (st 8 (i5).toNatClampNeg) r1 i5 st) (fun (v15 : Unit) (u14 : zS) => fX2_changeLeaves_55 n X_81 k r1 i3 (i5 + (1 : Int32)) u14)) else none))
set_option maxHeartbeats 4000000 in
set_option maxRecDepth 100000 in
theorem wX2_changeLeaves_55 (C : zC p s m args meth c cX2_changeLeaves RX2 wsX2_changeLeaves D zcl (zty cI cR) 57 ad 6) (hne : ∀ x ∈ c.exceptionTable.toList, False) (hl : l.stackTraces = false) (hT : (sT ad) s.heap.size s) (hr : meth.sig.returnType = none) {F : zF Unit} (hn : F ≠ none) (n : Nat) {X_81 : zS → zF Unit} (hX_81 : ∀  (st : zS), X_81 st = F → sJ (fun _ : Unit => none) F 1 6 p l e rmX2_changeLeaves s m args below meth c D cI cR ad 6 st 1 6 81 [] []) : ∀ (k : Nat) (r1 : Nat) (hr1 : isRow r1) (i3 : Int32) (i5 : Int32) (st : zS), fX2_changeLeaves_55 n X_81 k r1 i3 i5 st = F → sJ (fun _ : Unit => none) F 1 6 p l e rmX2_changeLeaves s m args below meth c D cI cR ad 6 st 1 6 55 [(0, .ref (ad 0)), (1, .ref (ad r1)), (3, .int i3), (5, .int i5)] [] := by
  intro k
  induction k with
  | zero =>
    intro r1 hr1 i3 i5 st hF
    exact absurd hF.symm hn
  | succ k ih =>
    intro r1 hr1 i3 i5 st hF
    rw [fX2_changeLeaves_55] at hF
    refine j_iload C dX2_changeLeaves_55 3 rfl ?_
    refine j_iload_n C dX2_changeLeaves_57 rfl 2 rfl ?_
    refine j_icmp_ge (tgt := 81) C dX2_changeLeaves_58 (by decide) (fun c12 => ?_) (fun c12 => ?_)
    · replace hF := zif_t hF c12
      refine j_sub [] rfl ?_
      exact hX_81 st hF
    · replace hF := zif_f hF c12
      refine j_aload_n C dX2_changeLeaves_61 rfl 0 rfl ?_
      refine j_aload_n C dX2_changeLeaves_62 rfl 0 rfl ?_
      refine s_get0 C in_X2_changeLeaves_wsX20 4 (by decide) (by decide +kernel) 8 rfl dX2_changeLeaves_63 ?_
      refine j_iload C dX2_changeLeaves_66 3 rfl ?_
      have b13 := zif_c hF hn
      replace hF := zif_t hF b13
      refine s_iald C (by decide) b13 dX2_changeLeaves_68 ?_
      refine j_aload_n C dX2_changeLeaves_69 rfl 1 rfl ?_
      refine j_iload C dX2_changeLeaves_70 3 rfl ?_
      refine j_callVv C hne sT_S hT (q0 := 0) (As := [.int (st 8 (i5).toNatClampNeg), .ref (ad r1), .int i5]) (rest := []) (kX2_carryOut hl n (st 8 (i5).toNatClampNeg) r1 hr1 i5 st (zb_n hF hn)) (cwV 3 C.1.2.2.2.2 gX2_changeLeaves_X2_carryOut rfl rfl rfl (by decide +kernel) ⟨(Nat.le_of_ble_eq_true rfl), (Nat.le_of_ble_eq_true rfl)⟩) (by decide) sce_0 rfl rfl rfl (Nat.le_of_ble_eq_true rfl) dX2_changeLeaves_72 ⟨(Nat.le_of_ble_eq_true rfl), (Nat.le_of_ble_eq_true rfl)⟩ (fun _ _ h9 => zb_x hF h9) (Nat.le_of_ble_eq_true rfl) (Nat.le_of_ble_eq_true rfl) (fun v15 u14 h16 => ?_)
      replace hF := zb_l hF h16
      refine j_iinc (lv' := [(5, .int (i5 + (1 : Int32))), (0, .ref (ad 0)), (1, .ref (ad r1)), (3, .int i3)]) C dX2_changeLeaves_75 3 rfl rfl (by decide) rfl ?_
      refine j_goto (tgt := 55) C dX2_changeLeaves_78 (by decide) ?_
      refine j_sub [1, 2, 3, 0] rfl ?_
      exact ih r1 hr1 i3 (i5 + (1 : Int32)) u14 hF
def fX2_changeLeaves (n : Nat) (r1 : Nat) (i2 : Int32) (i3 : Int32) (st : zS) : zF Unit := fX2_changeLeaves_6 n (fun (r1 : Nat) (i2 : Int32) (i3 : Int32) (i4 : Int32) (st : zS) => (zb (fX2_checkRoom n i4 st) (fun (v10 : Unit) (u9 : zS) => fX2_changeLeaves_55 n (fun  (st : zS) => some (.inl (), st)) n r1 i3 i2 u9))) n r1 i2 i3 (0 : Int32) i2 st
set_option maxHeartbeats 4000000 in
set_option maxRecDepth 100000 in
theorem kX2_changeLeaves (hl : l.stackTraces = false) (n : Nat) (r1 : Nat) (hr1 : isRow r1) (i2 : Int32) (i3 : Int32) (st : zS) (hn : fX2_changeLeaves n r1 i2 i3 st ≠ none) : zM (fun _ : Unit => none) l yX2_changeLeaves wsX2_changeLeaves rmX2_changeLeaves D zcl (zty cI cR) 57 ad (sce cI cR ad) (sT ad) 1 6 [.ref (ad 0), .ref (ad r1), .int i2, .int i3] st (fX2_changeLeaves n r1 i2 i3 st) := by
  refine z_ofJ (cc := cX2_changeLeaves) (maxL := 6) (ret := none) (lv := [(0, .ref (ad 0)), (1, .ref (ad r1)), (2, .int i2), (3, .int i3)]) (by decide) rfl (Nat.le_of_ble_eq_true rfl) rfl ?_
  intro p e s m args below meth c C hne hT hr
  obtain ⟨F, hFe⟩ : ∃ F, F = fX2_changeLeaves n r1 i2 i3 st := ⟨_, rfl⟩
  rw [← hFe] at hn ⊢
  have hF : fX2_changeLeaves n r1 i2 i3 st = F := hFe.symm
  clear hFe
  unfold fX2_changeLeaves at hF
  have C : zC p s m args meth c cX2_changeLeaves RX2 wsX2_changeLeaves D zcl (zty cI cR) 57 ad 6 := C
  refine j_iconst (v := (0 : Int32)) C dX2_changeLeaves_0 (by decide) ?_
  refine j_istore (lv' := [(4, .int (0 : Int32)), (0, .ref (ad 0)), (1, .ref (ad r1)), (2, .int i2), (3, .int i3)]) C dX2_changeLeaves_1 (by decide) rfl ?_
  refine j_iload_n C dX2_changeLeaves_3 rfl 3 rfl ?_
  refine j_istore (lv' := [(5, .int i2), (4, .int (0 : Int32)), (0, .ref (ad 0)), (1, .ref (ad r1)), (2, .int i2), (3, .int i3)]) C dX2_changeLeaves_4 (by decide) rfl ?_
  refine j_sub [2, 3, 4, 5, 1, 0] rfl ?_
  refine wX2_changeLeaves_6 C hne hl hT hr hn n ?_ n r1 hr1 i2 i3 (0 : Int32) i2 st hF
  · intro r1 hr1 i2 i3 i4 st hF
    refine j_aload_n C dX2_changeLeaves_46 rfl 0 rfl ?_
    refine j_iload C dX2_changeLeaves_47 4 rfl ?_
    refine j_callVv C hne sT_S hT (q0 := 0) (As := [.int i4]) (rest := []) (kX2_checkRoom hl n i4 st (zb_n hF hn)) (cwV 1 C.1.2.2.2.2 gX2_changeLeaves_X2_checkRoom rfl rfl rfl (by decide +kernel) ⟨(Nat.le_of_ble_eq_true rfl), (Nat.le_of_ble_eq_true rfl)⟩) (by decide) sce_0 rfl rfl rfl (Nat.le_of_ble_eq_true rfl) dX2_changeLeaves_49 ⟨(Nat.le_of_ble_eq_true rfl), (Nat.le_of_ble_eq_true rfl)⟩ (fun _ _ h9 => zb_x hF h9) (Nat.le_of_ble_eq_true rfl) (Nat.le_of_ble_eq_true rfl) (fun v10 u9 h11 => ?_)
    replace hF := zb_l hF h11
    refine j_iload_n C dX2_changeLeaves_52 rfl 2 rfl ?_
    refine j_istore (lv' := [(5, .int i2), (0, .ref (ad 0)), (1, .ref (ad r1)), (2, .int i2), (3, .int i3), (4, .int i4)]) C dX2_changeLeaves_53 (by decide) rfl ?_
    refine j_sub [1, 2, 4, 0] rfl ?_
    refine wX2_changeLeaves_55 C hne hl hT hr hn n ?_ n r1 hr1 i3 i2 u9 hF
    · intro  st hF
      exact j_vret C hr hF (Nat.le_of_ble_eq_true rfl) (Nat.le_of_ble_eq_true rfl) dX2_changeLeaves_81
end
