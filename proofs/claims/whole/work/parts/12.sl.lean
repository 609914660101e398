/-! X2_isLeafAsInNext -/
def rmX2_isLeafAsInNext : Room := { frames := 11, cells := 0, slots := 0, locals := 160 }
theorem in_X2_isLeafAsInNext_wsX10 : ∀ w ∈ wsX10, w ∈ wsX2_isLeafAsInNext := by decide +kernel
theorem in_X2_isLeafAsInNext_wsX20 : ∀ w ∈ wsX20, w ∈ wsX2_isLeafAsInNext := by decide +kernel
section
variable {p : Program} {l : Launch} {e : Env} {s : State} {m : MethodId} {args : Array Value} {below : List Frame} {meth : Method} {c : Code} {D : va_G} {cI cR : ClassId} {ad : Nat → Nat}
def fX2_isLeafAsInNext_52 (n : Nat) (B_16 : Nat → Int32 → Int32 → Int32 → Int32 → zS → zF Int32) (X_68 : zS → zF Int32) (r1 : Nat) (i2 : Int32) (i3 : Int32) (i4 : Int32) (i5 : Int32) (it0 : Int32) (st : zS) : zF Int32 := (if inb (i3 + i5) (al 6) then (if it0 = (st 6 ((i3 + i5)).toNatClampNeg) then B_16 r1 i2 i3 i4 (i5 + (1 : Int32)) st else X_68 st) else none)
set_option maxHeartbeats 4000000 in
set_option maxRecDepth 100000 in
theorem wX2_isLeafAsInNext_52 (C : zC p s m args meth c cX2_isLeafAsInNext RX2 wsX2_isLeafAsInNext D zcl (zty cI cR) 57 ad 7) (hne : ∀ x ∈ c.exceptionTable.toList, False) (hl : l.stackTraces = false) (hT : (sT ad) s.heap.size s) (hr : meth.sig.returnType = (some .boolean)) {F : zF Int32} (hn : F ≠ none) (n : Nat) {B_16 : Nat → Int32 → Int32 → Int32 → Int32 → zS → zF Int32} {X_68 : zS → zF Int32} (hB_16 : ∀ (r1 : Nat) (hr1 : isRow r1) (i2 : Int32) (i3 : Int32) (i4 : Int32) (i5 : Int32) (st : zS), B_16 r1 i2 i3 i4 i5 st = F → sJ (fun v : Int32 => some (.int v)) F 0 0 p l e rmX2_isLeafAsInNext s m args below meth c D cI cR ad 7 st 0 0 16 [(0, .ref (ad 0)), (1, .ref (ad r1)), (2, .int i2), (3, .int i3), (4, .int i4), (5, .int i5)] []) (hX_68 : ∀  (st : zS), X_68 st = F → sJ (fun v : Int32 => some (.int v)) F 0 0 p l e rmX2_isLeafAsInNext s m args below meth c D cI cR ad 7 st 0 0 68 [] []) : ∀ (r1 : Nat) (hr1 : isRow r1) (i2 : Int32) (i3 : Int32) (i4 : Int32) (i5 : Int32) (it0 : Int32) (st : zS), fX2_isLeafAsInNext_52 n B_16 X_68 r1 i2 i3 i4 i5 it0 st = F → sJ (fun v : Int32 => some (.int v)) F 0 0 p l e rmX2_isLeafAsInNext s m args below meth c D cI cR ad 7 st 0 0 52 [(0, .ref (ad 0)), (1, .ref (ad r1)), (2, .int i2), (3, .int i3), (4, .int i4), (5, .int i5)] [.int it0] := by
  intro r1 hr1 i2 i3 i4 i5 it0 st hF
  unfold fX2_isLeafAsInNext_52 at hF
  refine j_istore (lv' := [(6, .int it0), (0, .ref (ad 0)), (1, .ref (ad r1)), (2, .int i2), (3, .int i3), (4, .int i4), (5, .int i5)]) C dX2_isLeafAsInNext_52 (by decide) rfl ?_
  refine j_iload C dX2_isLeafAsInNext_54 0 rfl ?_
  refine j_aload_n C dX2_isLeafAsInNext_56 rfl 1 rfl ?_
  refine s_get0 C in_X2_isLeafAsInNext_wsX20 2 (by decide) (by decide +kernel) 6 rfl dX2_isLeafAsInNext_57 ?_
  refine j_iload_n C dX2_isLeafAsInNext_60 rfl 4 rfl ?_
  refine j_iload C dX2_isLeafAsInNext_61 6 rfl ?_
  refine j_iadd C dX2_isLeafAsInNext_63 ?_
  have b10 := zif_c hF hn
  replace hF := zif_t hF b10
  refine s_iald C (by decide) b10 dX2_isLeafAsInNext_64 ?_
  refine j_icmp_eq (tgt := 70) C dX2_isLeafAsInNext_65 (by decide) (fun c11 => ?_) (fun c11 => ?_)
  · replace hF := zif_t hF c11
    refine j_iinc (lv' := [(5, .int (i5 + (1 : Int32))), (6, .int it0), (0, .ref (ad 0)), (1, .ref (ad r1)), (2, .int i2), (3, .int i3), (4, .int i4)]) C dX2_isLeafAsInNext_70 6 rfl rfl (by decide) rfl ?_
    refine j_goto (tgt := 16) C dX2_isLeafAsInNext_73 (by decide) ?_
    refine j_sub [2, 3, 4, 5, 6, 0] rfl ?_
    exact hB_16 r1 hr1 i2 i3 i4 (i5 + (1 : Int32)) st hF
  · replace hF := zif_f hF c11
    refine j_sub [] rfl ?_
    exact hX_68 st hF
def fX2_isLeafAsInNext_16 (n : Nat) (X_76 : zS → zF Int32) (X_68 : zS → zF Int32) : Nat → Nat → Int32 → Int32 → Int32 → Int32 → zS → zF Int32
  | 0, _, _, _, _, _, _ => none
  | k + 1, r1, i2, i3, i4, i5, st => (zb (fX1_valuesIn n r1 i2 st) (fun (v3 : Int32) (u2 : zS) => (if v3 ≤ i5 then X_76 u2 else (if i4 = ((-1) : Int32) then (if inb i2 (al (r1 + 32)) then fX2_isLeafAsInNext_52 n (fun (r1 : Nat) (i2 : Int32) (i3 : Int32) (i4 : Int32) (i5 : Int32) (st : zS) => fX2_isLeafAsInNext_16 n X_76 X_68 k r1 i2 i3 i4 i5 st) X_68 r1 i2 i3 i4 i5 (u2 (r1 + 32) (i2).toNatClampNeg) u2 else none) else (zb (fX0_valueAt n i4 i5 u2) (fun (v8 : Int32) (u7 : zS) => fX2_isLeafAsInNext_52 n (fun (r1 : Nat) (i2 : Int32) (i3 : Int32) (i4 : Int32) (i5 : Int32) (st : zS) => fX2_isLeafAsInNext_16 n X_76 X_68 k r1 i2 i3 i4 i5 st) X_68 r1 i2 i3 i4 i5 v8 u7))))))
set_option maxHeartbeats 4000000 in
set_option maxRecDepth 100000 in
theorem wX2_isLeafAsInNext_16 (C : zC p s m args meth c cX2_isLeafAsInNext RX2 wsX2_isLeafAsInNext D zcl (zty cI cR) 57 ad 7) (hne : ∀ x ∈ c.exceptionTable.toList, False) (hl : l.stackTraces = false) (hT : (sT ad) s.heap.size s) (hr : meth.sig.returnType = (some .boolean)) {F : zF Int32} (hn : F ≠ none) (n : Nat) {X_76 : zS → zF Int32} {X_68 : zS → zF Int32} (hX_76 : ∀  (st : zS), X_76 st = F → sJ (fun v : Int32 => some (.int v)) F 0 0 p l e rmX2_isLeafAsInNext s m args below meth c D cI cR ad 7 st 0 0 76 [] []) (hX_68 : ∀  (st : zS), X_68 st = F → sJ (fun v : Int32 => some (.int v)) F 0 0 p l e rmX2_isLeafAsInNext s m args below meth c D cI cR ad 7 st 0 0 68 [] []) : ∀ (k : Nat) (r1 : Nat) (hr1 : isRow r1) (i2 : Int32) (i3 : Int32) (i4 : Int32) (i5 : Int32) (st : zS), fX2_isLeafAsInNext_16 n X_76 X_68 k r1 i2 i3 i4 i5 st = F → sJ (fun v : Int32 => some (.int v)) F 0 0 p l e rmX2_isLeafAsInNext s m args below meth c D cI cR ad 7 st 0 0 16 [(0, .ref (ad 0)), (1, .ref (ad r1)), (2, .int i2), (3, .int i3), (4, .int i4), (5, .int i5)] [] := by
  intro k
  induction k with
  | zero =>
    intro r1 hr1 i2 i3 i4 i5 st hF
    exact absurd hF.symm hn
  | succ k ih =>
    intro r1 hr1 i2 i3 i4 i5 st hF
    rw [fX2_isLeafAsInNext_16] at hF
    refine j_iload C dX2_isLeafAsInNext_16 5 rfl ?_
    refine j_aload_n C dX2_isLeafAsInNext_18 rfl 1 rfl ?_
    refine j_iload_n C dX2_isLeafAsInNext_19 rfl 2 rfl ?_
    refine j_callVi C hne sT_S hT (q0 := r1) (As := [.int i2]) (rest := [.int i5]) (kX1_valuesIn hl n r1 hr1 i2 st (zb_n hF hn)) (cwV 1 C.1.2.2.2.2 gX2_isLeafAsInNext_X1_valuesIn rfl rfl rfl (by decide +kernel) ⟨(Nat.le_of_ble_eq_true rfl), (Nat.le_of_ble_eq_true rfl)⟩) (isRow.lt hr1) (sce_row hr1) rfl rfl rfl (Nat.le_of_ble_eq_true rfl) dX2_isLeafAsInNext_20 ⟨(Nat.le_of_ble_eq_true rfl), (Nat.le_of_ble_eq_true rfl)⟩ (fun _ _ h9 => zb_x hF h9) (Nat.le_of_ble_eq_true rfl) (Nat.le_of_ble_eq_true rfl) (fun v3 u2 h4 => ?_)
    replace hF := zb_l hF h4
    refine j_icmp_ge (tgt := 76) C dX2_isLeafAsInNext_23 (by decide) (fun c5 => ?_) (fun c5 => ?_)
    · replace hF := zif_t hF c5
      refine j_sub [] rfl ?_
      exact hX_76 u2 hF
    · replace hF := zif_f hF c5
      refine j_iload C dX2_isLeafAsInNext_26 4 rfl ?_
      refine j_iconst (v := ((-1) : Int32)) C dX2_isLeafAsInNext_28 (by decide) ?_
      refine j_icmp_ne (tgt := 41) C dX2_isLeafAsInNext_29 (by decide) (fun c6 => ?_) (fun c6 => ?_)
      · replace hF := zif_f hF c6
        refine j_aload_n C dX2_isLeafAsInNext_41 rfl 0 rfl ?_
        refine s_get0 C in_X2_isLeafAsInNext_wsX20 1 (by decide) (by decide +kernel) 2 rfl dX2_isLeafAsInNext_42 ?_
        refine j_iload C dX2_isLeafAsInNext_45 4 rfl ?_
        refine j_iload C dX2_isLeafAsInNext_47 5 rfl ?_
        refine j_callVi C hne sT_S hT (q0 := 2) (As := [.int i4, .int i5]) (rest := []) (kX0_valueAt hl n i4 i5 u2 (zb_n hF hn)) (cwV 2 C.1.2.2.2.2 gX2_isLeafAsInNext_X0_valueAt rfl rfl rfl (by decide +kernel) ⟨(Nat.le_of_ble_eq_true rfl), (Nat.le_of_ble_eq_true rfl)⟩) (by decide) sce_2 rfl rfl rfl (Nat.le_of_ble_eq_true rfl) dX2_isLeafAsInNext_49 ⟨(Nat.le_of_ble_eq_true rfl), (Nat.le_of_ble_eq_true rfl)⟩ (fun _ _ h9 => zb_x hF h9) (Nat.le_of_ble_eq_true rfl) (Nat.le_of_ble_eq_true rfl) (fun v8 u7 h9 => ?_)
        replace hF := zb_l hF h9
        refine wX2_isLeafAsInNext_52 C hne hl hT hr hn n ?_ hX_68 r1 hr1 i2 i3 i4 i5 v8 u7 hF
        · intro r1 hr1 i2 i3 i4 i5 st hF
          exact ih r1 hr1 i2 i3 i4 i5 st hF
      · replace hF := zif_t hF c6
        refine j_aload_n C dX2_isLeafAsInNext_32 rfl 1 rfl ?_
        refine s_getR C in_X2_isLeafAsInNext_wsX10 hr1 1 (by decide) (by decide +kernel) rfl dX2_isLeafAsInNext_33 ?_
        refine j_iload_n C dX2_isLeafAsInNext_36 rfl 2 rfl ?_
        have b12 := zif_c hF hn
        replace hF := zif_t hF b12
        refine s_iald C (isRow.n hr1) b12 dX2_isLeafAsInNext_37 ?_
        refine j_goto (tgt := 52) C dX2_isLeafAsInNext_38 (by decide) ?_
        refine wX2_isLeafAsInNext_52 C hne hl hT hr hn n ?_ hX_68 r1 hr1 i2 i3 i4 i5 (u2 (r1 + 32) (i2).toNatClampNeg) u2 hF
        · intro r1 hr1 i2 i3 i4 i5 st hF
          exact ih r1 hr1 i2 i3 i4 i5 st hF
def fX2_isLeafAsInNext (n : Nat) (r1 : Nat) (i2 : Int32) (st : zS) : zF Int32 := (if inb i2 (al (r1 + 16)) then fX2_isLeafAsInNext_16 n (fun  (st : zS) => some (.inl (1 : Int32), st)) (fun  (st : zS) => some (.inl (0 : Int32), st)) n r1 i2 (i2 * (16 : Int32)) (st (r1 + 16) (i2).toNatClampNeg) (0 : Int32) st else none)
set_option maxHeartbeats 4000000 in
set_option maxRecDepth 100000 in
theorem kX2_isLeafAsInNext (hl : l.stackTraces = false) (n : Nat) (r1 : Nat) (hr1 : isRow r1) (i2 : Int32) (st : zS) (hn : fX2_isLeafAsInNext n r1 i2 st ≠ none) : zM (fun v : Int32 => some (.int v)) l yX2_isLeafAsInNext wsX2_isLeafAsInNext rmX2_isLeafAsInNext D zcl (zty cI cR) 57 ad (sce cI cR ad) (sT ad) 0 0 [.ref (ad 0), .ref (ad r1), .int i2] st (fX2_isLeafAsInNext n r1 i2 st) := by
  refine z_ofJ (cc := cX2_isLeafAsInNext) (maxL := 7) (ret := (some .boolean)) (lv := [(0, .ref (ad 0)), (1, .ref (ad r1)), (2, .int i2)]) (by decide) rfl (Nat.le_of_ble_eq_true rfl) rfl ?_
  intro p e s m args below meth c C hne hT hr
  obtain ⟨F, hFe⟩ : ∃ F, F = fX2_isLeafAsInNext n r1 i2 st := ⟨_, rfl⟩
  rw [← hFe] at hn ⊢
  have hF : fX2_isLeafAsInNext n r1 i2 st = F := hFe.symm
  clear hFe
  unfold fX2_isLeafAsInNext at hF
  have C : zC p s m args meth c cX2_isLeafAsInNext RX2 wsX2_isLeafAsInNext D zcl (zty cI cR) 57 ad 7 := C
  refine j_iload_n C dX2_isLeafAsInNext_0 rfl 2 rfl ?_
  refine j_bipush (v := (16 : Int32)) C dX2_isLeafAsInNext_1 (by decide) ?_
  refine j_imul C dX2_isLeafAsInNext_3 ?_
  refine j_istore_n (lv' := [(3, .int (i2 * (16 : Int32))), (0, .ref (ad 0)), (1, .ref (ad r1)), (2, .int i2)]) C dX2_isLeafAsInNext_4 rfl (by decide) rfl ?_
  refine j_aload_n C dX2_isLeafAsInNext_5 rfl 2 rfl ?_
  refine s_getR C in_X2_isLeafAsInNext_wsX10 hr1 0 (by decide) (by decide +kernel) rfl dX2_isLeafAsInNext_6 ?_
  refine j_iload_n C dX2_isLeafAsInNext_9 rfl 3 rfl ?_
  have b1 := zif_c hF hn
  replace hF := zif_t hF b1
  refine s_iald C (isRow.p hr1) b1 dX2_isLeafAsInNext_10 ?_
  refine j_istore (lv' := [(4, .int (st (r1 + 16) (i2).toNatClampNeg)), (3, .int (i2 * (16 : Int32))), (0, .ref (ad 0)), (1, .ref (ad r1)), (2, .int i2)]) C dX2_isLeafAsInNext_11 (by decide) rfl ?_
  refine j_iconst (v := (0 : Int32)) C dX2_isLeafAsInNext_13 (by decide) ?_
  refine j_istore (lv' := [(5, .int (0 : Int32)), (4, .int (st (r1 + 16) (i2).toNatClampNeg)), (3, .int (i2 * (16 : Int32))), (0, .ref (ad 0)), (1, .ref (ad r1)), (2, .int i2)]) C dX2_isLeafAsInNext_14 (by decide) rfl ?_
  refine j_sub [3, 4, 5, 2, 1, 0] rfl ?_
  refine wX2_isLeafAsInNext_16 C hne hl hT hr hn n ?_ ?_ n r1 hr1 i2 (i2 * (16 : Int32)) (st (r1 + 16) (i2).toNatClampNeg) (0 : Int32) st hF
  · intro  st hF
    refine j_iconst (v := (1 : Int32)) C dX2_isLeafAsInNext_76 (by decide) ?_
    exact j_zret C hr rfl hF (Nat.le_of_ble_eq_true rfl) (Nat.le_of_ble_eq_true rfl) dX2_isLeafAsInNext_77
  · intro  st hF
    refine j_iconst (v := (0 : Int32)) C dX2_isLeafAsInNext_68 (by decide) ?_
    exact j_zret C hr rfl hF (Nat.le_of_ble_eq_true rfl) (Nat.le_of_ble_eq_true rfl) dX2_isLeafAsInNext_69
end
/-! X2_isOneNumberInNext -/
def rmX2_isOneNumberInNext : Room := { frames := 10, cells := 0, slots := 0, locals := 120 }
theorem in_X2_isOneNumberInNext_wsX20 : ∀ w ∈ wsX20, w ∈ wsX2_isOneNumberInNext := by decide +kernel
section
variable {p : Program} {l : Launch} {e : Env} {s : State} {m : MethodId} {args : Array Value} {below : List Frame} {meth : Method} {c : Code} {D : va_G} {cI cR : ClassId} {ad : Nat → Nat}
def fX2_isOneNumberInNext_20 (n : Nat) (X_51 : zS → zF Int32) (X_43 : zS → zF Int32) : Nat → Int32 → Int32 → Int32 → zS → zF Int32
  | 0, _, _, _, _ => none
  | k + 1, i3, i4, i5, st => (if i4 ≤ i5 then X_51 st else (if inb i5 (al 6) then (if inb i3 (al 6) then (if (st 6 (i5).toNatClampNeg) = (st 6 (i3).toNatClampNeg) then fX2_isOneNumberInNext_20 n X_51 X_43 k i3 i4 (i5 + (1 : Int32)) st else X_43 st) else none) else none))
set_option maxHeartbeats 4000000 in
set_option maxRecDepth 100000 in
theorem wX2_isOneNumberInNext_20 (C : zC p s m args meth c cX2_isOneNumberInNext RX2 wsX2_isOneNumberInNext D zcl (zty cI cR) 57 ad 6) (hne : ∀ x ∈ c.exceptionTable.toList, False) (hl : l.stackTraces = false) (hT : (sT ad) s.heap.size s) (hr : meth.sig.returnType = (some .boolean)) {F : zF Int32} (hn : F ≠ none) (n : Nat) {X_51 : zS → zF Int32} {X_43 : zS → zF Int32} (hX_51 : ∀  (st : zS), X_51 st = F → sJ (fun v : Int32 => some (.int v)) F 0 0 p l e rmX2_isOneNumberInNext s m args below meth c D cI cR ad 6 st 0 0 51 [] []) (hX_43 : ∀  (st : zS), X_43 st = F → sJ (fun v : Int32 => some (.int v)) F 0 0 p l e rmX2_isOneNumberInNext s m args below meth c D cI cR ad 6 st 0 0 43 [] []) : ∀ (k : Nat) (i3 : Int32) (i4 : Int32) (i5 : Int32) (st : zS), fX2_isOneNumberInNext_20 n X_51 X_43 k i3 i4 i5 st = F → sJ (fun v : Int32 => some (.int v)) F 0 0 p l e rmX2_isOneNumberInNext s m args below meth c D cI cR ad 6 st 0 0 20 [(0, .ref (ad 0)), (3, .int i3), (4, .int i4), (5, .int i5)] [] := by
  intro k
  induction k with
  | zero =>
    intro i3 i4 i5 st hF
    exact absurd hF.symm hn
  | succ k ih =>
    intro i3 i4 i5 st hF
    rw [fX2_isOneNumberInNext_20] at hF
    refine j_iload C dX2_isOneNumberInNext_20 3 rfl ?_
    refine j_iload C dX2_isOneNumberInNext_22 2 rfl ?_
    refine j_icmp_ge (tgt := 51) C dX2_isOneNumberInNext_24 (by decide) (fun c1 => ?_) (fun c1 => ?_)
    · replace hF := zif_t hF c1
      refine j_sub [] rfl ?_
      exact hX_51 st hF
    · replace hF := zif_f hF c1
      refine j_aload_n C dX2_isOneNumberInNext_27 rfl 0 rfl ?_
      refine s_get0 C in_X2_isOneNumberInNext_wsX20 2 (by decide) (by decide +kernel) 6 rfl dX2_isOneNumberInNext_28 ?_
      refine j_iload C dX2_isOneNumberInNext_31 3 rfl ?_
      have b2 := zif_c hF hn
      replace hF := zif_t hF b2
      refine s_iald C (by decide) b2 dX2_isOneNumberInNext_33 ?_
      refine j_aload_n C dX2_isOneNumberInNext_34 rfl 0 rfl ?_
      refine s_get0 C in_X2_isOneNumberInNext_wsX20 2 (by decide) (by decide +kernel) 6 rfl dX2_isOneNumberInNext_35 ?_
      refine j_iload_n C dX2_isOneNumberInNext_38 rfl 1 rfl ?_
      have b3 := zif_c hF hn
      replace hF := zif_t hF b3
      refine s_iald C (by decide) b3 dX2_isOneNumberInNext_39 ?_
      refine j_icmp_eq (tgt := 45) C dX2_isOneNumberInNext_40 (by decide) (fun c4 => ?_) (fun c4 => ?_)
      · replace hF := zif_t hF c4
        refine j_iinc (lv' := [(5, .int (i5 + (1 : Int32))), (0, .ref (ad 0)), (3, .int i3), (4, .int i4)]) C dX2_isOneNumberInNext_45 3 rfl rfl (by decide) rfl ?_
        refine j_goto (tgt := 20) C dX2_isOneNumberInNext_48 (by decide) ?_
        refine j_sub [1, 2, 3, 0] rfl ?_
        exact ih i3 i4 (i5 + (1 : Int32)) st hF
      · replace hF := zif_f hF c4
        refine j_sub [] rfl ?_
        exact hX_43 st hF
def fX2_isOneNumberInNext (n : Nat) (i1 : Int32) (i2 : Int32) (st : zS) : zF Int32 := fX2_isOneNumberInNext_20 n (fun  (st : zS) => some (.inl (1 : Int32), st)) (fun  (st : zS) => some (.inl (0 : Int32), st)) n (i1 * (16 : Int32)) (if ((i1 * (16 : Int32)) + (16 : Int32)) < i2 then ((i1 * (16 : Int32)) + (16 : Int32)) else i2) ((i1 * (16 : Int32)) + (1 : Int32)) st
set_option maxHeartbeats 4000000 in
set_option maxRecDepth 100000 in
theorem kX2_isOneNumberInNext (hl : l.stackTraces = false) (n : Nat) (i1 : Int32) (i2 : Int32) (st : zS) (hn : fX2_isOneNumberInNext n i1 i2 st ≠ none) : zM (fun v : Int32 => some (.int v)) l yX2_isOneNumberInNext wsX2_isOneNumberInNext rmX2_isOneNumberInNext D zcl (zty cI cR) 57 ad (sce cI cR ad) (sT ad) 0 0 [.ref (ad 0), .int i1, .int i2] st (fX2_isOneNumberInNext n i1 i2 st) := by
  refine z_ofJ (cc := cX2_isOneNumberInNext) (maxL := 6) (ret := (some .boolean)) (lv := [(0, .ref (ad 0)), (1, .int i1), (2, .int i2)]) (by decide) rfl (Nat.le_of_ble_eq_true rfl) rfl ?_
  intro p e s m args below meth c C hne hT hr
  obtain ⟨F, hFe⟩ : ∃ F, F = fX2_isOneNumberInNext n i1 i2 st := ⟨_, rfl⟩
  rw [← hFe] at hn ⊢
  have hF : fX2_isOneNumberInNext n i1 i2 st = F := hFe.symm
  clear hFe
  unfold fX2_isOneNumberInNext at hF
  have C : zC p s m args meth c cX2_isOneNumberInNext RX2 wsX2_isOneNumberInNext D zcl (zty cI cR) 57 ad 6 := C
  refine j_iload_n C dX2_isOneNumberInNext_0 rfl 1 rfl ?_
  refine j_bipush (v := (16 : Int32)) C dX2_isOneNumberInNext_1 (by decide) ?_
  refine j_imul C dX2_isOneNumberInNext_3 ?_
  refine j_istore_n (lv' := [(3, .int (i1 * (16 : Int32))), (0, .ref (ad 0)), (1, .int i1), (2, .int i2)]) C dX2_isOneNumberInNext_4 rfl (by decide) rfl ?_
  refine j_iload_n C dX2_isOneNumberInNext_5 rfl 3 rfl ?_
  refine j_iload_n C dX2_isOneNumberInNext_6 rfl 0 rfl ?_
  refine j_bipush (v := (16 : Int32)) C dX2_isOneNumberInNext_7 (by decide) ?_
  refine j_iadd C dX2_isOneNumberInNext_9 ?_
  refine j_mmin C (by decide +kernel) (by decide +kernel) (by decide +kernel) (by decide +kernel) (Nat.le_of_ble_eq_true rfl) (Nat.le_of_ble_eq_true rfl) (Nat.le_of_ble_eq_true rfl) (Nat.le_of_ble_eq_true rfl) dX2_isOneNumberInNext_10 ?_
  refine j_istore (lv' := [(4, .int (if ((i1 * (16 : Int32)) + (16 : Int32)) < i2 then ((i1 * (16 : Int32)) + (16 : Int32)) else i2)), (3, .int (i1 * (16 : Int32))), (0, .ref (ad 0)), (1, .int i1), (2, .int i2)]) C dX2_isOneNumberInNext_13 (by decide) rfl ?_
  refine j_iload_n C dX2_isOneNumberInNext_15 rfl 1 rfl ?_
  refine j_iconst (v := (1 : Int32)) C dX2_isOneNumberInNext_16 (by decide) ?_
  refine j_iadd C dX2_isOneNumberInNext_17 ?_
  refine j_istore (lv' := [(5, .int ((i1 * (16 : Int32)) + (1 : Int32))), (4, .int (if ((i1 * (16 : Int32)) + (16 : Int32)) < i2 then ((i1 * (16 : Int32)) + (16 : Int32)) else i2)), (3, .int (i1 * (16 : Int32))), (0, .ref (ad 0)), (1, .int i1), (2, .int i2)]) C dX2_isOneNumberInNext_18 (by decide) rfl ?_
  refine j_sub [3, 2, 1, 0] rfl ?_
  refine wX2_isOneNumberInNext_20 C hne hl hT hr hn n ?_ ?_ n (i1 * (16 : Int32)) (if ((i1 * (16 : Int32)) + (16 : Int32)) < i2 then ((i1 * (16 : Int32)) + (16 : Int32)) else i2) ((i1 * (16 : Int32)) + (1 : Int32)) st hF
  · intro  st hF
    refine j_iconst (v := (1 : Int32)) C dX2_isOneNumberInNext_51 (by decide) ?_
    exact j_zret C hr rfl hF (Nat.le_of_ble_eq_true rfl) (Nat.le_of_ble_eq_true rfl) dX2_isOneNumberInNext_52
  · intro  st hF
    refine j_iconst (v := (0 : Int32)) C dX2_isOneNumberInNext_43 (by decide) ?_
    exact j_zret C hr rfl hF (Nat.le_of_ble_eq_true rfl) (Nat.le_of_ble_eq_true rfl) dX2_isOneNumberInNext_44
end
/-! X2_countOwnInNext -/
def rmX2_countOwnInNext : Room := { frames := 11, cells := 0, slots := 0, locals := 160 }
section
variable {p : Program} {l : Launch} {e : Env} {s : State} {m : MethodId} {args : Array Value} {below : List Frame} {meth : Method} {c : Code} {D : va_G} {cI cR : ClassId} {ad : Nat → Nat}
def fX2_countOwnInNext_5 (n : Nat) (X_33 : Int32 → zS → zF Int32) : Nat → Int32 → Int32 → Int32 → zS → zF Int32
  | 0, _, _, _, _ => none
  | k + 1, i2, i3, i4, st => (zb (fX2_leavesFor n i2 st) (fun (v2 : Int32) (u1 : zS) => (if v2 ≤ i4 then X_33 i3 u1 else (zb (fX2_isOneNumberInNext n i4 i2 u1) (fun (v6 : Int32) (u5 : zS) => (if v6 = 0 then fX2_countOwnInNext_5 n X_33 k i2 (i3 + (1 : Int32)) (i4 + (1 : Int32)) u5 else fX2_countOwnInNext_5 n X_33 k i2 i3 (i4 + (1 : Int32)) u5))))))
set_option maxHeartbeats 4000000 in
set_option maxRecDepth 100000 in
theorem wX2_countOwnInNext_5 (C : zC p s m args meth c cX2_countOwnInNext RX2 wsX2_countOwnInNext D zcl (zty cI cR) 57 ad 5) (hne : ∀ x ∈ c.exceptionTable.toList, False) (hl : l.stackTraces = false) (hT : (sT ad) s.heap.size s) (hr : meth.sig.returnType = (some .int)) {F : zF Int32} (hn : F ≠ none) (n : Nat) {X_33 : Int32 → zS → zF Int32} (hX_33 : ∀ (i3 : Int32) (st : zS), X_33 i3 st = F → sJ (fun v : Int32 => some (.int v)) F 0 0 p l e rmX2_countOwnInNext s m args below meth c D cI cR ad 5 st 0 0 33 [(3, .int i3)] []) : ∀ (k : Nat) (i2 : Int32) (i3 : Int32) (i4 : Int32) (st : zS), fX2_countOwnInNext_5 n X_33 k i2 i3 i4 st = F → sJ (fun v : Int32 => some (.int v)) F 0 0 p l e rmX2_countOwnInNext s m args below meth c D cI cR ad 5 st 0 0 5 [(0, .ref (ad 0)), (2, .int i2), (3, .int i3), (4, .int i4)] [] := by
  intro k
  induction k with
  | zero =>
    intro i2 i3 i4 st hF
    exact absurd hF.symm hn
  | succ k ih =>
    intro i2 i3 i4 st hF
    rw [fX2_countOwnInNext_5] at hF
    refine j_iload C dX2_countOwnInNext_5 3 rfl ?_
    refine j_iload_n C dX2_countOwnInNext_7 rfl 1 rfl ?_
    refine j_callSi C hne sT_S hT (As := [.int i2]) (rest := [.int i4]) (kX2_leavesFor hl n i2 st (zb_n hF hn)) (va_cwS 1 C.1.2.2.2.2 gX2_countOwnInNext_X2_leavesFor rfl rfl rfl (by decide +kernel) ⟨(Nat.le_of_ble_eq_true rfl), (Nat.le_of_ble_eq_true rfl)⟩) rfl rfl (Nat.le_of_ble_eq_true rfl) dX2_countOwnInNext_8 ⟨(Nat.le_of_ble_eq_true rfl), (Nat.le_of_ble_eq_true rfl)⟩ (fun _ _ h9 => zb_x hF h9) (Nat.le_of_ble_eq_true rfl) (Nat.le_of_ble_eq_true rfl) (fun v2 u1 h3 => ?_)
    replace hF := zb_l hF h3
    refine j_icmp_ge (tgt := 33) C dX2_countOwnInNext_11 (by decide) (fun c4 => ?_) (fun c4 => ?_)
    · replace hF := zif_t hF c4
      refine j_sub [2] rfl ?_
      exact hX_33 i3 u1 hF
    · replace hF := zif_f hF c4
      refine j_aload_n C dX2_countOwnInNext_14 rfl 0 rfl ?_
      refine j_iload C dX2_countOwnInNext_15 3 rfl ?_
      refine j_iload_n C dX2_countOwnInNext_17 rfl 1 rfl ?_
      refine j_callVi C hne sT_S hT (q0 := 0) (As := [.int i4, .int i2]) (rest := []) (kX2_isOneNumberInNext hl n i4 i2 u1 (zb_n hF hn)) (cwV 2 C.1.2.2.2.2 gX2_countOwnInNext_X2_isOneNumberInNext rfl rfl rfl (by decide +kernel) ⟨(Nat.le_of_ble_eq_true rfl), (Nat.le_of_ble_eq_true rfl)⟩) (by decide) sce_0 rfl rfl rfl (Nat.le_of_ble_eq_true rfl) dX2_countOwnInNext_18 ⟨(Nat.le_of_ble_eq_true rfl), (Nat.le_of_ble_eq_true rfl)⟩ (fun _ _ h9 => zb_x hF h9) (Nat.le_of_ble_eq_true rfl) (Nat.le_of_ble_eq_true rfl) (fun v6 u5 h7 => ?_)
      replace hF := zb_l hF h7
      refine j_if_ne (tgt := 27) C dX2_countOwnInNext_21 (by decide) (fun c8 => ?_) (fun c8 => ?_)
      · replace hF := zif_f hF c8
        refine j_iinc (lv' := [(4, .int (i4 + (1 : Int32))), (0, .ref (ad 0)), (2, .int i2), (3, .int i3)]) C dX2_countOwnInNext_27 3 rfl rfl (by decide) rfl ?_
        refine j_goto (tgt := 5) C dX2_countOwnInNext_30 (by decide) ?_
        refine j_sub [1, 2, 3, 0] rfl ?_
        exact ih i2 i3 (i4 + (1 : Int32)) u5 hF
      · replace hF := zif_t hF c8
        refine j_iinc (lv' := [(3, .int (i3 + (1 : Int32))), (0, .ref (ad 0)), (2, .int i2), (4, .int i4)]) C dX2_countOwnInNext_24 2 rfl rfl (by decide) rfl ?_
        refine j_iinc (lv' := [(4, .int (i4 + (1 : Int32))), (3, .int (i3 + (1 : Int32))), (0, .ref (ad 0)), (2, .int i2)]) C dX2_countOwnInNext_27 3 rfl rfl (by decide) rfl ?_
        refine j_goto (tgt := 5) C dX2_countOwnInNext_30 (by decide) ?_
        refine j_sub [2, 3, 1, 0] rfl ?_
        exact ih i2 (i3 + (1 : Int32)) (i4 + (1 : Int32)) u5 hF
def fX2_countOwnInNext (n : Nat) (i1 : Int32) (i2 : Int32) (st : zS) : zF Int32 := fX2_countOwnInNext_5 n (fun (i3 : Int32) (st : zS) => some (.inl i3, st)) n i2 (0 : Int32) i1 st
set_option maxHeartbeats 4000000 in
set_option maxRecDepth 100000 in
theorem kX2_countOwnInNext (hl : l.stackTraces = false) (n : Nat) (i1 : Int32) (i2 : Int32) (st : zS) (hn : fX2_countOwnInNext n i1 i2 st ≠ none) : zM (fun v : Int32 => some (.int v)) l yX2_countOwnInNext wsX2_countOwnInNext rmX2_countOwnInNext D zcl (zty cI cR) 57 ad (sce cI cR ad) (sT ad) 0 0 [.ref (ad 0), .int i1, .int i2] st (fX2_countOwnInNext n i1 i2 st) := by
  refine z_ofJ (cc := cX2_countOwnInNext) (maxL := 5) (ret := (some .int)) (lv := [(0, .ref (ad 0)), (1, .int i1), (2, .int i2)]) (by decide) rfl (Nat.le_of_ble_eq_true rfl) rfl ?_
  intro p e s m args below meth c C hne hT hr
  obtain ⟨F, hFe⟩ : ∃ F, F = fX2_countOwnInNext n i1 i2 st := ⟨_, rfl⟩
  rw [← hFe] at hn ⊢
  have hF : fX2_countOwnInNext n i1 i2 st = F := hFe.symm
  clear hFe
  unfold fX2_countOwnInNext at hF
  have C : zC p s m args meth c cX2_countOwnInNext RX2 wsX2_countOwnInNext D zcl (zty cI cR) 57 ad 5 := C
  refine j_iconst (v := (0 : Int32)) C dX2_countOwnInNext_0 (by decide) ?_
  refine j_istore_n (lv' := [(3, .int (0 : Int32)), (0, .ref (ad 0)), (1, .int i1), (2, .int i2)]) C dX2_countOwnInNext_1 rfl (by decide) rfl ?_
  refine j_iload_n C dX2_countOwnInNext_2 rfl 2 rfl ?_
  refine j_istore (lv' := [(4, .int i1), (3, .int (0 : Int32)), (0, .ref (ad 0)), (1, .int i1), (2, .int i2)]) C dX2_countOwnInNext_3 (by decide) rfl ?_
  refine j_sub [2, 4, 1, 0] rfl ?_
  refine wX2_countOwnInNext_5 C hne hl hT hr hn n ?_ n i2 (0 : Int32) i1 st hF
  · intro i3 st hF
    refine j_iload_n C dX2_countOwnInNext_33 rfl 0 rfl ?_
    exact j_iret C hr hF (Nat.le_of_ble_eq_true rfl) (Nat.le_of_ble_eq_true rfl) dX2_countOwnInNext_34
end
/-! X2_letGo -/
def rmX2_letGo : Room := { frames := 11, cells := 0, slots := 0, locals := 160 }
theorem in_X2_letGo_wsX20 : ∀ w ∈ wsX20, w ∈ wsX2_letGo := by decide +kernel
section
variable {p : Program} {l : Launch} {e : Env} {s : State} {m : MethodId} {args : Array Value} {below : List Frame} {meth : Method} {c : Code} {D : va_G} {cI cR : ClassId} {ad : Nat → Nat}
def fX2_letGo (n : Nat) (i1 : Int32) (st : zS) : zF Unit := (if i1 = ((-1) : Int32) then some (.inl (), st) else (zb (fX0_dropHolder n i1 st) (fun (v3 : Unit) (u2 : zS) => some (.inl (), u2))))
set_option maxHeartbeats 4000000 in
set_option maxRecDepth 100000 in
theorem kX2_letGo (hl : l.stackTraces = false) (n : Nat) (i1 : Int32) (st : zS) (hn : fX2_letGo n i1 st ≠ none) : zM (fun _ : Unit => none) l yX2_letGo wsX2_letGo rmX2_letGo D zcl (zty cI cR) 57 ad (sce cI cR ad) (sT ad) 0 0 [.ref (ad 0), .int i1] st (fX2_letGo n i1 st) := by
  refine z_ofJ (cc := cX2_letGo) (maxL := 2) (ret := none) (lv := [(0, .ref (ad 0)), (1, .int i1)]) (by decide) rfl (Nat.le_of_ble_eq_true rfl) rfl ?_
  intro p e s m args below meth c C hne hT hr
  obtain ⟨F, hFe⟩ : ∃ F, F = fX2_letGo n i1 st := ⟨_, rfl⟩
  rw [← hFe] at hn ⊢
  have hF : fX2_letGo n i1 st = F := hFe.symm
  clear hFe
  unfold fX2_letGo at hF
  have C : zC p s m args meth c cX2_letGo RX2 wsX2_letGo D zcl (zty cI cR) 57 ad 2 := C
  refine j_iload_n C dX2_letGo_0 rfl 1 rfl ?_
  refine j_iconst (v := ((-1) : Int32)) C dX2_letGo_1 (by decide) ?_
  refine j_icmp_eq (tgt := 13) C dX2_letGo_2 (by decide) (fun c1 => ?_) (fun c1 => ?_)
  · replace hF := zif_t hF c1
    exact j_vret C hr hF (Nat.le_of_ble_eq_true rfl) (Nat.le_of_ble_eq_true rfl) dX2_letGo_13
  · replace hF := zif_f hF c1
    refine j_aload_n C dX2_letGo_5 rfl 0 rfl ?_
    refine s_get0 C in_X2_letGo_wsX20 1 (by decide) (by decide +kernel) 2 rfl dX2_letGo_6 ?_
    refine j_iload_n C dX2_letGo_9 rfl 1 rfl ?_
    refine j_callVv C hne sT_S hT (q0 := 2) (As := [.int i1]) (rest := []) (kX0_dropHolder hl n i1 st (zb_n hF hn)) (cwV 1 C.1.2.2.2.2 gX2_letGo_X0_dropHolder rfl rfl rfl (by decide +kernel) ⟨(Nat.le_of_ble_eq_true rfl), (Nat.le_of_ble_eq_true rfl)⟩) (by decide) sce_2 rfl rfl rfl (Nat.le_of_ble_eq_true rfl) dX2_letGo_10 ⟨(Nat.le_of_ble_eq_true rfl), (Nat.le_of_ble_eq_true rfl)⟩ (fun _ _ h9 => zb_x hF h9) (Nat.le_of_ble_eq_true rfl) (Nat.le_of_ble_eq_true rfl) (fun v3 u2 h4 => ?_)
    replace hF := zb_l hF h4
    exact j_vret C hr hF (Nat.le_of_ble_eq_true rfl) (Nat.le_of_ble_eq_true rfl) dX2_letGo_13
end
/-! X2_setConstant -/
def rmX2_setConstant : Room := { frames := 12, cells := 0, slots := 0, locals := 200 }
theorem in_X2_setConstant_wsX10 : ∀ w ∈ wsX10, w ∈ wsX2_setConstant := by decide +kernel
section
variable {p : Program} {l : Launch} {e : Env} {s : State} {m : MethodId} {args : Array Value} {below : List Frame} {meth : Method} {c : Code} {D : va_G} {cI cR : ClassId} {ad : Nat → Nat}
def fX2_setConstant (n : Nat) (r1 : Nat) (i2 : Int32) (i3 : Int32) (st : zS) : zF Unit := (if inb i2 (al (r1 + 16)) then (zb (fX2_letGo n (st (r1 + 16) (i2).toNatClampNeg) st) (fun (v3 : Unit) (u2 : zS) => (if inb i2 (al (r1 + 16)) then (zl (upA u2 (r1 + 16) (upd (u2 (r1 + 16)) (i2).toNatClampNeg ((-1) : Int32))) (fun (s6 : zS) => (if inb i2 (al (r1 + 32)) then (zl (upA s6 (r1 + 32) (upd (s6 (r1 + 32)) (i2).toNatClampNeg i3)) (fun (s8 : zS) => some (.inl (), s8))) else none))) else none))) else none)
set_option maxHeartbeats 4000000 in
set_option maxRecDepth 100000 in
theorem kX2_setConstant (hl : l.stackTraces = false) (n : Nat) (r1 : Nat) (hr1 : isRow r1) (i2 : Int32) (i3 : Int32) (st : zS) (hn : fX2_setConstant n r1 i2 i3 st ≠ none) : zM (fun _ : Unit => none) l yX2_setConstant wsX2_setConstant rmX2_setConstant D zcl (zty cI cR) 57 ad (sce cI cR ad) (sT ad) 0 0 [.ref (ad 0), .ref (ad r1), .int i2, .int i3] st (fX2_setConstant n r1 i2 i3 st) := by
  refine z_ofJ (cc := cX2_setConstant) (maxL := 4) (ret := none) (lv := [(0, .ref (ad 0)), (1, .ref (ad r1)), (2, .int i2), (3, .int i3)]) (by decide) rfl (Nat.le_of_ble_eq_true rfl) rfl ?_
  intro p e s m args below meth c C hne hT hr
  obtain ⟨F, hFe⟩ : ∃ F, F = fX2_setConstant n r1 i2 i3 st := ⟨_, rfl⟩
  rw [← hFe] at hn ⊢
  have hF : fX2_setConstant n r1 i2 i3 st = F := hFe.symm
  clear hFe
  unfold fX2_setConstant at hF
  have C : zC p s m args meth c cX2_setConstant RX2 wsX2_setConstant D zcl (zty cI cR) 57 ad 4 := C
  refine j_aload_n C dX2_setConstant_0 rfl 0 rfl ?_
  refine j_aload_n C dX2_setConstant_1 rfl 1 rfl ?_
  refine s_getR C in_X2_setConstant_wsX10 hr1 0 (by decide) (by decide +kernel) rfl dX2_setConstant_2 ?_
  refine j_iload_n C dX2_setConstant_5 rfl 2 rfl ?_
  have b1 := zif_c hF hn
  replace hF := zif_t hF b1
  refine s_iald C (isRow.p hr1) b1 dX2_setConstant_6 ?_
  refine j_callVv C hne sT_S hT (q0 := 0) (As := [.int (st (r1 + 16) (i2).toNatClampNeg)]) (rest := []) (kX2_letGo hl n (st (r1 + 16) (i2).toNatClampNeg) st (zb_n hF hn)) (cwV 1 C.1.2.2.2.2 gX2_setConstant_X2_letGo rfl rfl rfl (by decide +kernel) ⟨(Nat.le_of_ble_eq_true rfl), (Nat.le_of_ble_eq_true rfl)⟩) (by decide) sce_0 rfl rfl rfl (Nat.le_of_ble_eq_true rfl) dX2_setConstant_7 ⟨(Nat.le_of_ble_eq_true rfl), (Nat.le_of_ble_eq_true rfl)⟩ (fun _ _ h9 => zb_x hF h9) (Nat.le_of_ble_eq_true rfl) (Nat.le_of_ble_eq_true rfl) (fun v3 u2 h4 => ?_)
  replace hF := zb_l hF h4
  refine j_aload_n C dX2_setConstant_10 rfl 1 rfl ?_
  refine s_getR C in_X2_setConstant_wsX10 hr1 0 (by decide) (by decide +kernel) rfl dX2_setConstant_11 ?_
  refine j_iload_n C dX2_setConstant_14 rfl 2 rfl ?_
  refine j_iconst (v := ((-1) : Int32)) C dX2_setConstant_15 (by decide) ?_
  have b5 := zif_c hF hn
  replace hF := zif_t hF b5
  refine s_iast C (isRow.p hr1) b5 dX2_setConstant_16 ?_
  obtain ⟨s6, es6, hF⟩ := zl_e hF
  rw [← es6]
  refine j_aload_n C dX2_setConstant_17 rfl 1 rfl ?_
  refine s_getR C in_X2_setConstant_wsX10 hr1 1 (by decide) (by decide +kernel) rfl dX2_setConstant_18 ?_
  refine j_iload_n C dX2_setConstant_21 rfl 2 rfl ?_
  refine j_iload_n C dX2_setConstant_22 rfl 3 rfl ?_
  have b7 := zif_c hF hn
  replace hF := zif_t hF b7
  refine s_iast C (isRow.n hr1) b7 dX2_setConstant_23 ?_
  obtain ⟨s8, es8, hF⟩ := zl_e hF
  rw [← es8]
  exact j_vret C hr hF (Nat.le_of_ble_eq_true rfl) (Nat.le_of_ble_eq_true rfl) dX2_setConstant_24
end
/-! X2_setOwn -/
def rmX2_setOwn : Room := { frames := 12, cells := 0, slots := 0, locals := 200 }
theorem in_X2_setOwn_wsX10 : ∀ w ∈ wsX10, w ∈ wsX2_setOwn := by decide +kernel
theorem in_X2_setOwn_wsX20 : ∀ w ∈ wsX20, w ∈ wsX2_setOwn := by decide +kernel
section
variable {p : Program} {l : Launch} {e : Env} {s : State} {m : MethodId} {args : Array Value} {below : List Frame} {meth : Method} {c : Code} {D : va_G} {cI cR : ClassId} {ad : Nat → Nat}
def fX2_setOwn (n : Nat) (r1 : Nat) (i2 : Int32) (st : zS) : zF Unit := (zb (fX0_take n  st) (fun (v2 : Int32) (u1 : zS) => (zb (fX1_valuesIn n r1 i2 u1) (fun (v5 : Int32) (u4 : zS) => (zb (fX0_write n v2 6 (i2 * (16 : Int32)) v5 u4) (fun (v8 : Unit) (u7 : zS) => (if inb i2 (al (r1 + 16)) then (zb (fX2_letGo n (u7 (r1 + 16) (i2).toNatClampNeg) u7) (fun (v12 : Unit) (u11 : zS) => (if inb i2 (al (r1 + 16)) then (zl (upA u11 (r1 + 16) (upd (u11 (r1 + 16)) (i2).toNatClampNeg v2)) (fun (s15 : zS) => some (.inl (), s15))) else none))) else none)))))))
set_option maxHeartbeats 4000000 in
set_option maxRecDepth 100000 in
theorem kX2_setOwn (hl : l.stackTraces = false) (n : Nat) (r1 : Nat) (hr1 : isRow r1) (i2 : Int32) (st : zS) (hn : fX2_setOwn n r1 i2 st ≠ none) : zM (fun _ : Unit => none) l yX2_setOwn wsX2_setOwn rmX2_setOwn D zcl (zty cI cR) 57 ad (sce cI cR ad) (sT ad) 0 0 [.ref (ad 0), .ref (ad r1), .int i2] st (fX2_setOwn n r1 i2 st) := by
  refine z_ofJ (cc := cX2_setOwn) (maxL := 4) (ret := none) (lv := [(0, .ref (ad 0)), (1, .ref (ad r1)), (2, .int i2)]) (by decide) rfl (Nat.le_of_ble_eq_true rfl) rfl ?_
  intro p e s m args below meth c C hne hT hr
  obtain ⟨F, hFe⟩ : ∃ F, F = fX2_setOwn n r1 i2 st := ⟨_, rfl⟩
  rw [← hFe] at hn ⊢
  have hF : fX2_setOwn n r1 i2 st = F := hFe.symm
  clear hFe
  unfold fX2_setOwn at hF
  have C : zC p s m args meth c cX2_setOwn RX2 wsX2_setOwn D zcl (zty cI cR) 57 ad 4 := C
  refine j_aload_n C dX2_setOwn_0 rfl 0 rfl ?_
  refine s_get0 C in_X2_setOwn_wsX20 1 (by decide) (by decide +kernel) 2 rfl dX2_setOwn_1 ?_
  refine j_callVi C hne sT_S hT (q0 := 2) (As := []) (rest := []) (kX0_take hl n  st (zb_n hF hn)) (cwV 0 C.1.2.2.2.2 gX2_setOwn_X0_take rfl rfl rfl (by decide +kernel) ⟨(Nat.le_of_ble_eq_true rfl), (Nat.le_of_ble_eq_true rfl)⟩) (by decide) sce_2 rfl rfl rfl (Nat.le_of_ble_eq_true rfl) dX2_setOwn_4 ⟨(Nat.le_of_ble_eq_true rfl), (Nat.le_of_ble_eq_true rfl)⟩ (fun _ _ h9 => zb_x hF h9) (Nat.le_of_ble_eq_true rfl) (Nat.le_of_ble_eq_true rfl) (fun v2 u1 h3 => ?_)
  replace hF := zb_l hF h3
  refine j_istore_n (lv' := [(3, .int v2), (0, .ref (ad 0)), (1, .ref (ad r1)), (2, .int i2)]) C dX2_setOwn_7 rfl (by decide) rfl ?_
  refine j_aload_n C dX2_setOwn_8 rfl 1 rfl ?_
  refine s_get0 C in_X2_setOwn_wsX20 1 (by decide) (by decide +kernel) 2 rfl dX2_setOwn_9 ?_
  refine j_iload_n C dX2_setOwn_12 rfl 0 rfl ?_
  refine j_aload_n C dX2_setOwn_13 rfl 1 rfl ?_
  refine s_get0 C in_X2_setOwn_wsX20 2 (by decide) (by decide +kernel) 6 rfl dX2_setOwn_14 ?_
  refine j_iload_n C dX2_setOwn_17 rfl 3 rfl ?_
  refine j_bipush (v := (16 : Int32)) C dX2_setOwn_18 (by decide) ?_
  refine j_imul C dX2_setOwn_20 ?_
  refine j_aload_n C dX2_setOwn_21 rfl 2 rfl ?_
  refine j_iload_n C dX2_setOwn_22 rfl 3 rfl ?_
  refine j_callVi C hne sT_S hT (q0 := r1) (As := [.int i2]) (rest := [.int (i2 * (16 : Int32)), .ref (ad 6), .int v2, .ref (ad 2)]) (kX1_valuesIn hl n r1 hr1 i2 u1 (zb_n hF hn)) (cwV 1 C.1.2.2.2.2 gX2_setOwn_X1_valuesIn rfl rfl rfl (by decide +kernel) ⟨(Nat.le_of_ble_eq_true rfl), (Nat.le_of_ble_eq_true rfl)⟩) (isRow.lt hr1) (sce_row hr1) rfl rfl rfl (Nat.le_of_ble_eq_true rfl) dX2_setOwn_23 ⟨(Nat.le_of_ble_eq_true rfl), (Nat.le_of_ble_eq_true rfl)⟩ (fun _ _ h9 => zb_x hF h9) (Nat.le_of_ble_eq_true rfl) (Nat.le_of_ble_eq_true rfl) (fun v5 u4 h6 => ?_)
  replace hF := zb_l hF h6
  refine j_callVv C hne sT_S hT (q0 := 2) (As := [.int v2, .ref (ad 6), .int (i2 * (16 : Int32)), .int v5]) (rest := []) (kX0_write hl n v2 6 (by decide) (i2 * (16 : Int32)) v5 u4 (zb_n hF hn)) (cwV 4 C.1.2.2.2.2 gX2_setOwn_X0_write rfl rfl rfl (by decide +kernel) ⟨(Nat.le_of_ble_eq_true rfl), (Nat.le_of_ble_eq_true rfl)⟩) (by decide) sce_2 rfl rfl rfl (Nat.le_of_ble_eq_true rfl) dX2_setOwn_26 ⟨(Nat.le_of_ble_eq_true rfl), (Nat.le_of_ble_eq_true rfl)⟩ (fun _ _ h9 => zb_x hF h9) (Nat.le_of_ble_eq_true rfl) (Nat.le_of_ble_eq_true rfl) (fun v8 u7 h9 => ?_)
  replace hF := zb_l hF h9
  refine j_aload_n C dX2_setOwn_29 rfl 1 rfl ?_
  refine j_aload_n C dX2_setOwn_30 rfl 2 rfl ?_
  refine s_getR C in_X2_setOwn_wsX10 hr1 0 (by decide) (by decide +kernel) rfl dX2_setOwn_31 ?_
  refine j_iload_n C dX2_setOwn_34 rfl 3 rfl ?_
  have b10 := zif_c hF hn
  replace hF := zif_t hF b10
  refine s_iald C (isRow.p hr1) b10 dX2_setOwn_35 ?_
  refine j_callVv C hne sT_S hT (q0 := 0) (As := [.int (u7 (r1 + 16) (i2).toNatClampNeg)]) (rest := []) (kX2_letGo hl n (u7 (r1 + 16) (i2).toNatClampNeg) u7 (zb_n hF hn)) (cwV 1 C.1.2.2.2.2 gX2_setOwn_X2_letGo rfl rfl rfl (by decide +kernel) ⟨(Nat.le_of_ble_eq_true rfl), (Nat.le_of_ble_eq_true rfl)⟩) (by decide) sce_0 rfl rfl rfl (Nat.le_of_ble_eq_true rfl) dX2_setOwn_36 ⟨(Nat.le_of_ble_eq_true rfl), (Nat.le_of_ble_eq_true rfl)⟩ (fun _ _ h9 => zb_x hF h9) (Nat.le_of_ble_eq_true rfl) (Nat.le_of_ble_eq_true rfl) (fun v12 u11 h13 => ?_)
  replace hF := zb_l hF h13
  refine j_aload_n C dX2_setOwn_39 rfl 2 rfl ?_
  refine s_getR C in_X2_setOwn_wsX10 hr1 0 (by decide) (by decide +kernel) rfl dX2_setOwn_40 ?_
  refine j_iload_n C dX2_setOwn_43 rfl 3 rfl ?_
  refine j_iload_n C dX2_setOwn_44 rfl 0 rfl ?_
  have b14 := zif_c hF hn
  replace hF := zif_t hF b14
  refine s_iast C (isRow.p hr1) b14 dX2_setOwn_45 ?_
  obtain ⟨s15, es15, hF⟩ := zl_e hF
  rw [← es15]
  exact j_vret C hr hF (Nat.le_of_ble_eq_true rfl) (Nat.le_of_ble_eq_true rfl) dX2_setOwn_46
end
/-! X2_newLeaves -/
def rmX2_newLeaves : Room := { frames := 13, cells := 0, slots := 0, locals := 240 }
theorem in_X2_newLeaves_wsX10 : ∀ w ∈ wsX10, w ∈ wsX2_newLeaves := by decide +kernel
theorem in_X2_newLeaves_wsX20 : ∀ w ∈ wsX20, w ∈ wsX2_newLeaves := by decide +kernel
section
variable {p : Program} {l : Launch} {e : Env} {s : State} {m : MethodId} {args : Array Value} {below : List Frame} {meth : Method} {c : Code} {D : va_G} {cI cR : ClassId} {ad : Nat → Nat}
def fX2_newLeaves_2 (n : Nat) (X_52 : zS → zF Unit) : Nat → Nat → Int32 → zS → zF Unit
  | 0, _, _, _ => none
  | k + 1, r1, i3, st => (zb (fX1_leafCount n r1 st) (fun (v2 : Int32) (u1 : zS) => (if v2 ≤ i3 then X_52 u1 else (zb (fX2_isOneNumberInNext n i3 (u1 r1 3) u1) (fun (v6 : Int32) (u5 : zS) => (if v6 = 0 then (zb (fX2_setOwn n r1 i3 u5) (fun (v10 : Unit) (u9 : zS) => fX2_newLeaves_2 n X_52 k r1 (i3 + (1 : Int32)) u9)) else (if inb (i3 * (16 : Int32)) (al 6) then (zb (fX2_setConstant n r1 i3 (u5 6 ((i3 * (16 : Int32))).toNatClampNeg) u5) (fun (v14 : Unit) (u13 : zS) => fX2_newLeaves_2 n X_52 k r1 (i3 + (1 : Int32)) u13)) else none)))))))
set_option maxHeartbeats 4000000 in
set_option maxRecDepth 100000 in
theorem wX2_newLeaves_2 (C : zC p s m args meth c cX2_newLeaves RX2 wsX2_newLeaves D zcl (zty cI cR) 57 ad 4) (hne : ∀ x ∈ c.exceptionTable.toList, False) (hl : l.stackTraces = false) (hT : (sT ad) s.heap.size s) (hr : meth.sig.returnType = none) {F : zF Unit} (hn : F ≠ none) (n : Nat) {X_52 : zS → zF Unit} (hX_52 : ∀  (st : zS), X_52 st = F → sJ (fun _ : Unit => none) F 0 0 p l e rmX2_newLeaves s m args below meth c D cI cR ad 4 st 0 0 52 [] []) : ∀ (k : Nat) (r1 : Nat) (hr1 : isRow r1) (i3 : Int32) (st : zS), fX2_newLeaves_2 n X_52 k r1 i3 st = F → sJ (fun _ : Unit => none) F 0 0 p l e rmX2_newLeaves s m args below meth c D cI cR ad 4 st 0 0 2 [(0, .ref (ad 0)), (1, .ref (ad r1)), (3, .int i3)] [] := by
  intro k
  induction k with
  | zero =>
    intro r1 hr1 i3 st hF
    exact absurd hF.symm hn
  | succ k ih =>
    intro r1 hr1 i3 st hF
    rw [fX2_newLeaves_2] at hF
    refine j_iload_n C dX2_newLeaves_2 rfl 2 rfl ?_
    refine j_aload_n C dX2_newLeaves_3 rfl 1 rfl ?_
    refine j_callVi C hne sT_S hT (q0 := r1) (As := []) (rest := [.int i3]) (kX1_leafCount hl n r1 hr1 st (zb_n hF hn)) (cwV 0 C.1.2.2.2.2 gX2_newLeaves_X1_leafCount rfl rfl rfl (by decide +kernel) ⟨(Nat.le_of_ble_eq_true rfl), (Nat.le_of_ble_eq_true rfl)⟩) (isRow.lt hr1) (sce_row hr1) rfl rfl rfl (Nat.le_of_ble_eq_true rfl) dX2_newLeaves_4 ⟨(Nat.le_of_ble_eq_true rfl), (Nat.le_of_ble_eq_true rfl)⟩ (fun _ _ h9 => zb_x hF h9) (Nat.le_of_ble_eq_true rfl) (Nat.le_of_ble_eq_true rfl) (fun v2 u1 h3 => ?_)
    replace hF := zb_l hF h3
    refine j_icmp_ge (tgt := 52) C dX2_newLeaves_7 (by decide) (fun c4 => ?_) (fun c4 => ?_)
    · replace hF := zif_t hF c4
      refine j_sub [] rfl ?_
      exact hX_52 u1 hF
    · replace hF := zif_f hF c4
      refine j_aload_n C dX2_newLeaves_10 rfl 0 rfl ?_
      refine j_iload_n C dX2_newLeaves_11 rfl 2 rfl ?_
      refine j_aload_n C dX2_newLeaves_12 rfl 1 rfl ?_
      refine s_getR C in_X2_newLeaves_wsX10 hr1 3 (by decide) (by decide +kernel) rfl dX2_newLeaves_13 ?_
      refine j_callVi C hne sT_S hT (q0 := 0) (As := [.int i3, .int (u1 r1 3)]) (rest := []) (kX2_isOneNumberInNext hl n i3 (u1 r1 3) u1 (zb_n hF hn)) (cwV 2 C.1.2.2.2.2 gX2_newLeaves_X2_isOneNumberInNext rfl rfl rfl (by decide +kernel) ⟨(Nat.le_of_ble_eq_true rfl), (Nat.le_of_ble_eq_true rfl)⟩) (by decide) sce_0 rfl rfl rfl (Nat.le_of_ble_eq_true rfl) dX2_newLeaves_16 ⟨(Nat.le_of_ble_eq_true rfl), (Nat.le_of_ble_eq_true rfl)⟩ (fun _ _ h9 => zb_x hF h9) (Nat.le_of_ble_eq_true rfl) (Nat.le_of_ble_eq_true rfl) (fun v6 u5 h7 => ?_)
      replace hF := zb_l hF h7
      refine j_if_eq (tgt := 40) C dX2_newLeaves_19 (by decide) (fun c8 => ?_) (fun c8 => ?_)
      · replace hF := zif_t hF c8
        refine j_aload_n C dX2_newLeaves_40 rfl 0 rfl ?_
        refine j_aload_n C dX2_newLeaves_41 rfl 1 rfl ?_
        refine j_iload_n C dX2_newLeaves_42 rfl 2 rfl ?_
        refine j_callVv C hne sT_S hT (q0 := 0) (As := [.ref (ad r1), .int i3]) (rest := []) (kX2_setOwn hl n r1 hr1 i3 u5 (zb_n hF hn)) (cwV 2 C.1.2.2.2.2 gX2_newLeaves_X2_setOwn rfl rfl rfl (by decide +kernel) ⟨(Nat.le_of_ble_eq_true rfl), (Nat.le_of_ble_eq_true rfl)⟩) (by decide) sce_0 rfl rfl rfl (Nat.le_of_ble_eq_true rfl) dX2_newLeaves_43 ⟨(Nat.le_of_ble_eq_true rfl), (Nat.le_of_ble_eq_true rfl)⟩ (fun _ _ h9 => zb_x hF h9) (Nat.le_of_ble_eq_true rfl) (Nat.le_of_ble_eq_true rfl) (fun v10 u9 h11 => ?_)
        replace hF := zb_l hF h11
        refine j_iinc (lv' := [(3, .int (i3 + (1 : Int32))), (0, .ref (ad 0)), (1, .ref (ad r1))]) C dX2_newLeaves_46 2 rfl rfl (by decide) rfl ?_
        refine j_goto (tgt := 2) C dX2_newLeaves_49 (by decide) ?_
        refine j_sub [1, 2, 0] rfl ?_
        exact ih r1 hr1 (i3 + (1 : Int32)) u9 hF
      · replace hF := zif_f hF c8
        refine j_aload_n C dX2_newLeaves_22 rfl 0 rfl ?_
        refine j_aload_n C dX2_newLeaves_23 rfl 1 rfl ?_
        refine j_iload_n C dX2_newLeaves_24 rfl 2 rfl ?_
        refine j_aload_n C dX2_newLeaves_25 rfl 0 rfl ?_
        refine s_get0 C in_X2_newLeaves_wsX20 2 (by decide) (by decide +kernel) 6 rfl dX2_newLeaves_26 ?_
        refine j_iload_n C dX2_newLeaves_29 rfl 2 rfl ?_
        refine j_bipush (v := (16 : Int32)) C dX2_newLeaves_30 (by decide) ?_
        refine j_imul C dX2_newLeaves_32 ?_
        have b12 := zif_c hF hn
        replace hF := zif_t hF b12
        refine s_iald C (by decide) b12 dX2_newLeaves_33 ?_
        refine j_callVv C hne sT_S hT (q0 := 0) (As := [.ref (ad r1), .int i3, .int (u5 6 ((i3 * (16 : Int32))).toNatClampNeg)]) (rest := []) (kX2_setConstant hl n r1 hr1 i3 (u5 6 ((i3 * (16 : Int32))).toNatClampNeg) u5 (zb_n hF hn)) (cwV 3 C.1.2.2.2.2 gX2_newLeaves_X2_setConstant rfl rfl rfl (by decide +kernel) ⟨(Nat.le_of_ble_eq_true rfl), (Nat.le_of_ble_eq_true rfl)⟩) (by decide) sce_0 rfl rfl rfl (Nat.le_of_ble_eq_true rfl) dX2_newLeaves_34 ⟨(Nat.le_of_ble_eq_true rfl), (Nat.le_of_ble_eq_true rfl)⟩ (fun _ _ h9 => zb_x hF h9) (Nat.le_of_ble_eq_true rfl) (Nat.le_of_ble_eq_true rfl) (fun v14 u13 h15 => ?_)
        replace hF := zb_l hF h15
        refine j_goto (tgt := 46) C dX2_newLeaves_37 (by decide) ?_
        refine j_iinc (lv' := [(3, .int (i3 + (1 : Int32))), (0, .ref (ad 0)), (1, .ref (ad r1))]) C dX2_newLeaves_46 2 rfl rfl (by decide) rfl ?_
        refine j_goto (tgt := 2) C dX2_newLeaves_49 (by decide) ?_
        refine j_sub [1, 2, 0] rfl ?_
        exact ih r1 hr1 (i3 + (1 : Int32)) u13 hF
def fX2_newLeaves (n : Nat) (r1 : Nat) (i2 : Int32) (st : zS) : zF Unit := fX2_newLeaves_2 n (fun  (st : zS) => some (.inl (), st)) n r1 i2 st
set_option maxHeartbeats 4000000 in
set_option maxRecDepth 100000 in
theorem kX2_newLeaves (hl : l.stackTraces = false) (n : Nat) (r1 : Nat) (hr1 : isRow r1) (i2 : Int32) (st : zS) (hn : fX2_newLeaves n r1 i2 st ≠ none) : zM (fun _ : Unit => none) l yX2_newLeaves wsX2_newLeaves rmX2_newLeaves D zcl (zty cI cR) 57 ad (sce cI cR ad) (sT ad) 0 0 [.ref (ad 0), .ref (ad r1), .int i2] st (fX2_newLeaves n r1 i2 st) := by
  refine z_ofJ (cc := cX2_newLeaves) (maxL := 4) (ret := none) (lv := [(0, .ref (ad 0)), (1, .ref (ad r1)), (2, .int i2)]) (by decide) rfl (Nat.le_of_ble_eq_true rfl) rfl ?_
  intro p e s m args below meth c C hne hT hr
  obtain ⟨F, hFe⟩ : ∃ F, F = fX2_newLeaves n r1 i2 st := ⟨_, rfl⟩
  rw [← hFe] at hn ⊢
  have hF : fX2_newLeaves n r1 i2 st = F := hFe.symm
  clear hFe
  unfold fX2_newLeaves at hF
  have C : zC p s m args meth c cX2_newLeaves RX2 wsX2_newLeaves D zcl (zty cI cR) 57 ad 4 := C
  refine j_iload_n C dX2_newLeaves_0 rfl 2 rfl ?_
  refine j_istore_n (lv' := [(3, .int i2), (0, .ref (ad 0)), (1, .ref (ad r1)), (2, .int i2)]) C dX2_newLeaves_1 rfl (by decide) rfl ?_
  refine j_sub [1, 2, 0] rfl ?_
  refine wX2_newLeaves_2 C hne hl hT hr hn n ?_ n r1 hr1 i2 st hF
  · intro  st hF
    exact j_vret C hr hF (Nat.le_of_ble_eq_true rfl) (Nat.le_of_ble_eq_true rfl) dX2_newLeaves_52
end
/-! X2_shareLeaves -/
def rmX2_shareLeaves : Room := { frames := 11, cells := 0, slots := 0, locals := 160 }
theorem in_X2_shareLeaves_wsX10 : ∀ w ∈ wsX10, w ∈ wsX2_shareLeaves := by decide +kernel
theorem in_X2_shareLeaves_wsX20 : ∀ w ∈ wsX20, w ∈ wsX2_shareLeaves := by decide +kernel
section
variable {p : Program} {l : Launch} {e : Env} {s : State} {m : MethodId} {args : Array Value} {below : List Frame} {meth : Method} {c : Code} {D : va_G} {cI cR : ClassId} {ad : Nat → Nat}
def fX2_shareLeaves_3 (n : Nat) (X_73 : zS → zF Unit) : Nat → Nat → Int32 → Nat → Int32 → Int32 → Int32 → zS → zF Unit
  | 0, _, _, _, _, _, _, _ => none
  | k + 1, r1, i2, r3, i4, i5, i6, st => (if i5 ≤ i6 then X_73 st else (if inb (i2 + i6) (al (r1 + 16)) then (if inb (i4 + i6) (al (r3 + 16)) then (zl (upA st (r3 + 16) (upd (st (r3 + 16)) ((i4 + i6)).toNatClampNeg (st (r1 + 16) ((i2 + i6)).toNatClampNeg))) (fun (s4 : zS) => (if inb (i2 + i6) (al (r1 + 32)) then (if inb (i4 + i6) (al (r3 + 32)) then (zl (upA s4 (r3 + 32) (upd (s4 (r3 + 32)) ((i4 + i6)).toNatClampNeg (s4 (r1 + 32) ((i2 + i6)).toNatClampNeg))) (fun (s7 : zS) => (if (st (r1 + 16) ((i2 + i6)).toNatClampNeg) = ((-1) : Int32) then fX2_shareLeaves_3 n X_73 k r1 i2 r3 i4 i5 (i6 + (1 : Int32)) s7 else (zb (fX0_addHolder n (st (r1 + 16) ((i2 + i6)).toNatClampNeg) s7) (fun (v10 : Unit) (u9 : zS) => fX2_shareLeaves_3 n X_73 k r1 i2 r3 i4 i5 (i6 + (1 : Int32)) u9))))) else none) else none))) else none) else none))
set_option maxHeartbeats 4000000 in
set_option maxRecDepth 100000 in
theorem wX2_shareLeaves_3 (C : zC p s m args meth c cX2_shareLeaves RX2 wsX2_shareLeaves D zcl (zty cI cR) 57 ad 8) (hne : ∀ x ∈ c.exceptionTable.toList, False) (hl : l.stackTraces = false) (hT : (sT ad) s.heap.size s) (hr : meth.sig.returnType = none) {F : zF Unit} (hn : F ≠ none) (n : Nat) {X_73 : zS → zF Unit} (hX_73 : ∀  (st : zS), X_73 st = F → sJ (fun _ : Unit => none) F 0 0 p l e rmX2_shareLeaves s m args below meth c D cI cR ad 8 st 0 0 73 [] []) : ∀ (k : Nat) (r1 : Nat) (hr1 : isRow r1) (i2 : Int32) (r3 : Nat) (hr3 : isRow r3) (i4 : Int32) (i5 : Int32) (i6 : Int32) (st : zS), fX2_shareLeaves_3 n X_73 k r1 i2 r3 i4 i5 i6 st = F → sJ (fun _ : Unit => none) F 0 0 p l e rmX2_shareLeaves s m args below meth c D cI cR ad 8 st 0 0 3 [(0, .ref (ad 0)), (1, .ref (ad r1)), (2, .int i2), (3, .ref (ad r3)), (4, .int i4), (5, .int i5), (6, .int i6)] [] := by
  intro k
  induction k with
  | zero =>
    intro r1 hr1 i2 r3 hr3 i4 i5 i6 st hF
    exact absurd hF.symm hn
  | succ k ih =>
    intro r1 hr1 i2 r3 hr3 i4 i5 i6 st hF
    rw [fX2_shareLeaves_3] at hF
    refine j_iload C dX2_shareLeaves_3 6 rfl ?_
    refine j_iload C dX2_shareLeaves_5 5 rfl ?_
    refine j_icmp_ge (tgt := 73) C dX2_shareLeaves_7 (by decide) (fun c1 => ?_) (fun c1 => ?_)
    · replace hF := zif_t hF c1
      refine j_sub [] rfl ?_
      exact hX_73 st hF
    · replace hF := zif_f hF c1
      refine j_aload_n C dX2_shareLeaves_10 rfl 1 rfl ?_
      refine s_getR C in_X2_shareLeaves_wsX10 hr1 0 (by decide) (by decide +kernel) rfl dX2_shareLeaves_11 ?_
      refine j_iload_n C dX2_shareLeaves_14 rfl 2 rfl ?_
      refine j_iload C dX2_shareLeaves_15 6 rfl ?_
      refine j_iadd C dX2_shareLeaves_17 ?_
      have b2 := zif_c hF hn
      replace hF := zif_t hF b2
      refine s_iald C (isRow.p hr1) b2 dX2_shareLeaves_18 ?_
      refine j_istore (lv' := [(7, .int (st (r1 + 16) ((i2 + i6)).toNatClampNeg)), (0, .ref (ad 0)), (1, .ref (ad r1)), (2, .int i2), (3, .ref (ad r3)), (4, .int i4), (5, .int i5), (6, .int i6)]) C dX2_shareLeaves_19 (by decide) rfl ?_
      refine j_aload_n C dX2_shareLeaves_21 rfl 4 rfl ?_
      refine s_getR C in_X2_shareLeaves_wsX10 hr3 0 (by decide) (by decide +kernel) rfl dX2_shareLeaves_22 ?_
      refine j_iload C dX2_shareLeaves_25 5 rfl ?_
      refine j_iload C dX2_shareLeaves_27 7 rfl ?_
      refine j_iadd C dX2_shareLeaves_29 ?_
      refine j_iload C dX2_shareLeaves_30 0 rfl ?_
      have b3 := zif_c hF hn
      replace hF := zif_t hF b3
      refine s_iast C (isRow.p hr3) b3 dX2_shareLeaves_32 ?_
      obtain ⟨s4, es4, hF⟩ := zl_e hF
      rw [← es4]
      refine j_aload_n C dX2_shareLeaves_33 rfl 4 rfl ?_
      refine s_getR C in_X2_shareLeaves_wsX10 hr3 1 (by decide) (by decide +kernel) rfl dX2_shareLeaves_34 ?_
      refine j_iload C dX2_shareLeaves_37 5 rfl ?_
      refine j_iload C dX2_shareLeaves_39 7 rfl ?_
      refine j_iadd C dX2_shareLeaves_41 ?_
      refine j_aload_n C dX2_shareLeaves_42 rfl 2 rfl ?_
      refine s_getR C in_X2_shareLeaves_wsX10 hr1 1 (by decide) (by decide +kernel) rfl dX2_shareLeaves_43 ?_
      refine j_iload_n C dX2_shareLeaves_46 rfl 3 rfl ?_
      refine j_iload C dX2_shareLeaves_47 7 rfl ?_
      refine j_iadd C dX2_shareLeaves_49 ?_
      have b5 := zif_c hF hn
      replace hF := zif_t hF b5
      refine s_iald C (isRow.n hr1) b5 dX2_shareLeaves_50 ?_
      have b6 := zif_c hF hn
      replace hF := zif_t hF b6
      refine s_iast C (isRow.n hr3) b6 dX2_shareLeaves_51 ?_
      obtain ⟨s7, es7, hF⟩ := zl_e hF
      rw [← es7]
      refine j_iload C dX2_shareLeaves_52 0 rfl ?_
      refine j_iconst (v := ((-1) : Int32)) C dX2_shareLeaves_54 (by decide) ?_
      refine j_icmp_eq (tgt := 67) C dX2_shareLeaves_55 (by decide) (fun c8 => ?_) (fun c8 => ?_)
      · replace hF := zif_t hF c8
        refine j_iinc (lv' := [(6, .int (i6 + (1 : Int32))), (7, .int (st (r1 + 16) ((i2 + i6)).toNatClampNeg)), (0, .ref (ad 0)), (1, .ref (ad r1)), (2, .int i2), (3, .ref (ad r3)), (4, .int i4), (5, .int i5)]) C dX2_shareLeaves_67 7 rfl rfl (by decide) rfl ?_
        refine j_goto (tgt := 3) C dX2_shareLeaves_70 (by decide) ?_
        refine j_sub [2, 3, 4, 5, 6, 7, 0] rfl ?_
        exact ih r1 hr1 i2 r3 hr3 i4 i5 (i6 + (1 : Int32)) s7 hF
      · replace hF := zif_f hF c8
        refine j_aload_n C dX2_shareLeaves_58 rfl 1 rfl ?_
        refine s_get0 C in_X2_shareLeaves_wsX20 1 (by decide) (by decide +kernel) 2 rfl dX2_shareLeaves_59 ?_
        refine j_iload C dX2_shareLeaves_62 0 rfl ?_
        refine j_callVv C hne sT_S hT (q0 := 2) (As := [.int (st (r1 + 16) ((i2 + i6)).toNatClampNeg)]) (rest := []) (kX0_addHolder hl n (st (r1 + 16) ((i2 + i6)).toNatClampNeg) s7 (zb_n hF hn)) (cwV 1 C.1.2.2.2.2 gX2_shareLeaves_X0_addHolder rfl rfl rfl (by decide +kernel) ⟨(Nat.le_of_ble_eq_true rfl), (Nat.le_of_ble_eq_true rfl)⟩) (by decide) sce_2 rfl rfl rfl (Nat.le_of_ble_eq_true rfl) dX2_shareLeaves_64 ⟨(Nat.le_of_ble_eq_true rfl), (Nat.le_of_ble_eq_true rfl)⟩ (fun _ _ h9 => zb_x hF h9) (Nat.le_of_ble_eq_true rfl) (Nat.le_of_ble_eq_true rfl) (fun v10 u9 h11 => ?_)
        replace hF := zb_l hF h11
        refine j_iinc (lv' := [(6, .int (i6 + (1 : Int32))), (7, .int (st (r1 + 16) ((i2 + i6)).toNatClampNeg)), (0, .ref (ad 0)), (1, .ref (ad r1)), (2, .int i2), (3, .ref (ad r3)), (4, .int i4), (5, .int i5)]) C dX2_shareLeaves_67 7 rfl rfl (by decide) rfl ?_
        refine j_goto (tgt := 3) C dX2_shareLeaves_70 (by decide) ?_
        refine j_sub [2, 3, 4, 5, 6, 7, 0] rfl ?_
        exact ih r1 hr1 i2 r3 hr3 i4 i5 (i6 + (1 : Int32)) u9 hF
def fX2_shareLeaves (n : Nat) (r1 : Nat) (i2 : Int32) (r3 : Nat) (i4 : Int32) (i5 : Int32) (st : zS) : zF Unit := fX2_shareLeaves_3 n (fun  (st : zS) => some (.inl (), st)) n r1 i2 r3 i4 i5 (0 : Int32) st
set_option maxHeartbeats 4000000 in
set_option maxRecDepth 100000 in
theorem kX2_shareLeaves (hl : l.stackTraces = false) (n : Nat) (r1 : Nat) (hr1 : isRow r1) (i2 : Int32) (r3 : Nat) (hr3 : isRow r3) (i4 : Int32) (i5 : Int32) (st : zS) (hn : fX2_shareLeaves n r1 i2 r3 i4 i5 st ≠ none) : zM (fun _ : Unit => none) l yX2_shareLeaves wsX2_shareLeaves rmX2_shareLeaves D zcl (zty cI cR) 57 ad (sce cI cR ad) (sT ad) 0 0 [.ref (ad 0), .ref (ad r1), .int i2, .ref (ad r3), .int i4, .int i5] st (fX2_shareLeaves n r1 i2 r3 i4 i5 st) := by
  refine z_ofJ (cc := cX2_shareLeaves) (maxL := 8) (ret := none) (lv := [(0, .ref (ad 0)), (1, .ref (ad r1)), (2, .int i2), (3, .ref (ad r3)), (4, .int i4), (5, .int i5)]) (by decide) rfl (Nat.le_of_ble_eq_true rfl) rfl ?_
  intro p e s m args below meth c C hne hT hr
  obtain ⟨F, hFe⟩ : ∃ F, F = fX2_shareLeaves n r1 i2 r3 i4 i5 st := ⟨_, rfl⟩
  rw [← hFe] at hn ⊢
  have hF : fX2_shareLeaves n r1 i2 r3 i4 i5 st = F := hFe.symm
  clear hFe
  unfold fX2_shareLeaves at hF
  have C : zC p s m args meth c cX2_shareLeaves RX2 wsX2_shareLeaves D zcl (zty cI cR) 57 ad 8 := C
  refine j_iconst (v := (0 : Int32)) C dX2_shareLeaves_0 (by decide) ?_
  refine j_istore (lv' := [(6, .int (0 : Int32)), (0, .ref (ad 0)), (1, .ref (ad r1)), (2, .int i2), (3, .ref (ad r3)), (4, .int i4), (5, .int i5)]) C dX2_shareLeaves_1 (by decide) rfl ?_
  refine j_sub [1, 2, 3, 4, 5, 6, 0] rfl ?_
  refine wX2_shareLeaves_3 C hne hl hT hr hn n ?_ n r1 hr1 i2 r3 hr3 i4 i5 (0 : Int32) st hF
  · intro  st hF
    exact j_vret C hr hF (Nat.le_of_ble_eq_true rfl) (Nat.le_of_ble_eq_true rfl) dX2_shareLeaves_73
end
