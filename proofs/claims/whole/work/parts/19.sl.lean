/-! X2_length -/
def rmX2_length : Room := { frames := 11, cells := 0, slots := 0, locals := 160 }
theorem in_X2_length_wsX10 : ∀ w ∈ wsX10, w ∈ wsX2_length := by decide +kernel
theorem in_X2_length_wsX20 : ∀ w ∈ wsX20, w ∈ wsX2_length := by decide +kernel
section
variable {p : Program} {l : Launch} {e : Env} {s : State} {m : MethodId} {args : Array Value} {below : List Frame} {meth : Method} {c : Code} {D : va_G} {cI cR : ClassId} {ad : Nat → Nat}
def fX2_length (n : Nat) (i1 : Int32) (st : zS) : zF Int32 := (zb (fX2_isThere n i1 st) (fun (v2 : Int32) (u1 : zS) => (if v2 = 0 then some (.inl ((-1) : Int32), u1) else (if inb i1 16 then some (.inl (u1 (9 + (i1).toNatClampNeg) 3), u1) else none))))
set_option maxHeartbeats 4000000 in
set_option maxRecDepth 100000 in
theorem kX2_length (hl : l.stackTraces = false) (n : Nat) (i1 : Int32) (st : zS) (hn : fX2_length n i1 st ≠ none) : zM (fun v : Int32 => some (.int v)) l yX2_length wsX2_length rmX2_length D zcl (zty cI cR) 57 ad (sce cI cR ad) (sT ad) 0 0 [.ref (ad 0), .int i1] st (fX2_length n i1 st) := by
  refine z_ofJ (cc := cX2_length) (maxL := 2) (ret := (some .int)) (lv := [(0, .ref (ad 0)), (1, .int i1)]) (by decide) rfl (Nat.le_of_ble_eq_true rfl) rfl ?_
  intro p e s m args below meth c C hne hT hr
  obtain ⟨F, hFe⟩ : ∃ F, F = fX2_length n i1 st := ⟨_, rfl⟩
  rw [← hFe] at hn ⊢
  have hF : fX2_length n i1 st = F := hFe.symm
  clear hFe
  unfold fX2_length at hF
  have C : zC p s m args meth c cX2_length RX2 wsX2_length D zcl (zty cI cR) 57 ad 2 := C
  refine j_aload_n C dX2_length_0 rfl 0 rfl ?_
  refine j_iload_n C dX2_length_1 rfl 1 rfl ?_
  refine j_callVi C hne sT_S hT (q0 := 0) (As := [.int i1]) (rest := []) (kX2_isThere hl n i1 st (zb_n hF hn)) (cwV 1 C.1.2.2.2.2 gX2_length_X2_isThere rfl rfl rfl (by decide +kernel) ⟨(Nat.le_of_ble_eq_true rfl), (Nat.le_of_ble_eq_true rfl)⟩) (by decide) sce_0 rfl rfl rfl (Nat.le_of_ble_eq_true rfl) dX2_length_2 ⟨(Nat.le_of_ble_eq_true rfl), (Nat.le_of_ble_eq_true rfl)⟩ (fun _ _ h9 => zb_x hF h9) (Nat.le_of_ble_eq_true rfl) (Nat.le_of_ble_eq_true rfl) (fun v2 u1 h3 => ?_)
  replace hF := zb_l hF h3
  refine j_if_eq (tgt := 20) C dX2_length_5 (by decide) (fun c4 => ?_) (fun c4 => ?_)
  · replace hF := zif_t hF c4
    refine j_iconst (v := ((-1) : Int32)) C dX2_length_20 (by decide) ?_
    exact j_iret C hr hF (Nat.le_of_ble_eq_true rfl) (Nat.le_of_ble_eq_true rfl) dX2_length_21
  · replace hF := zif_f hF c4
    refine j_aload_n C dX2_length_8 rfl 0 rfl ?_
    refine s_get0 C in_X2_length_wsX20 0 (by decide) (by decide +kernel) 1 rfl dX2_length_9 ?_
    refine j_iload_n C dX2_length_12 rfl 1 rfl ?_
    have b5 := zif_c hF hn
    replace hF := zif_t hF b5
    refine s_aald C b5 dX2_length_13 ?_
    refine s_getR C in_X2_length_wsX10 (inb.row b5) 3 (by decide) (by decide +kernel) rfl dX2_length_14 ?_
    refine j_goto (tgt := 21) C dX2_length_17 (by decide) ?_
    exact j_iret C hr hF (Nat.le_of_ble_eq_true rfl) (Nat.le_of_ble_eq_true rfl) dX2_length_21
end
/-! X2_sum -/
def rmX2_sum : Room := { frames := 13, cells := 2, slots := 12, locals := 240 }
theorem in_X2_sum_wsX20 : ∀ w ∈ wsX20, w ∈ wsX2_sum := by decide +kernel
section
variable {p : Program} {l : Launch} {e : Env} {s : State} {m : MethodId} {args : Array Value} {below : List Frame} {meth : Method} {c : Code} {D : va_G} {cI cR : ClassId} {ad : Nat → Nat}
def fX2_sum_33 (n : Nat) (X_58 : Int64 → zS → zF Int64) : Nat → Int32 → Int64 → Int32 → zS → zF Int64
  | 0, _, _, _, _ => none
  | k + 1, i3, l5, i7, st => (if i3 ≤ i7 then X_58 l5 st else (if inb i7 (al 6) then fX2_sum_33 n X_58 k i3 (l5 + ((st 6 (i7).toNatClampNeg)).toInt64) (i7 + (1 : Int32)) st else none))
set_option maxHeartbeats 4000000 in
set_option maxRecDepth 100000 in
theorem wX2_sum_33 (C : zC p s m args meth c cX2_sum RX2 wsX2_sum D zcl (zty cI cR) 57 ad 8) (hne : ∀ x ∈ c.exceptionTable.toList, False) (hl : l.stackTraces = false) (hT : (sT ad) s.heap.size s) (hr : meth.sig.returnType = (some .long)) {F : zF Int64} (hn : F ≠ none) (n : Nat) {X_58 : Int64 → zS → zF Int64} (hX_58 : ∀ (l5 : Int64) (st : zS), X_58 l5 st = F → sJ (fun v : Int64 => some (.long v)) F 2 12 p l e rmX2_sum s m args below meth c D cI cR ad 8 st 2 12 58 [(5, .long l5)] []) : ∀ (k : Nat) (i3 : Int32) (l5 : Int64) (i7 : Int32) (st : zS), fX2_sum_33 n X_58 k i3 l5 i7 st = F → sJ (fun v : Int64 => some (.long v)) F 2 12 p l e rmX2_sum s m args below meth c D cI cR ad 8 st 2 12 33 [(0, .ref (ad 0)), (3, .int i3), (5, .long l5), (7, .int i7)] [] := by
  intro k
  induction k with
  | zero =>
    intro i3 l5 i7 st hF
    exact absurd hF.symm hn
  | succ k ih =>
    intro i3 l5 i7 st hF
    rw [fX2_sum_33] at hF
    refine j_iload C dX2_sum_33 3 rfl ?_
    refine j_iload_n C dX2_sum_35 rfl 1 rfl ?_
    refine j_icmp_ge (tgt := 58) C dX2_sum_36 (by decide) (fun c11 => ?_) (fun c11 => ?_)
    · replace hF := zif_t hF c11
      refine j_sub [2] rfl ?_
      exact hX_58 l5 st hF
    · replace hF := zif_f hF c11
      refine j_lload C dX2_sum_39 2 rfl ?_
      refine j_aload_n C dX2_sum_41 rfl 0 rfl ?_
      refine s_get0 C in_X2_sum_wsX20 2 (by decide) (by decide +kernel) 6 rfl dX2_sum_42 ?_
      refine j_iload C dX2_sum_45 3 rfl ?_
      have b12 := zif_c hF hn
      replace hF := zif_t hF b12
      refine s_iald C (by decide) b12 dX2_sum_47 ?_
      refine j_i2l C dX2_sum_48 ?_
      refine j_ladd C dX2_sum_49 ?_
      refine j_lstore (lv' := [(5, .long (l5 + ((st 6 (i7).toNatClampNeg)).toInt64)), (0, .ref (ad 0)), (3, .int i3), (7, .int i7)]) C dX2_sum_50 (by decide) rfl ?_
      refine j_iinc (lv' := [(7, .int (i7 + (1 : Int32))), (5, .long (l5 + ((st 6 (i7).toNatClampNeg)).toInt64)), (0, .ref (ad 0)), (3, .int i3)]) C dX2_sum_52 3 rfl rfl (by decide) rfl ?_
      refine j_goto (tgt := 33) C dX2_sum_55 (by decide) ?_
      refine j_sub [2, 3, 1, 0] rfl ?_
      exact ih i3 (l5 + ((st 6 (i7).toNatClampNeg)).toInt64) (i7 + (1 : Int32)) st hF
def fX2_sum (n : Nat) (i1 : Int32) (i2 : Int32) (i3 : Int32) (st : zS) : zF Int64 := (zb (fX2_arrayThere n i1 st) (fun (v2 : Nat) (u1 : zS) => (zb (fX2_checkRange n v2 i2 i3 u1) (fun (v6 : Unit) (u5 : zS) => (zb (fX2_readValues n v2 i2 i3 6 i2 u5) (fun (v9 : Unit) (u8 : zS) => fX2_sum_33 n (fun (l5 : Int64) (st : zS) => some (.inl l5, st)) n i3 (0 : Int64) i2 u8))))))
set_option maxHeartbeats 4000000 in
set_option maxRecDepth 100000 in
theorem kX2_sum (hl : l.stackTraces = false) (n : Nat) (i1 : Int32) (i2 : Int32) (i3 : Int32) (st : zS) (hn : fX2_sum n i1 i2 i3 st ≠ none) : zM (fun v : Int64 => some (.long v)) l yX2_sum wsX2_sum rmX2_sum D zcl (zty cI cR) 57 ad (sce cI cR ad) (sT ad) 2 12 [.ref (ad 0), .int i1, .int i2, .int i3] st (fX2_sum n i1 i2 i3 st) := by
  refine z_ofJ (cc := cX2_sum) (maxL := 8) (ret := (some .long)) (lv := [(0, .ref (ad 0)), (1, .int i1), (2, .int i2), (3, .int i3)]) (by decide) rfl (Nat.le_of_ble_eq_true rfl) rfl ?_
  intro p e s m args below meth c C hne hT hr
  obtain ⟨F, hFe⟩ : ∃ F, F = fX2_sum n i1 i2 i3 st := ⟨_, rfl⟩
  rw [← hFe] at hn ⊢
  have hF : fX2_sum n i1 i2 i3 st = F := hFe.symm
  clear hFe
  unfold fX2_sum at hF
  have C : zC p s m args meth c cX2_sum RX2 wsX2_sum D zcl (zty cI cR) 57 ad 8 := C
  refine j_aload_n C dX2_sum_0 rfl 0 rfl ?_
  refine j_iload_n C dX2_sum_1 rfl 1 rfl ?_
  refine j_callVr C hne sT_S hT (q0 := 0) (As := [.int i1]) (rest := []) (kX2_arrayThere hl n i1 st (zb_n hF hn)) (cwV 1 C.1.2.2.2.2 gX2_sum_X2_arrayThere rfl rfl rfl (by decide +kernel) ⟨(Nat.le_of_ble_eq_true rfl), (Nat.le_of_ble_eq_true rfl)⟩) (by decide) sce_0 rfl rfl rfl (Nat.le_of_ble_eq_true rfl) dX2_sum_2 ⟨(Nat.le_of_ble_eq_true rfl), (Nat.le_of_ble_eq_true rfl)⟩ (fun _ _ h9 => zb_x hF h9) (Nat.le_of_ble_eq_true rfl) (Nat.le_of_ble_eq_true rfl) (fun v2 u1 h3 => ?_)
  replace hF := zb_l hF h3
  have k4 := fX2_arrayThere_row h3
  refine j_astore (lv' := [(4, .ref (ad v2)), (0, .ref (ad 0)), (1, .int i1), (2, .int i2), (3, .int i3)]) C dX2_sum_5 (by decide) rfl ?_
  refine j_aload C dX2_sum_7 0 rfl ?_
  refine j_iload_n C dX2_sum_9 rfl 3 rfl ?_
  refine j_iload_n C dX2_sum_10 rfl 4 rfl ?_
  refine j_callSv C hne sT_S hT (As := [.ref (ad v2), .int i2, .int i3]) (rest := []) (kX2_checkRange hl n v2 k4 i2 i3 u1 (zb_n hF hn)) (va_cwS 3 C.1.2.2.2.2 gX2_sum_X2_checkRange rfl rfl rfl (by decide +kernel) ⟨(Nat.le_of_ble_eq_true rfl), (Nat.le_of_ble_eq_true rfl)⟩) rfl rfl (Nat.le_of_ble_eq_true rfl) dX2_sum_11 ⟨(Nat.le_of_ble_eq_true rfl), (Nat.le_of_ble_eq_true rfl)⟩ (fun _ _ h9 => zb_x hF h9) (Nat.le_of_ble_eq_true rfl) (Nat.le_of_ble_eq_true rfl) (fun v6 u5 h7 => ?_)
  replace hF := zb_l hF h7
  refine j_aload_n C dX2_sum_14 rfl 1 rfl ?_
  refine j_aload C dX2_sum_15 0 rfl ?_
  refine j_iload_n C dX2_sum_17 rfl 3 rfl ?_
  refine j_iload_n C dX2_sum_18 rfl 4 rfl ?_
  refine j_aload_n C dX2_sum_19 rfl 1 rfl ?_
  refine s_get0 C in_X2_sum_wsX20 2 (by decide) (by decide +kernel) 6 rfl dX2_sum_20 ?_
  refine j_iload_n C dX2_sum_23 rfl 3 rfl ?_
  refine j_callVv C hne sT_S hT (q0 := 0) (As := [.ref (ad v2), .int i2, .int i3, .ref (ad 6), .int i2]) (rest := []) (kX2_readValues hl n v2 k4 i2 i3 6 (by decide) i2 u5 (zb_n hF hn)) (cwV 5 C.1.2.2.2.2 gX2_sum_X2_readValues rfl rfl rfl (by decide +kernel) ⟨(Nat.le_of_ble_eq_true rfl), (Nat.le_of_ble_eq_true rfl)⟩) (by decide) sce_0 rfl rfl rfl (Nat.le_of_ble_eq_true rfl) dX2_sum_24 ⟨(Nat.le_of_ble_eq_true rfl), (Nat.le_of_ble_eq_true rfl)⟩ (fun _ _ h9 => zb_x hF h9) (Nat.le_of_ble_eq_true rfl) (Nat.le_of_ble_eq_true rfl) (fun v9 u8 h10 => ?_)
  replace hF := zb_l hF h10
  refine j_lconst (v := (0 : Int64)) C dX2_sum_27 (by decide) ?_
  refine j_lstore (lv' := [(5, .long (0 : Int64)), (4, .ref (ad v2)), (0, .ref (ad 0)), (1, .int i1), (2, .int i2), (3, .int i3)]) C dX2_sum_28 (by decide) rfl ?_
  refine j_iload_n C dX2_sum_30 rfl 4 rfl ?_
  refine j_istore (lv' := [(7, .int i2), (5, .long (0 : Int64)), (4, .ref (ad v2)), (0, .ref (ad 0)), (1, .int i1), (2, .int i2), (3, .int i3)]) C dX2_sum_31 (by decide) rfl ?_
  refine j_sub [3, 6, 1, 0] rfl ?_
  refine wX2_sum_33 C hne hl hT hr hn n ?_ n i3 (0 : Int64) i2 u8 hF
  · intro l5 st hF
    refine j_lload C dX2_sum_58 0 rfl ?_
    exact j_lret C hr hF (Nat.le_of_ble_eq_true rfl) (Nat.le_of_ble_eq_true rfl) dX2_sum_60
end
/-! X2_bound -/
def rmX2_bound : Room := { frames := 13, cells := 3, slots := 18, locals := 240 }
theorem hatA_X2_bound : ∀ w ∈ (vx_atS RX2 37 "java/lang/IllegalArgumentException" ["java/lang/RuntimeException", "java/lang/Exception"]).filter goodWord, w ∈ wsX2_bound := by decide +kernel
theorem in_X2_bound_wsX20 : ∀ w ∈ wsX20, w ∈ wsX2_bound := by decide +kernel
section
variable {p : Program} {l : Launch} {e : Env} {s : State} {m : MethodId} {args : Array Value} {below : List Frame} {meth : Method} {c : Code} {D : va_G} {cI cR : ClassId} {ad : Nat → Nat}
def fX2_bound_65 (n : Nat) (X_111 : Int32 → zS → zF Int32) : Nat → Int32 → Int32 → Int32 → Int32 → zS → zF Int32
  | 0, _, _, _, _, _ => none
  | k + 1, i3, i4, i6, i7, st => (if i3 ≤ i7 then X_111 i6 st else (if i4 = 0 then (if inb i7 (al 6) then fX2_bound_65 n X_111 k i3 i4 (if (st 6 (i7).toNatClampNeg) < i6 then (st 6 (i7).toNatClampNeg) else i6) (i7 + (1 : Int32)) st else none) else (if inb i7 (al 6) then fX2_bound_65 n X_111 k i3 i4 (if i6 < (st 6 (i7).toNatClampNeg) then (st 6 (i7).toNatClampNeg) else i6) (i7 + (1 : Int32)) st else none)))
set_option maxHeartbeats 4000000 in
set_option maxRecDepth 100000 in
theorem wX2_bound_65 (C : zC p s m args meth c cX2_bound RX2 wsX2_bound D zcl (zty cI cR) 57 ad 8) (hne : ∀ x ∈ c.exceptionTable.toList, False) (hl : l.stackTraces = false) (hT : (sT ad) s.heap.size s) (hr : meth.sig.returnType = (some .int)) {F : zF Int32} (hn : F ≠ none) (n : Nat) {X_111 : Int32 → zS → zF Int32} (hX_111 : ∀ (i6 : Int32) (st : zS), X_111 i6 st = F → sJ (fun v : Int32 => some (.int v)) F 3 18 p l e rmX2_bound s m args below meth c D cI cR ad 8 st 2 12 111 [(6, .int i6)] []) : ∀ (k : Nat) (i3 : Int32) (i4 : Int32) (i6 : Int32) (i7 : Int32) (st : zS), fX2_bound_65 n X_111 k i3 i4 i6 i7 st = F → sJ (fun v : Int32 => some (.int v)) F 3 18 p l e rmX2_bound s m args below meth c D cI cR ad 8 st 2 12 65 [(0, .ref (ad 0)), (3, .int i3), (4, .int i4), (6, .int i6), (7, .int i7)] [] := by
  intro k
  induction k with
  | zero =>
    intro i3 i4 i6 i7 st hF
    exact absurd hF.symm hn
  | succ k ih =>
    intro i3 i4 i6 i7 st hF
    rw [fX2_bound_65] at hF
    refine j_iload C dX2_bound_65 4 rfl ?_
    refine j_iload_n C dX2_bound_67 rfl 1 rfl ?_
    refine j_icmp_ge (tgt := 111) C dX2_bound_68 (by decide) (fun c13 => ?_) (fun c13 => ?_)
    · replace hF := zif_t hF c13
      refine j_sub [3] rfl ?_
      exact hX_111 i6 st hF
    · replace hF := zif_f hF c13
      refine j_iload C dX2_bound_71 2 rfl ?_
      refine j_if_ne (tgt := 91) C dX2_bound_73 (by decide) (fun c14 => ?_) (fun c14 => ?_)
      · replace hF := zif_f hF c14
        refine j_iload C dX2_bound_91 3 rfl ?_
        refine j_aload_n C dX2_bound_93 rfl 0 rfl ?_
        refine s_get0 C in_X2_bound_wsX20 2 (by decide) (by decide +kernel) 6 rfl dX2_bound_94 ?_
        refine j_iload C dX2_bound_97 4 rfl ?_
        have b15 := zif_c hF hn
        replace hF := zif_t hF b15
        refine s_iald C (by decide) b15 dX2_bound_99 ?_
        refine j_mmax C (by decide +kernel) (by decide +kernel) (by decide +kernel) (by decide +kernel) (Nat.le_of_ble_eq_true rfl) (Nat.le_of_ble_eq_true rfl) (Nat.le_of_ble_eq_true rfl) (Nat.le_of_ble_eq_true rfl) dX2_bound_100 ?_
        refine j_istore (lv' := [(6, .int (if i6 < (st 6 (i7).toNatClampNeg) then (st 6 (i7).toNatClampNeg) else i6)), (0, .ref (ad 0)), (3, .int i3), (4, .int i4), (7, .int i7)]) C dX2_bound_103 (by decide) rfl ?_
        refine j_iinc (lv' := [(7, .int (i7 + (1 : Int32))), (6, .int (if i6 < (st 6 (i7).toNatClampNeg) then (st 6 (i7).toNatClampNeg) else i6)), (0, .ref (ad 0)), (3, .int i3), (4, .int i4)]) C dX2_bound_105 4 rfl rfl (by decide) rfl ?_
        refine j_goto (tgt := 65) C dX2_bound_108 (by decide) ?_
        refine j_sub [2, 3, 4, 1, 0] rfl ?_
        exact ih i3 i4 (if i6 < (st 6 (i7).toNatClampNeg) then (st 6 (i7).toNatClampNeg) else i6) (i7 + (1 : Int32)) st hF
      · replace hF := zif_t hF c14
        refine j_iload C dX2_bound_76 3 rfl ?_
        refine j_aload_n C dX2_bound_78 rfl 0 rfl ?_
        refine s_get0 C in_X2_bound_wsX20 2 (by decide) (by decide +kernel) 6 rfl dX2_bound_79 ?_
        refine j_iload C dX2_bound_82 4 rfl ?_
        have b16 := zif_c hF hn
        replace hF := zif_t hF b16
        refine s_iald C (by decide) b16 dX2_bound_84 ?_
        refine j_mmin C (by decide +kernel) (by decide +kernel) (by decide +kernel) (by decide +kernel) (Nat.le_of_ble_eq_true rfl) (Nat.le_of_ble_eq_true rfl) (Nat.le_of_ble_eq_true rfl) (Nat.le_of_ble_eq_true rfl) dX2_bound_85 ?_
        refine j_goto (tgt := 103) C dX2_bound_88 (by decide) ?_
        refine j_istore (lv' := [(6, .int (if (st 6 (i7).toNatClampNeg) < i6 then (st 6 (i7).toNatClampNeg) else i6)), (0, .ref (ad 0)), (3, .int i3), (4, .int i4), (7, .int i7)]) C dX2_bound_103 (by decide) rfl ?_
        refine j_iinc (lv' := [(7, .int (i7 + (1 : Int32))), (6, .int (if (st 6 (i7).toNatClampNeg) < i6 then (st 6 (i7).toNatClampNeg) else i6)), (0, .ref (ad 0)), (3, .int i3), (4, .int i4)]) C dX2_bound_105 4 rfl rfl (by decide) rfl ?_
        refine j_goto (tgt := 65) C dX2_bound_108 (by decide) ?_
        refine j_sub [2, 3, 4, 1, 0] rfl ?_
        exact ih i3 i4 (if (st 6 (i7).toNatClampNeg) < i6 then (st 6 (i7).toNatClampNeg) else i6) (i7 + (1 : Int32)) st hF
def fX2_bound_35 (n : Nat)  (i2 : Int32) (i3 : Int32) (i4 : Int32) (r5 : Nat) (st : zS) : zF Int32 := (zb (fX2_readValues n r5 i2 i3 6 i2 st) (fun (v10 : Unit) (u9 : zS) => (if i4 = 0 then fX2_bound_65 n (fun (i6 : Int32) (st : zS) => some (.inl i6, st)) n i3 i4 ((2147483647) : Int32) i2 u9 else fX2_bound_65 n (fun (i6 : Int32) (st : zS) => some (.inl i6, st)) n i3 i4 ((-2147483648) : Int32) i2 u9)))
set_option maxHeartbeats 4000000 in
set_option maxRecDepth 100000 in
theorem wX2_bound_35 (C : zC p s m args meth c cX2_bound RX2 wsX2_bound D zcl (zty cI cR) 57 ad 8) (hne : ∀ x ∈ c.exceptionTable.toList, False) (hl : l.stackTraces = false) (hT : (sT ad) s.heap.size s) (hr : meth.sig.returnType = (some .int)) {F : zF Int32} (hn : F ≠ none) (n : Nat)   : ∀ (i2 : Int32) (i3 : Int32) (i4 : Int32) (r5 : Nat) (hr5 : isRow r5) (st : zS), fX2_bound_35 n  i2 i3 i4 r5 st = F → sJ (fun v : Int32 => some (.int v)) F 3 18 p l e rmX2_bound s m args below meth c D cI cR ad 8 st 2 12 35 [(0, .ref (ad 0)), (2, .int i2), (3, .int i3), (4, .int i4), (5, .ref (ad r5))] [] := by
  intro i2 i3 i4 r5 hr5 st hF
  unfold fX2_bound_35 at hF
  refine j_aload_n C dX2_bound_35 rfl 0 rfl ?_
  refine j_aload C dX2_bound_36 4 rfl ?_
  refine j_iload_n C dX2_bound_38 rfl 1 rfl ?_
  refine j_iload_n C dX2_bound_39 rfl 2 rfl ?_
  refine j_aload_n C dX2_bound_40 rfl 0 rfl ?_
  refine s_get0 C in_X2_bound_wsX20 2 (by decide) (by decide +kernel) 6 rfl dX2_bound_41 ?_
  refine j_iload_n C dX2_bound_44 rfl 1 rfl ?_
  refine j_callVv C hne sT_S hT (q0 := 0) (As := [.ref (ad r5), .int i2, .int i3, .ref (ad 6), .int i2]) (rest := []) (kX2_readValues hl n r5 hr5 i2 i3 6 (by decide) i2 st (zb_n hF hn)) (cwV 5 C.1.2.2.2.2 gX2_bound_X2_readValues rfl rfl rfl (by decide +kernel) ⟨(Nat.le_of_ble_eq_true rfl), (Nat.le_of_ble_eq_true rfl)⟩) (by decide) sce_0 rfl rfl rfl (Nat.le_of_ble_eq_true rfl) dX2_bound_45 ⟨(Nat.le_of_ble_eq_true rfl), (Nat.le_of_ble_eq_true rfl)⟩ (fun _ _ h9 => zb_x hF h9) (Nat.le_of_ble_eq_true rfl) (Nat.le_of_ble_eq_true rfl) (fun v10 u9 h11 => ?_)
  replace hF := zb_l hF h11
  refine j_iload C dX2_bound_48 3 rfl ?_
  refine j_if_ne (tgt := 58) C dX2_bound_50 (by decide) (fun c12 => ?_) (fun c12 => ?_)
  · replace hF := zif_f hF c12
    refine j_ldc (v := ((-2147483648) : Int32)) C (by decide +kernel) dX2_bound_58 ?_
    refine j_istore (lv' := [(6, .int ((-2147483648) : Int32)), (0, .ref (ad 0)), (2, .int i2), (3, .int i3), (4, .int i4), (5, .ref (ad r5))]) C dX2_bound_60 (by decide) rfl ?_
    refine j_iload_n C dX2_bound_62 rfl 2 rfl ?_
    refine j_istore (lv' := [(7, .int i2), (6, .int ((-2147483648) : Int32)), (0, .ref (ad 0)), (2, .int i2), (3, .int i3), (4, .int i4), (5, .ref (ad r5))]) C dX2_bound_63 (by decide) rfl ?_
    refine j_sub [2, 4, 5, 1, 0] rfl ?_
    refine wX2_bound_65 C hne hl hT hr hn n ?_ n i3 i4 ((-2147483648) : Int32) i2 u9 hF
    · intro i6 st hF
      refine j_iload C dX2_bound_111 0 rfl ?_
      exact j_iret C hr hF (Nat.le_of_ble_eq_true rfl) (Nat.le_of_ble_eq_true rfl) dX2_bound_113
  · replace hF := zif_t hF c12
    refine j_ldc (v := ((2147483647) : Int32)) C (by decide +kernel) dX2_bound_53 ?_
    refine j_goto (tgt := 60) C dX2_bound_55 (by decide) ?_
    refine j_istore (lv' := [(6, .int ((2147483647) : Int32)), (0, .ref (ad 0)), (2, .int i2), (3, .int i3), (4, .int i4), (5, .ref (ad r5))]) C dX2_bound_60 (by decide) rfl ?_
    refine j_iload_n C dX2_bound_62 rfl 2 rfl ?_
    refine j_istore (lv' := [(7, .int i2), (6, .int ((2147483647) : Int32)), (0, .ref (ad 0)), (2, .int i2), (3, .int i3), (4, .int i4), (5, .ref (ad r5))]) C dX2_bound_63 (by decide) rfl ?_
    refine j_sub [2, 4, 5, 1, 0] rfl ?_
    refine wX2_bound_65 C hne hl hT hr hn n ?_ n i3 i4 ((2147483647) : Int32) i2 u9 hF
    · intro i6 st hF
      refine j_iload C dX2_bound_111 0 rfl ?_
      exact j_iret C hr hF (Nat.le_of_ble_eq_true rfl) (Nat.le_of_ble_eq_true rfl) dX2_bound_113
def fX2_bound (n : Nat) (i1 : Int32) (i2 : Int32) (i3 : Int32) (i4 : Int32) (st : zS) : zF Int32 := (zb (fX2_arrayThere n i1 st) (fun (v2 : Nat) (u1 : zS) => (zb (fX2_checkRange n v2 i2 i3 u1) (fun (v6 : Unit) (u5 : zS) => (if i4 = 0 then fX2_bound_35 n i2 i3 i4 v2 u5 else (if i4 = (1 : Int32) then fX2_bound_35 n i2 i3 i4 v2 u5 else some (.inr true, u5)))))))
set_option maxHeartbeats 4000000 in
set_option maxRecDepth 100000 in
theorem kX2_bound (hl : l.stackTraces = false) (n : Nat) (i1 : Int32) (i2 : Int32) (i3 : Int32) (i4 : Int32) (st : zS) (hn : fX2_bound n i1 i2 i3 i4 st ≠ none) : zM (fun v : Int32 => some (.int v)) l yX2_bound wsX2_bound rmX2_bound D zcl (zty cI cR) 57 ad (sce cI cR ad) (sT ad) 3 18 [.ref (ad 0), .int i1, .int i2, .int i3, .int i4] st (fX2_bound n i1 i2 i3 i4 st) := by
  refine z_ofJ (cc := cX2_bound) (maxL := 8) (ret := (some .int)) (lv := [(0, .ref (ad 0)), (1, .int i1), (2, .int i2), (3, .int i3), (4, .int i4)]) (by decide) rfl (Nat.le_of_ble_eq_true rfl) rfl ?_
  intro p e s m args below meth c C hne hT hr
  obtain ⟨F, hFe⟩ : ∃ F, F = fX2_bound n i1 i2 i3 i4 st := ⟨_, rfl⟩
  rw [← hFe] at hn ⊢
  have hF : fX2_bound n i1 i2 i3 i4 st = F := hFe.symm
  clear hFe
  unfold fX2_bound at hF
  have C : zC p s m args meth c cX2_bound RX2 wsX2_bound D zcl (zty cI cR) 57 ad 8 := C
  refine j_aload_n C dX2_bound_0 rfl 0 rfl ?_
  refine j_iload_n C dX2_bound_1 rfl 1 rfl ?_
  refine j_callVr C hne sT_S hT (q0 := 0) (As := [.int i1]) (rest := []) (kX2_arrayThere hl n i1 st (zb_n hF hn)) (cwV 1 C.1.2.2.2.2 gX2_bound_X2_arrayThere rfl rfl rfl (by decide +kernel) ⟨(Nat.le_of_ble_eq_true rfl), (Nat.le_of_ble_eq_true rfl)⟩) (by decide) sce_0 rfl rfl rfl (Nat.le_of_ble_eq_true rfl) dX2_bound_2 ⟨(Nat.le_of_ble_eq_true rfl), (Nat.le_of_ble_eq_true rfl)⟩ (fun _ _ h9 => zb_x hF h9) (Nat.le_of_ble_eq_true rfl) (Nat.le_of_ble_eq_true rfl) (fun v2 u1 h3 => ?_)
  replace hF := zb_l hF h3
  have k4 := fX2_arrayThere_row h3
  refine j_astore (lv' := [(5, .ref (ad v2)), (0, .ref (ad 0)), (1, .int i1), (2, .int i2), (3, .int i3), (4, .int i4)]) C dX2_bound_5 (by decide) rfl ?_
  refine j_aload C dX2_bound_7 0 rfl ?_
  refine j_iload_n C dX2_bound_9 rfl 3 rfl ?_
  refine j_iload_n C dX2_bound_10 rfl 4 rfl ?_
  refine j_callSv C hne sT_S hT (As := [.ref (ad v2), .int i2, .int i3]) (rest := []) (kX2_checkRange hl n v2 k4 i2 i3 u1 (zb_n hF hn)) (va_cwS 3 C.1.2.2.2.2 gX2_bound_X2_checkRange rfl rfl rfl (by decide +kernel) ⟨(Nat.le_of_ble_eq_true rfl), (Nat.le_of_ble_eq_true rfl)⟩) rfl rfl (Nat.le_of_ble_eq_true rfl) dX2_bound_11 ⟨(Nat.le_of_ble_eq_true rfl), (Nat.le_of_ble_eq_true rfl)⟩ (fun _ _ h9 => zb_x hF h9) (Nat.le_of_ble_eq_true rfl) (Nat.le_of_ble_eq_true rfl) (fun v6 u5 h7 => ?_)
  replace hF := zb_l hF h7
  refine j_iload C dX2_bound_14 5 rfl ?_
  refine j_if_eq (tgt := 35) C dX2_bound_16 (by decide) (fun c8 => ?_) (fun c8 => ?_)
  · replace hF := zif_t hF c8
    refine j_sub [1, 3, 4, 5, 0] rfl ?_
    refine wX2_bound_35 C hne hl hT hr hn n  i2 i3 i4 v2 k4 u5 hF
  · replace hF := zif_f hF c8
    refine j_iload C dX2_bound_19 5 rfl ?_
    refine j_iconst (v := (1 : Int32)) C dX2_bound_21 (by decide) ?_
    refine j_icmp_eq (tgt := 35) C dX2_bound_22 (by decide) (fun c17 => ?_) (fun c17 => ?_)
    · replace hF := zif_t hF c17
      refine j_sub [1, 3, 4, 5, 0] rfl ?_
      refine wX2_bound_35 C hne hl hT hr hn n  i2 i3 i4 v2 k4 u5 hF
    · replace hF := zif_f hF c17
      exact s_throwA (text := "neither the least nor the greatest") C hne hl hT (by decide +kernel) (by decide +kernel) hatA_X2_bound (by decide) dX2_bound_25 dX2_bound_28 dX2_bound_29 dX2_bound_31 dX2_bound_34 (Nat.le_of_ble_eq_true rfl) (Nat.le_of_ble_eq_true rfl) (Nat.le_of_ble_eq_true rfl) (Nat.le_of_ble_eq_true rfl) hF (Nat.le_of_ble_eq_true rfl) (Nat.le_of_ble_eq_true rfl)
end
