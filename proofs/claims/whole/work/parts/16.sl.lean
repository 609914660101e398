/-! X2_slice -/
def rmX2_slice : Room := { frames := 14, cells := 4, slots := 24, locals := 280 }
theorem in_X2_slice_wsX20 : ∀ w ∈ wsX20, w ∈ wsX2_slice := by decide +kernel
section
variable {p : Program} {l : Launch} {e : Env} {s : State} {m : MethodId} {args : Array Value} {below : List Frame} {meth : Method} {c : Code} {D : va_G} {cI cR : ClassId} {ad : Nat → Nat}
def fX2_slice_41 (n : Nat)  (i2 : Int32) (i3 : Int32) (r4 : Nat) (i5 : Int32) (i6 : Int32) (it0 : Int32) (st : zS) : zF Int32 := (zb (fX2_readValues n r4 (i2 + (it0 * (16 : Int32))) i3 6 (it0 * (16 : Int32)) st) (fun (v13 : Unit) (u12 : zS) => (zb (fX2_countOwnInNext n it0 i6 u12) (fun (v16 : Int32) (u15 : zS) => (zb (fX2_checkRoom n v16 u15) (fun (v19 : Unit) (u18 : zS) => (if inb i5 16 then (zb (fX1_begin n (9 + (i5).toNatClampNeg) i6 u18) (fun (v23 : Unit) (u22 : zS) => (zb (fX2_shareLeaves n r4 (i2 / (16 : Int32)) (9 + (i5).toNatClampNeg) (0 : Int32) it0 u22) (fun (v26 : Unit) (u25 : zS) => (zb (fX2_newLeaves n (9 + (i5).toNatClampNeg) it0 u25) (fun (v29 : Unit) (u28 : zS) => some (.inl i5, u28))))))) else none)))))))
set_option maxHeartbeats 4000000 in
set_option maxRecDepth 100000 in
theorem wX2_slice_41 (C : zC p s m args meth c cX2_slice RX2 wsX2_slice D zcl (zty cI cR) 57 ad 10) (hne : ∀ x ∈ c.exceptionTable.toList, False) (hl : l.stackTraces = false) (hT : (sT ad) s.heap.size s) (hr : meth.sig.returnType = (some .int)) {F : zF Int32} (hn : F ≠ none) (n : Nat)   : ∀ (i2 : Int32) (i3 : Int32) (r4 : Nat) (hr4 : isRow r4) (i5 : Int32) (i6 : Int32) (it0 : Int32) (st : zS), fX2_slice_41 n  i2 i3 r4 i5 i6 it0 st = F → sJ (fun v : Int32 => some (.int v)) F 4 24 p l e rmX2_slice s m args below meth c D cI cR ad 10 st 3 18 41 [(0, .ref (ad 0)), (2, .int i2), (3, .int i3), (4, .ref (ad r4)), (5, .int i5), (6, .int i6)] [.int it0] := by
  intro i2 i3 r4 hr4 i5 i6 it0 st hF
  unfold fX2_slice_41 at hF
  refine j_istore (lv' := [(7, .int it0), (0, .ref (ad 0)), (2, .int i2), (3, .int i3), (4, .ref (ad r4)), (5, .int i5), (6, .int i6)]) C dX2_slice_41 (by decide) rfl ?_
  refine j_iload C dX2_slice_43 0 rfl ?_
  refine j_bipush (v := (16 : Int32)) C dX2_slice_45 (by decide) ?_
  refine j_imul C dX2_slice_47 ?_
  refine j_istore (lv' := [(8, .int (it0 * (16 : Int32))), (7, .int it0), (0, .ref (ad 0)), (2, .int i2), (3, .int i3), (4, .ref (ad r4)), (5, .int i5), (6, .int i6)]) C dX2_slice_48 (by decide) rfl ?_
  refine j_aload_n C dX2_slice_50 rfl 2 rfl ?_
  refine j_aload C dX2_slice_51 5 rfl ?_
  refine j_iload_n C dX2_slice_53 rfl 3 rfl ?_
  refine j_iload C dX2_slice_54 0 rfl ?_
  refine j_iadd C dX2_slice_56 ?_
  refine j_iload_n C dX2_slice_57 rfl 4 rfl ?_
  refine j_aload_n C dX2_slice_58 rfl 2 rfl ?_
  refine s_get0 C in_X2_slice_wsX20 2 (by decide) (by decide +kernel) 6 rfl dX2_slice_59 ?_
  refine j_iload C dX2_slice_62 0 rfl ?_
  refine j_callVv C hne sT_S hT (q0 := 0) (As := [.ref (ad r4), .int (i2 + (it0 * (16 : Int32))), .int i3, .ref (ad 6), .int (it0 * (16 : Int32))]) (rest := []) (kX2_readValues hl n r4 hr4 (i2 + (it0 * (16 : Int32))) i3 6 (by decide) (it0 * (16 : Int32)) st (zb_n hF hn)) (cwV 5 C.1.2.2.2.2 gX2_slice_X2_readValues rfl rfl rfl (by decide +kernel) ⟨(Nat.le_of_ble_eq_true rfl), (Nat.le_of_ble_eq_true rfl)⟩) (by decide) sce_0 rfl rfl rfl (Nat.le_of_ble_eq_true rfl) dX2_slice_64 ⟨(Nat.le_of_ble_eq_true rfl), (Nat.le_of_ble_eq_true rfl)⟩ (fun _ _ h9 => zb_x hF h9) (Nat.le_of_ble_eq_true rfl) (Nat.le_of_ble_eq_true rfl) (fun v13 u12 h14 => ?_)
  replace hF := zb_l hF h14
  refine j_aload_n C dX2_slice_67 rfl 2 rfl ?_
  refine j_aload_n C dX2_slice_68 rfl 2 rfl ?_
  refine j_iload C dX2_slice_69 1 rfl ?_
  refine j_iload C dX2_slice_71 7 rfl ?_
  refine j_callVi C hne sT_S hT (q0 := 0) (As := [.int it0, .int i6]) (rest := [.ref (ad 0)]) (kX2_countOwnInNext hl n it0 i6 u12 (zb_n hF hn)) (cwV 2 C.1.2.2.2.2 gX2_slice_X2_countOwnInNext rfl rfl rfl (by decide +kernel) ⟨(Nat.le_of_ble_eq_true rfl), (Nat.le_of_ble_eq_true rfl)⟩) (by decide) sce_0 rfl rfl rfl (Nat.le_of_ble_eq_true rfl) dX2_slice_73 ⟨(Nat.le_of_ble_eq_true rfl), (Nat.le_of_ble_eq_true rfl)⟩ (fun _ _ h9 => zb_x hF h9) (Nat.le_of_ble_eq_true rfl) (Nat.le_of_ble_eq_true rfl) (fun v16 u15 h17 => ?_)
  replace hF := zb_l hF h17
  refine j_callVv C hne sT_S hT (q0 := 0) (As := [.int v16]) (rest := []) (kX2_checkRoom hl n v16 u15 (zb_n hF hn)) (cwV 1 C.1.2.2.2.2 gX2_slice_X2_checkRoom rfl rfl rfl (by decide +kernel) ⟨(Nat.le_of_ble_eq_true rfl), (Nat.le_of_ble_eq_true rfl)⟩) (by decide) sce_0 rfl rfl rfl (Nat.le_of_ble_eq_true rfl) dX2_slice_76 ⟨(Nat.le_of_ble_eq_true rfl), (Nat.le_of_ble_eq_true rfl)⟩ (fun _ _ h9 => zb_x hF h9) (Nat.le_of_ble_eq_true rfl) (Nat.le_of_ble_eq_true rfl) (fun v19 u18 h20 => ?_)
  replace hF := zb_l hF h20
  refine j_aload_n C dX2_slice_79 rfl 2 rfl ?_
  refine s_get0 C in_X2_slice_wsX20 0 (by decide) (by decide +kernel) 1 rfl dX2_slice_80 ?_
  refine j_iload C dX2_slice_83 6 rfl ?_
  have b21 := zif_c hF hn
  replace hF := zif_t hF b21
  refine s_aald C b21 dX2_slice_85 ?_
  refine j_astore (lv' := [(9, .ref (ad (9 + (i5).toNatClampNeg))), (8, .int (it0 * (16 : Int32))), (7, .int it0), (0, .ref (ad 0)), (2, .int i2), (3, .int i3), (4, .ref (ad r4)), (5, .int i5), (6, .int i6)]) C dX2_slice_86 (by decide) rfl ?_
  refine j_aload C dX2_slice_88 0 rfl ?_
  refine j_iload C dX2_slice_90 8 rfl ?_
  refine j_callVv C hne sT_S hT (q0 := (9 + (i5).toNatClampNeg)) (As := [.int i6]) (rest := []) (kX1_begin hl n (9 + (i5).toNatClampNeg) (inb.row b21) i6 u18 (zb_n hF hn)) (cwV 1 C.1.2.2.2.2 gX2_slice_X1_begin rfl rfl rfl (by decide +kernel) ⟨(Nat.le_of_ble_eq_true rfl), (Nat.le_of_ble_eq_true rfl)⟩) (isRow.lt (inb.row b21)) (sce_row (inb.row b21)) rfl rfl rfl (Nat.le_of_ble_eq_true rfl) dX2_slice_92 ⟨(Nat.le_of_ble_eq_true rfl), (Nat.le_of_ble_eq_true rfl)⟩ (fun _ _ h9 => zb_x hF h9) (Nat.le_of_ble_eq_true rfl) (Nat.le_of_ble_eq_true rfl) (fun v23 u22 h24 => ?_)
  replace hF := zb_l hF h24
  refine j_aload_n C dX2_slice_95 rfl 3 rfl ?_
  refine j_aload C dX2_slice_96 6 rfl ?_
  refine j_iload_n C dX2_slice_98 rfl 4 rfl ?_
  refine j_bipush (v := (16 : Int32)) C dX2_slice_99 (by decide) ?_
  refine j_idiv C dX2_slice_101 (by decide) ?_
  refine j_aload C dX2_slice_102 0 rfl ?_
  refine j_iconst (v := (0 : Int32)) C dX2_slice_104 (by decide) ?_
  refine j_iload C dX2_slice_105 2 rfl ?_
  refine j_callVv C hne sT_S hT (q0 := 0) (As := [.ref (ad r4), .int (i2 / (16 : Int32)), .ref (ad (9 + (i5).toNatClampNeg)), .int (0 : Int32), .int it0]) (rest := []) (kX2_shareLeaves hl n r4 hr4 (i2 / (16 : Int32)) (9 + (i5).toNatClampNeg) (inb.row b21) (0 : Int32) it0 u22 (zb_n hF hn)) (cwV 5 C.1.2.2.2.2 gX2_slice_X2_shareLeaves rfl rfl rfl (by decide +kernel) ⟨(Nat.le_of_ble_eq_true rfl), (Nat.le_of_ble_eq_true rfl)⟩) (by decide) sce_0 rfl rfl rfl (Nat.le_of_ble_eq_true rfl) dX2_slice_107 ⟨(Nat.le_of_ble_eq_true rfl), (Nat.le_of_ble_eq_true rfl)⟩ (fun _ _ h9 => zb_x hF h9) (Nat.le_of_ble_eq_true rfl) (Nat.le_of_ble_eq_true rfl) (fun v26 u25 h27 => ?_)
  replace hF := zb_l hF h27
  refine j_aload_n C dX2_slice_110 rfl 3 rfl ?_
  refine j_aload C dX2_slice_111 0 rfl ?_
  refine j_iload C dX2_slice_113 2 rfl ?_
  refine j_callVv C hne sT_S hT (q0 := 0) (As := [.ref (ad (9 + (i5).toNatClampNeg)), .int it0]) (rest := []) (kX2_newLeaves hl n (9 + (i5).toNatClampNeg) (inb.row b21) it0 u25 (zb_n hF hn)) (cwV 2 C.1.2.2.2.2 gX2_slice_X2_newLeaves rfl rfl rfl (by decide +kernel) ⟨(Nat.le_of_ble_eq_true rfl), (Nat.le_of_ble_eq_true rfl)⟩) (by decide) sce_0 rfl rfl rfl (Nat.le_of_ble_eq_true rfl) dX2_slice_115 ⟨(Nat.le_of_ble_eq_true rfl), (Nat.le_of_ble_eq_true rfl)⟩ (fun _ _ h9 => zb_x hF h9) (Nat.le_of_ble_eq_true rfl) (Nat.le_of_ble_eq_true rfl) (fun v29 u28 h30 => ?_)
  replace hF := zb_l hF h30
  refine j_iload C dX2_slice_118 7 rfl ?_
  exact j_iret C hr hF (Nat.le_of_ble_eq_true rfl) (Nat.le_of_ble_eq_true rfl) dX2_slice_120
def fX2_slice (n : Nat) (i1 : Int32) (i2 : Int32) (i3 : Int32) (st : zS) : zF Int32 := (zb (fX2_arrayThere n i1 st) (fun (v2 : Nat) (u1 : zS) => (zb (fX2_checkRange n v2 i2 i3 u1) (fun (v6 : Unit) (u5 : zS) => (zb (fX2_numberForNewArray n  u5) (fun (v9 : Int32) (u8 : zS) => (if (i2 - i2 / (16 : Int32) * (16 : Int32)) = 0 then fX2_slice_41 n i2 i3 v2 v9 (i3 - i2) ((i3 - i2) / (16 : Int32)) u8 else fX2_slice_41 n i2 i3 v2 v9 (i3 - i2) (0 : Int32) u8)))))))
set_option maxHeartbeats 4000000 in
set_option maxRecDepth 100000 in
theorem kX2_slice (hl : l.stackTraces = false) (n : Nat) (i1 : Int32) (i2 : Int32) (i3 : Int32) (st : zS) (hn : fX2_slice n i1 i2 i3 st ≠ none) : zM (fun v : Int32 => some (.int v)) l yX2_slice wsX2_slice rmX2_slice D zcl (zty cI cR) 57 ad (sce cI cR ad) (sT ad) 4 24 [.ref (ad 0), .int i1, .int i2, .int i3] st (fX2_slice n i1 i2 i3 st) := by
  refine z_ofJ (cc := cX2_slice) (maxL := 10) (ret := (some .int)) (lv := [(0, .ref (ad 0)), (1, .int i1), (2, .int i2), (3, .int i3)]) (by decide) rfl (Nat.le_of_ble_eq_true rfl) rfl ?_
  intro p e s m args below meth c C hne hT hr
  obtain ⟨F, hFe⟩ : ∃ F, F = fX2_slice n i1 i2 i3 st := ⟨_, rfl⟩
  rw [← hFe] at hn ⊢
  have hF : fX2_slice n i1 i2 i3 st = F := hFe.symm
  clear hFe
  unfold fX2_slice at hF
  have C : zC p s m args meth c cX2_slice RX2 wsX2_slice D zcl (zty cI cR) 57 ad 10 := C
  refine j_aload_n C dX2_slice_0 rfl 0 rfl ?_
  refine j_iload_n C dX2_slice_1 rfl 1 rfl ?_
  refine j_callVr C hne sT_S hT (q0 := 0) (As := [.int i1]) (rest := []) (kX2_arrayThere hl n i1 st (zb_n hF hn)) (cwV 1 C.1.2.2.2.2 gX2_slice_X2_arrayThere rfl rfl rfl (by decide +kernel) ⟨(Nat.le_of_ble_eq_true rfl), (Nat.le_of_ble_eq_true rfl)⟩) (by decide) sce_0 rfl rfl rfl (Nat.le_of_ble_eq_true rfl) dX2_slice_2 ⟨(Nat.le_of_ble_eq_true rfl), (Nat.le_of_ble_eq_true rfl)⟩ (fun _ _ h9 => zb_x hF h9) (Nat.le_of_ble_eq_true rfl) (Nat.le_of_ble_eq_true rfl) (fun v2 u1 h3 => ?_)
  replace hF := zb_l hF h3
  have k4 := fX2_arrayThere_row h3
  refine j_astore (lv' := [(4, .ref (ad v2)), (0, .ref (ad 0)), (1, .int i1), (2, .int i2), (3, .int i3)]) C dX2_slice_5 (by decide) rfl ?_
  refine j_aload C dX2_slice_7 0 rfl ?_
  refine j_iload_n C dX2_slice_9 rfl 3 rfl ?_
  refine j_iload_n C dX2_slice_10 rfl 4 rfl ?_
  refine j_callSv C hne sT_S hT (As := [.ref (ad v2), .int i2, .int i3]) (rest := []) (kX2_checkRange hl n v2 k4 i2 i3 u1 (zb_n hF hn)) (va_cwS 3 C.1.2.2.2.2 gX2_slice_X2_checkRange rfl rfl rfl (by decide +kernel) ⟨(Nat.le_of_ble_eq_true rfl), (Nat.le_of_ble_eq_true rfl)⟩) rfl rfl (Nat.le_of_ble_eq_true rfl) dX2_slice_11 ⟨(Nat.le_of_ble_eq_true rfl), (Nat.le_of_ble_eq_true rfl)⟩ (fun _ _ h9 => zb_x hF h9) (Nat.le_of_ble_eq_true rfl) (Nat.le_of_ble_eq_true rfl) (fun v6 u5 h7 => ?_)
  replace hF := zb_l hF h7
  refine j_aload_n C dX2_slice_14 rfl 1 rfl ?_
  refine j_callVi C hne sT_S hT (q0 := 0) (As := []) (rest := []) (kX2_numberForNewArray hl n  u5 (zb_n hF hn)) (cwV 0 C.1.2.2.2.2 gX2_slice_X2_numberForNewArray rfl rfl rfl (by decide +kernel) ⟨(Nat.le_of_ble_eq_true rfl), (Nat.le_of_ble_eq_true rfl)⟩) (by decide) sce_0 rfl rfl rfl (Nat.le_of_ble_eq_true rfl) dX2_slice_15 ⟨(Nat.le_of_ble_eq_true rfl), (Nat.le_of_ble_eq_true rfl)⟩ (fun _ _ h9 => zb_x hF h9) (Nat.le_of_ble_eq_true rfl) (Nat.le_of_ble_eq_true rfl) (fun v9 u8 h10 => ?_)
  replace hF := zb_l hF h10
  refine j_istore (lv' := [(5, .int v9), (4, .ref (ad v2)), (0, .ref (ad 0)), (1, .int i1), (2, .int i2), (3, .int i3)]) C dX2_slice_18 (by decide) rfl ?_
  refine j_iload_n C dX2_slice_20 rfl 5 rfl ?_
  refine j_iload_n C dX2_slice_21 rfl 4 rfl ?_
  refine j_isub C dX2_slice_22 ?_
  refine j_istore (lv' := [(6, .int (i3 - i2)), (5, .int v9), (4, .ref (ad v2)), (0, .ref (ad 0)), (1, .int i1), (2, .int i2), (3, .int i3)]) C dX2_slice_23 (by decide) rfl ?_
  refine j_iload_n C dX2_slice_25 rfl 5 rfl ?_
  refine j_bipush (v := (16 : Int32)) C dX2_slice_26 (by decide) ?_
  refine j_irem C dX2_slice_28 (by decide) ?_
  refine j_if_ne (tgt := 40) C dX2_slice_29 (by decide) (fun c11 => ?_) (fun c11 => ?_)
  · replace hF := zif_f hF c11
    refine j_iconst (v := (0 : Int32)) C dX2_slice_40 (by decide) ?_
    refine j_sub [3, 5, 6, 2, 1, 0] rfl ?_
    refine wX2_slice_41 C hne hl hT hr hn n  i2 i3 v2 k4 v9 (i3 - i2) (0 : Int32) u8 hF
  · replace hF := zif_t hF c11
    refine j_iload C dX2_slice_32 0 rfl ?_
    refine j_bipush (v := (16 : Int32)) C dX2_slice_34 (by decide) ?_
    refine j_idiv C dX2_slice_36 (by decide) ?_
    refine j_goto (tgt := 41) C dX2_slice_37 (by decide) ?_
    refine j_sub [3, 5, 6, 2, 1, 0] rfl ?_
    refine wX2_slice_41 C hne hl hT hr hn n  i2 i3 v2 k4 v9 (i3 - i2) ((i3 - i2) / (16 : Int32)) u8 hF
end
/-! X2_join -/
def rmX2_join : Room := { frames := 14, cells := 4, slots := 24, locals := 280 }
theorem hatA_X2_join : ∀ w ∈ (vx_atS RX2 37 "java/lang/IllegalArgumentException" ["java/lang/RuntimeException", "java/lang/Exception"]).filter goodWord, w ∈ wsX2_join := by decide +kernel
theorem in_X2_join_wsX10 : ∀ w ∈ wsX10, w ∈ wsX2_join := by decide +kernel
theorem in_X2_join_wsX20 : ∀ w ∈ wsX20, w ∈ wsX2_join := by decide +kernel
section
variable {p : Program} {l : Launch} {e : Env} {s : State} {m : MethodId} {args : Array Value} {below : List Frame} {meth : Method} {c : Code} {D : va_G} {cI cR : ClassId} {ad : Nat → Nat}
def fX2_join_77 (n : Nat)  (r3 : Nat) (r4 : Nat) (i5 : Int32) (i6 : Int32) (i7 : Int32) (it0 : Int32) (st : zS) : zF Int32 := (zb (fX2_readValues n r3 (i7 * (16 : Int32)) (st r3 3) 6 (i7 * (16 : Int32)) st) (fun (v15 : Unit) (u14 : zS) => (zb (fX2_readValues n r4 (0 : Int32) (u14 r4 3) 6 (u14 r3 3) u14) (fun (v18 : Unit) (u17 : zS) => (zb (fX2_countOwnInNext n (i7 + it0) i5 u17) (fun (v21 : Int32) (u20 : zS) => (zb (fX2_checkRoom n v21 u20) (fun (v24 : Unit) (u23 : zS) => (if inb i6 16 then (zb (fX1_begin n (9 + (i6).toNatClampNeg) i5 u23) (fun (v28 : Unit) (u27 : zS) => (zb (fX2_shareLeaves n r3 (0 : Int32) (9 + (i6).toNatClampNeg) (0 : Int32) i7 u27) (fun (v31 : Unit) (u30 : zS) => (zb (fX2_shareLeaves n r4 (0 : Int32) (9 + (i6).toNatClampNeg) i7 it0 u30) (fun (v34 : Unit) (u33 : zS) => (zb (fX2_newLeaves n (9 + (i6).toNatClampNeg) (i7 + it0) u33) (fun (v37 : Unit) (u36 : zS) => some (.inl i6, u36))))))))) else none)))))))))
set_option maxHeartbeats 4000000 in
set_option maxRecDepth 100000 in
theorem wX2_join_77 (C : zC p s m args meth c cX2_join RX2 wsX2_join D zcl (zty cI cR) 57 ad 11) (hne : ∀ x ∈ c.exceptionTable.toList, False) (hl : l.stackTraces = false) (hT : (sT ad) s.heap.size s) (hr : meth.sig.returnType = (some .int)) {F : zF Int32} (hn : F ≠ none) (n : Nat)   : ∀ (r3 : Nat) (hr3 : isRow r3) (r4 : Nat) (hr4 : isRow r4) (i5 : Int32) (i6 : Int32) (i7 : Int32) (it0 : Int32) (st : zS), fX2_join_77 n  r3 r4 i5 i6 i7 it0 st = F → sJ (fun v : Int32 => some (.int v)) F 4 24 p l e rmX2_join s m args below meth c D cI cR ad 11 st 3 18 77 [(0, .ref (ad 0)), (3, .ref (ad r3)), (4, .ref (ad r4)), (5, .int i5), (6, .int i6), (7, .int i7)] [.int it0] := by
  intro r3 hr3 r4 hr4 i5 i6 i7 it0 st hF
  unfold fX2_join_77 at hF
  refine j_istore (lv' := [(8, .int it0), (0, .ref (ad 0)), (3, .ref (ad r3)), (4, .ref (ad r4)), (5, .int i5), (6, .int i6), (7, .int i7)]) C dX2_join_77 (by decide) rfl ?_
  refine j_iload C dX2_join_79 6 rfl ?_
  refine j_iload C dX2_join_81 0 rfl ?_
  refine j_iadd C dX2_join_83 ?_
  refine j_istore (lv' := [(9, .int (i7 + it0)), (8, .int it0), (0, .ref (ad 0)), (3, .ref (ad r3)), (4, .ref (ad r4)), (5, .int i5), (6, .int i6), (7, .int i7)]) C dX2_join_84 (by decide) rfl ?_
  refine j_aload_n C dX2_join_86 rfl 2 rfl ?_
  refine j_aload_n C dX2_join_87 rfl 3 rfl ?_
  refine j_iload C dX2_join_88 7 rfl ?_
  refine j_bipush (v := (16 : Int32)) C dX2_join_90 (by decide) ?_
  refine j_imul C dX2_join_92 ?_
  refine j_aload_n C dX2_join_93 rfl 3 rfl ?_
  refine s_getR C in_X2_join_wsX10 hr3 3 (by decide) (by decide +kernel) rfl dX2_join_94 ?_
  refine j_aload_n C dX2_join_97 rfl 2 rfl ?_
  refine s_get0 C in_X2_join_wsX20 2 (by decide) (by decide +kernel) 6 rfl dX2_join_98 ?_
  refine j_iload C dX2_join_101 7 rfl ?_
  refine j_bipush (v := (16 : Int32)) C dX2_join_103 (by decide) ?_
  refine j_imul C dX2_join_105 ?_
  refine j_callVv C hne sT_S hT (q0 := 0) (As := [.ref (ad r3), .int (i7 * (16 : Int32)), .int (st r3 3), .ref (ad 6), .int (i7 * (16 : Int32))]) (rest := []) (kX2_readValues hl n r3 hr3 (i7 * (16 : Int32)) (st r3 3) 6 (by decide) (i7 * (16 : Int32)) st (zb_n hF hn)) (cwV 5 C.1.2.2.2.2 gX2_join_X2_readValues rfl rfl rfl (by decide +kernel) ⟨(Nat.le_of_ble_eq_true rfl), (Nat.le_of_ble_eq_true rfl)⟩) (by decide) sce_0 rfl rfl rfl (Nat.le_of_ble_eq_true rfl) dX2_join_106 ⟨(Nat.le_of_ble_eq_true rfl), (Nat.le_of_ble_eq_true rfl)⟩ (fun _ _ h9 => zb_x hF h9) (Nat.le_of_ble_eq_true rfl) (Nat.le_of_ble_eq_true rfl) (fun v15 u14 h16 => ?_)
  replace hF := zb_l hF h16
  refine j_aload_n C dX2_join_109 rfl 2 rfl ?_
  refine j_aload C dX2_join_110 4 rfl ?_
  refine j_iconst (v := (0 : Int32)) C dX2_join_112 (by decide) ?_
  refine j_aload C dX2_join_113 4 rfl ?_
  refine s_getR C in_X2_join_wsX10 hr4 3 (by decide) (by decide +kernel) rfl dX2_join_115 ?_
  refine j_aload_n C dX2_join_118 rfl 2 rfl ?_
  refine s_get0 C in_X2_join_wsX20 2 (by decide) (by decide +kernel) 6 rfl dX2_join_119 ?_
  refine j_aload_n C dX2_join_122 rfl 3 rfl ?_
  refine s_getR C in_X2_join_wsX10 hr3 3 (by decide) (by decide +kernel) rfl dX2_join_123 ?_
  refine j_callVv C hne sT_S hT (q0 := 0) (As := [.ref (ad r4), .int (0 : Int32), .int (u14 r4 3), .ref (ad 6), .int (u14 r3 3)]) (rest := []) (kX2_readValues hl n r4 hr4 (0 : Int32) (u14 r4 3) 6 (by decide) (u14 r3 3) u14 (zb_n hF hn)) (cwV 5 C.1.2.2.2.2 gX2_join_X2_readValues rfl rfl rfl (by decide +kernel) ⟨(Nat.le_of_ble_eq_true rfl), (Nat.le_of_ble_eq_true rfl)⟩) (by decide) sce_0 rfl rfl rfl (Nat.le_of_ble_eq_true rfl) dX2_join_126 ⟨(Nat.le_of_ble_eq_true rfl), (Nat.le_of_ble_eq_true rfl)⟩ (fun _ _ h9 => zb_x hF h9) (Nat.le_of_ble_eq_true rfl) (Nat.le_of_ble_eq_true rfl) (fun v18 u17 h19 => ?_)
  replace hF := zb_l hF h19
  refine j_aload_n C dX2_join_129 rfl 2 rfl ?_
  refine j_aload_n C dX2_join_130 rfl 2 rfl ?_
  refine j_iload C dX2_join_131 0 rfl ?_
  refine j_iload C dX2_join_133 5 rfl ?_
  refine j_callVi C hne sT_S hT (q0 := 0) (As := [.int (i7 + it0), .int i5]) (rest := [.ref (ad 0)]) (kX2_countOwnInNext hl n (i7 + it0) i5 u17 (zb_n hF hn)) (cwV 2 C.1.2.2.2.2 gX2_join_X2_countOwnInNext rfl rfl rfl (by decide +kernel) ⟨(Nat.le_of_ble_eq_true rfl), (Nat.le_of_ble_eq_true rfl)⟩) (by decide) sce_0 rfl rfl rfl (Nat.le_of_ble_eq_true rfl) dX2_join_135 ⟨(Nat.le_of_ble_eq_true rfl), (Nat.le_of_ble_eq_true rfl)⟩ (fun _ _ h9 => zb_x hF h9) (Nat.le_of_ble_eq_true rfl) (Nat.le_of_ble_eq_true rfl) (fun v21 u20 h22 => ?_)
  replace hF := zb_l hF h22
  refine j_callVv C hne sT_S hT (q0 := 0) (As := [.int v21]) (rest := []) (kX2_checkRoom hl n v21 u20 (zb_n hF hn)) (cwV 1 C.1.2.2.2.2 gX2_join_X2_checkRoom rfl rfl rfl (by decide +kernel) ⟨(Nat.le_of_ble_eq_true rfl), (Nat.le_of_ble_eq_true rfl)⟩) (by decide) sce_0 rfl rfl rfl (Nat.le_of_ble_eq_true rfl) dX2_join_138 ⟨(Nat.le_of_ble_eq_true rfl), (Nat.le_of_ble_eq_true rfl)⟩ (fun _ _ h9 => zb_x hF h9) (Nat.le_of_ble_eq_true rfl) (Nat.le_of_ble_eq_true rfl) (fun v24 u23 h25 => ?_)
  replace hF := zb_l hF h25
  refine j_aload_n C dX2_join_141 rfl 2 rfl ?_
  refine s_get0 C in_X2_join_wsX20 0 (by decide) (by decide +kernel) 1 rfl dX2_join_142 ?_
  refine j_iload C dX2_join_145 6 rfl ?_
  have b26 := zif_c hF hn
  replace hF := zif_t hF b26
  refine s_aald C b26 dX2_join_147 ?_
  refine j_astore (lv' := [(10, .ref (ad (9 + (i6).toNatClampNeg))), (9, .int (i7 + it0)), (8, .int it0), (0, .ref (ad 0)), (3, .ref (ad r3)), (4, .ref (ad r4)), (5, .int i5), (6, .int i6), (7, .int i7)]) C dX2_join_148 (by decide) rfl ?_
  refine j_aload C dX2_join_150 0 rfl ?_
  refine j_iload C dX2_join_152 6 rfl ?_
  refine j_callVv C hne sT_S hT (q0 := (9 + (i6).toNatClampNeg)) (As := [.int i5]) (rest := []) (kX1_begin hl n (9 + (i6).toNatClampNeg) (inb.row b26) i5 u23 (zb_n hF hn)) (cwV 1 C.1.2.2.2.2 gX2_join_X1_begin rfl rfl rfl (by decide +kernel) ⟨(Nat.le_of_ble_eq_true rfl), (Nat.le_of_ble_eq_true rfl)⟩) (isRow.lt (inb.row b26)) (sce_row (inb.row b26)) rfl rfl rfl (Nat.le_of_ble_eq_true rfl) dX2_join_154 ⟨(Nat.le_of_ble_eq_true rfl), (Nat.le_of_ble_eq_true rfl)⟩ (fun _ _ h9 => zb_x hF h9) (Nat.le_of_ble_eq_true rfl) (Nat.le_of_ble_eq_true rfl) (fun v28 u27 h29 => ?_)
  replace hF := zb_l hF h29
  refine j_aload_n C dX2_join_157 rfl 3 rfl ?_
  refine j_aload_n C dX2_join_158 rfl 4 rfl ?_
  refine j_iconst (v := (0 : Int32)) C dX2_join_159 (by decide) ?_
  refine j_aload C dX2_join_160 0 rfl ?_
  refine j_iconst (v := (0 : Int32)) C dX2_join_162 (by decide) ?_
  refine j_iload C dX2_join_163 8 rfl ?_
  refine j_callVv C hne sT_S hT (q0 := 0) (As := [.ref (ad r3), .int (0 : Int32), .ref (ad (9 + (i6).toNatClampNeg)), .int (0 : Int32), .int i7]) (rest := []) (kX2_shareLeaves hl n r3 hr3 (0 : Int32) (9 + (i6).toNatClampNeg) (inb.row b26) (0 : Int32) i7 u27 (zb_n hF hn)) (cwV 5 C.1.2.2.2.2 gX2_join_X2_shareLeaves rfl rfl rfl (by decide +kernel) ⟨(Nat.le_of_ble_eq_true rfl), (Nat.le_of_ble_eq_true rfl)⟩) (by decide) sce_0 rfl rfl rfl (Nat.le_of_ble_eq_true rfl) dX2_join_165 ⟨(Nat.le_of_ble_eq_true rfl), (Nat.le_of_ble_eq_true rfl)⟩ (fun _ _ h9 => zb_x hF h9) (Nat.le_of_ble_eq_true rfl) (Nat.le_of_ble_eq_true rfl) (fun v31 u30 h32 => ?_)
  replace hF := zb_l hF h32
  refine j_aload_n C dX2_join_168 rfl 3 rfl ?_
  refine j_aload C dX2_join_169 5 rfl ?_
  refine j_iconst (v := (0 : Int32)) C dX2_join_171 (by decide) ?_
  refine j_aload C dX2_join_172 0 rfl ?_
  refine j_iload C dX2_join_174 8 rfl ?_
  refine j_iload C dX2_join_176 2 rfl ?_
  refine j_callVv C hne sT_S hT (q0 := 0) (As := [.ref (ad r4), .int (0 : Int32), .ref (ad (9 + (i6).toNatClampNeg)), .int i7, .int it0]) (rest := []) (kX2_shareLeaves hl n r4 hr4 (0 : Int32) (9 + (i6).toNatClampNeg) (inb.row b26) i7 it0 u30 (zb_n hF hn)) (cwV 5 C.1.2.2.2.2 gX2_join_X2_shareLeaves rfl rfl rfl (by decide +kernel) ⟨(Nat.le_of_ble_eq_true rfl), (Nat.le_of_ble_eq_true rfl)⟩) (by decide) sce_0 rfl rfl rfl (Nat.le_of_ble_eq_true rfl) dX2_join_178 ⟨(Nat.le_of_ble_eq_true rfl), (Nat.le_of_ble_eq_true rfl)⟩ (fun _ _ h9 => zb_x hF h9) (Nat.le_of_ble_eq_true rfl) (Nat.le_of_ble_eq_true rfl) (fun v34 u33 h35 => ?_)
  replace hF := zb_l hF h35
  refine j_aload_n C dX2_join_181 rfl 3 rfl ?_
  refine j_aload C dX2_join_182 0 rfl ?_
  refine j_iload C dX2_join_184 1 rfl ?_
  refine j_callVv C hne sT_S hT (q0 := 0) (As := [.ref (ad (9 + (i6).toNatClampNeg)), .int (i7 + it0)]) (rest := []) (kX2_newLeaves hl n (9 + (i6).toNatClampNeg) (inb.row b26) (i7 + it0) u33 (zb_n hF hn)) (cwV 2 C.1.2.2.2.2 gX2_join_X2_newLeaves rfl rfl rfl (by decide +kernel) ⟨(Nat.le_of_ble_eq_true rfl), (Nat.le_of_ble_eq_true rfl)⟩) (by decide) sce_0 rfl rfl rfl (Nat.le_of_ble_eq_true rfl) dX2_join_186 ⟨(Nat.le_of_ble_eq_true rfl), (Nat.le_of_ble_eq_true rfl)⟩ (fun _ _ h9 => zb_x hF h9) (Nat.le_of_ble_eq_true rfl) (Nat.le_of_ble_eq_true rfl) (fun v37 u36 h38 => ?_)
  replace hF := zb_l hF h38
  refine j_iload C dX2_join_189 7 rfl ?_
  exact j_iret C hr hF (Nat.le_of_ble_eq_true rfl) (Nat.le_of_ble_eq_true rfl) dX2_join_191
def fX2_join (n : Nat) (i1 : Int32) (i2 : Int32) (st : zS) : zF Int32 := (zb (fX2_arrayThere n i1 st) (fun (v2 : Nat) (u1 : zS) => (zb (fX2_arrayThere n i2 u1) (fun (v6 : Nat) (u5 : zS) => (if ((u5 v2 3) + (u5 v6 3)) ≤ (4096 : Int32) then (zb (fX2_numberForNewArray n  u5) (fun (v11 : Int32) (u10 : zS) => (if ((u10 v2 3) - (u10 v2 3) / (16 : Int32) * (16 : Int32)) = 0 then (zb (fX1_leafCount n v6 u10) (fun (v40 : Int32) (u39 : zS) => fX2_join_77 n v2 v6 ((u5 v2 3) + (u5 v6 3)) v11 ((u10 v2 3) / (16 : Int32)) v40 u39)) else fX2_join_77 n v2 v6 ((u5 v2 3) + (u5 v6 3)) v11 ((u10 v2 3) / (16 : Int32)) (0 : Int32) u10))) else some (.inr true, u5))))))
set_option maxHeartbeats 4000000 in
set_option maxRecDepth 100000 in
theorem kX2_join (hl : l.stackTraces = false) (n : Nat) (i1 : Int32) (i2 : Int32) (st : zS) (hn : fX2_join n i1 i2 st ≠ none) : zM (fun v : Int32 => some (.int v)) l yX2_join wsX2_join rmX2_join D zcl (zty cI cR) 57 ad (sce cI cR ad) (sT ad) 4 24 [.ref (ad 0), .int i1, .int i2] st (fX2_join n i1 i2 st) := by
  refine z_ofJ (cc := cX2_join) (maxL := 11) (ret := (some .int)) (lv := [(0, .ref (ad 0)), (1, .int i1), (2, .int i2)]) (by decide) rfl (Nat.le_of_ble_eq_true rfl) rfl ?_
  intro p e s m args below meth c C hne hT hr
  obtain ⟨F, hFe⟩ : ∃ F, F = fX2_join n i1 i2 st := ⟨_, rfl⟩
  rw [← hFe] at hn ⊢
  have hF : fX2_join n i1 i2 st = F := hFe.symm
  clear hFe
  unfold fX2_join at hF
  have C : zC p s m args meth c cX2_join RX2 wsX2_join D zcl (zty cI cR) 57 ad 11 := C
  refine j_aload_n C dX2_join_0 rfl 0 rfl ?_
  refine j_iload_n C dX2_join_1 rfl 1 rfl ?_
  refine j_callVr C hne sT_S hT (q0 := 0) (As := [.int i1]) (rest := []) (kX2_arrayThere hl n i1 st (zb_n hF hn)) (cwV 1 C.1.2.2.2.2 gX2_join_X2_arrayThere rfl rfl rfl (by decide +kernel) ⟨(Nat.le_of_ble_eq_true rfl), (Nat.le_of_ble_eq_true rfl)⟩) (by decide) sce_0 rfl rfl rfl (Nat.le_of_ble_eq_true rfl) dX2_join_2 ⟨(Nat.le_of_ble_eq_true rfl), (Nat.le_of_ble_eq_true rfl)⟩ (fun _ _ h9 => zb_x hF h9) (Nat.le_of_ble_eq_true rfl) (Nat.le_of_ble_eq_true rfl) (fun v2 u1 h3 => ?_)
  replace hF := zb_l hF h3
  have k4 := fX2_arrayThere_row h3
  refine j_astore_n (lv' := [(3, .ref (ad v2)), (0, .ref (ad 0)), (1, .int i1), (2, .int i2)]) C dX2_join_5 rfl (by decide) rfl ?_
  refine j_aload_n C dX2_join_6 rfl 1 rfl ?_
  refine j_iload_n C dX2_join_7 rfl 3 rfl ?_
  refine j_callVr C hne sT_S hT (q0 := 0) (As := [.int i2]) (rest := []) (kX2_arrayThere hl n i2 u1 (zb_n hF hn)) (cwV 1 C.1.2.2.2.2 gX2_join_X2_arrayThere rfl rfl rfl (by decide +kernel) ⟨(Nat.le_of_ble_eq_true rfl), (Nat.le_of_ble_eq_true rfl)⟩) (by decide) sce_0 rfl rfl rfl (Nat.le_of_ble_eq_true rfl) dX2_join_8 ⟨(Nat.le_of_ble_eq_true rfl), (Nat.le_of_ble_eq_true rfl)⟩ (fun _ _ h9 => zb_x hF h9) (Nat.le_of_ble_eq_true rfl) (Nat.le_of_ble_eq_true rfl) (fun v6 u5 h7 => ?_)
  replace hF := zb_l hF h7
  have k8 := fX2_arrayThere_row h7
  refine j_astore (lv' := [(4, .ref (ad v6)), (3, .ref (ad v2)), (0, .ref (ad 0)), (1, .int i1), (2, .int i2)]) C dX2_join_11 (by decide) rfl ?_
  refine j_aload_n C dX2_join_13 rfl 1 rfl ?_
  refine s_getR C in_X2_join_wsX10 k4 3 (by decide) (by decide +kernel) rfl dX2_join_14 ?_
  refine j_aload C dX2_join_17 0 rfl ?_
  refine s_getR C in_X2_join_wsX10 k8 3 (by decide) (by decide +kernel) rfl dX2_join_19 ?_
  refine j_iadd C dX2_join_22 ?_
  refine j_istore (lv' := [(5, .int ((u5 v2 3) + (u5 v6 3))), (4, .ref (ad v6)), (3, .ref (ad v2)), (0, .ref (ad 0)), (1, .int i1), (2, .int i2)]) C dX2_join_23 (by decide) rfl ?_
  refine j_iload C dX2_join_25 0 rfl ?_
  refine j_sipush (v := (4096 : Int32)) C dX2_join_27 (by decide) ?_
  refine j_icmp_le (tgt := 43) C dX2_join_30 (by decide) (fun c9 => ?_) (fun c9 => ?_)
  · replace hF := zif_t hF c9
    refine j_aload_n C dX2_join_43 rfl 3 rfl ?_
    refine j_callVi C hne sT_S hT (q0 := 0) (As := []) (rest := []) (kX2_numberForNewArray hl n  u5 (zb_n hF hn)) (cwV 0 C.1.2.2.2.2 gX2_join_X2_numberForNewArray rfl rfl rfl (by decide +kernel) ⟨(Nat.le_of_ble_eq_true rfl), (Nat.le_of_ble_eq_true rfl)⟩) (by decide) sce_0 rfl rfl rfl (Nat.le_of_ble_eq_true rfl) dX2_join_44 ⟨(Nat.le_of_ble_eq_true rfl), (Nat.le_of_ble_eq_true rfl)⟩ (fun _ _ h9 => zb_x hF h9) (Nat.le_of_ble_eq_true rfl) (Nat.le_of_ble_eq_true rfl) (fun v11 u10 h12 => ?_)
    replace hF := zb_l hF h12
    refine j_istore (lv' := [(6, .int v11), (5, .int ((u5 v2 3) + (u5 v6 3))), (4, .ref (ad v6)), (3, .ref (ad v2)), (0, .ref (ad 0)), (1, .int i1), (2, .int i2)]) C dX2_join_47 (by decide) rfl ?_
    refine j_aload_n C dX2_join_49 rfl 3 rfl ?_
    refine s_getR C in_X2_join_wsX10 k4 3 (by decide) (by decide +kernel) rfl dX2_join_50 ?_
    refine j_bipush (v := (16 : Int32)) C dX2_join_53 (by decide) ?_
    refine j_idiv C dX2_join_55 (by decide) ?_
    refine j_istore (lv' := [(7, .int ((u10 v2 3) / (16 : Int32))), (6, .int v11), (5, .int ((u5 v2 3) + (u5 v6 3))), (4, .ref (ad v6)), (3, .ref (ad v2)), (0, .ref (ad 0)), (1, .int i1), (2, .int i2)]) C dX2_join_56 (by decide) rfl ?_
    refine j_aload_n C dX2_join_58 rfl 4 rfl ?_
    refine s_getR C in_X2_join_wsX10 k4 3 (by decide) (by decide +kernel) rfl dX2_join_59 ?_
    refine j_bipush (v := (16 : Int32)) C dX2_join_62 (by decide) ?_
    refine j_irem C dX2_join_64 (by decide) ?_
    refine j_if_ne (tgt := 76) C dX2_join_65 (by decide) (fun c13 => ?_) (fun c13 => ?_)
    · replace hF := zif_f hF c13
      refine j_iconst (v := (0 : Int32)) C dX2_join_76 (by decide) ?_
      refine j_sub [5, 4, 3, 2, 1, 0] rfl ?_
      refine wX2_join_77 C hne hl hT hr hn n  v2 k4 v6 k8 ((u5 v2 3) + (u5 v6 3)) v11 ((u10 v2 3) / (16 : Int32)) (0 : Int32) u10 hF
    · replace hF := zif_t hF c13
      refine j_aload C dX2_join_68 3 rfl ?_
      refine j_callVi C hne sT_S hT (q0 := v6) (As := []) (rest := []) (kX1_leafCount hl n v6 k8 u10 (zb_n hF hn)) (cwV 0 C.1.2.2.2.2 gX2_join_X1_leafCount rfl rfl rfl (by decide +kernel) ⟨(Nat.le_of_ble_eq_true rfl), (Nat.le_of_ble_eq_true rfl)⟩) (isRow.lt k8) (sce_row k8) rfl rfl rfl (Nat.le_of_ble_eq_true rfl) dX2_join_70 ⟨(Nat.le_of_ble_eq_true rfl), (Nat.le_of_ble_eq_true rfl)⟩ (fun _ _ h9 => zb_x hF h9) (Nat.le_of_ble_eq_true rfl) (Nat.le_of_ble_eq_true rfl) (fun v40 u39 h41 => ?_)
      replace hF := zb_l hF h41
      refine j_goto (tgt := 77) C dX2_join_73 (by decide) ?_
      refine j_sub [5, 4, 3, 2, 1, 0] rfl ?_
      refine wX2_join_77 C hne hl hT hr hn n  v2 k4 v6 k8 ((u5 v2 3) + (u5 v6 3)) v11 ((u10 v2 3) / (16 : Int32)) v40 u39 hF
  · replace hF := zif_f hF c9
    exact s_throwA (text := "more than 4096 values") C hne hl hT (by decide +kernel) (by decide +kernel) hatA_X2_join (by decide) dX2_join_33 dX2_join_36 dX2_join_37 dX2_join_39 dX2_join_42 (Nat.le_of_ble_eq_true rfl) (Nat.le_of_ble_eq_true rfl) (Nat.le_of_ble_eq_true rfl) (Nat.le_of_ble_eq_true rfl) hF (Nat.le_of_ble_eq_true rfl) (Nat.le_of_ble_eq_true rfl)
end
