/-! X2_fill -/
def rmX2_fill : Room := { frames := 16, cells := 3, slots := 18, locals := 360 }
section
variable {p : Program} {l : Launch} {e : Env} {s : State} {m : MethodId} {args : Array Value} {below : List Frame} {meth : Method} {c : Code} {D : va_G} {cI cR : ClassId} {ad : Nat → Nat}
def fX2_fill (n : Nat) (i1 : Int32) (i2 : Int32) (i3 : Int32) (i4 : Int32) (st : zS) : zF Unit := (zb (fX2_arrayThere n i1 st) (fun (v2 : Nat) (u1 : zS) => (zb (fX2_checkRange n v2 i2 i3 u1) (fun (v6 : Unit) (u5 : zS) => (zb (fX2_fillValues n v2 i2 i3 i4 u5) (fun (v9 : Unit) (u8 : zS) => some (.inl (), u8)))))))
set_option maxHeartbeats 4000000 in
set_option maxRecDepth 100000 in
theorem kX2_fill (hl : l.stackTraces = false) (n : Nat) (i1 : Int32) (i2 : Int32) (i3 : Int32) (i4 : Int32) (st : zS) (hn : fX2_fill n i1 i2 i3 i4 st ≠ none) : zM (fun _ : Unit => none) l yX2_fill wsX2_fill rmX2_fill D zcl (zty cI cR) 57 ad (sce cI cR ad) (sT ad) 3 18 [.ref (ad 0), .int i1, .int i2, .int i3, .int i4] st (fX2_fill n i1 i2 i3 i4 st) := by
  refine z_ofJ (cc := cX2_fill) (maxL := 6) (ret := none) (lv := [(0, .ref (ad 0)), (1, .int i1), (2, .int i2), (3, .int i3), (4, .int i4)]) (by decide) rfl (Nat.le_of_ble_eq_true rfl) rfl ?_
  intro p e s m args below meth c C hne hT hr
  obtain ⟨F, hFe⟩ : ∃ F, F = fX2_fill n i1 i2 i3 i4 st := ⟨_, rfl⟩
  rw [← hFe] at hn ⊢
  have hF : fX2_fill n i1 i2 i3 i4 st = F := hFe.symm
  clear hFe
  unfold fX2_fill at hF
  have C : zC p s m args meth c cX2_fill RX2 wsX2_fill D zcl (zty cI cR) 57 ad 6 := C
  refine j_aload_n C dX2_fill_0 rfl 0 rfl ?_
  refine j_iload_n C dX2_fill_1 rfl 1 rfl ?_
  refine j_callVr C hne sT_S hT (q0 := 0) (As := [.int i1]) (rest := []) (kX2_arrayThere hl n i1 st (zb_n hF hn)) (cwV 1 C.1.2.2.2.2 gX2_fill_X2_arrayThere rfl rfl rfl (by decide +kernel) ⟨(Nat.le_of_ble_eq_true rfl), (Nat.le_of_ble_eq_true rfl)⟩) (by decide) sce_0 rfl rfl rfl (Nat.le_of_ble_eq_true rfl) dX2_fill_2 ⟨(Nat.le_of_ble_eq_true rfl), (Nat.le_of_ble_eq_true rfl)⟩ (fun _ _ h9 => zb_x hF h9) (Nat.le_of_ble_eq_true rfl) (Nat.le_of_ble_eq_true rfl) (fun v2 u1 h3 => ?_)
  replace hF := zb_l hF h3
  have k4 := fX2_arrayThere_row h3
  refine j_astore (lv' := [(5, .ref (ad v2)), (0, .ref (ad 0)), (1, .int i1), (2, .int i2), (3, .int i3), (4, .int i4)]) C dX2_fill_5 (by decide) rfl ?_
  refine j_aload C dX2_fill_7 0 rfl ?_
  refine j_iload_n C dX2_fill_9 rfl 3 rfl ?_
  refine j_iload_n C dX2_fill_10 rfl 4 rfl ?_
  refine j_callSv C hne sT_S hT (As := [.ref (ad v2), .int i2, .int i3]) (rest := []) (kX2_checkRange hl n v2 k4 i2 i3 u1 (zb_n hF hn)) (va_cwS 3 C.1.2.2.2.2 gX2_fill_X2_checkRange rfl rfl rfl (by decide +kernel) ⟨(Nat.le_of_ble_eq_true rfl), (Nat.le_of_ble_eq_true rfl)⟩) rfl rfl (Nat.le_of_ble_eq_true rfl) dX2_fill_11 ⟨(Nat.le_of_ble_eq_true rfl), (Nat.le_of_ble_eq_true rfl)⟩ (fun _ _ h9 => zb_x hF h9) (Nat.le_of_ble_eq_true rfl) (Nat.le_of_ble_eq_true rfl) (fun v6 u5 h7 => ?_)
  replace hF := zb_l hF h7
  refine j_aload_n C dX2_fill_14 rfl 1 rfl ?_
  refine j_aload C dX2_fill_15 0 rfl ?_
  refine j_iload_n C dX2_fill_17 rfl 3 rfl ?_
  refine j_iload_n C dX2_fill_18 rfl 4 rfl ?_
  refine j_iload C dX2_fill_19 5 rfl ?_
  refine j_callVv C hne sT_S hT (q0 := 0) (As := [.ref (ad v2), .int i2, .int i3, .int i4]) (rest := []) (kX2_fillValues hl n v2 k4 i2 i3 i4 u5 (zb_n hF hn)) (cwV 4 C.1.2.2.2.2 gX2_fill_X2_fillValues rfl rfl rfl (by decide +kernel) ⟨(Nat.le_of_ble_eq_true rfl), (Nat.le_of_ble_eq_true rfl)⟩) (by decide) sce_0 rfl rfl rfl (Nat.le_of_ble_eq_true rfl) dX2_fill_21 ⟨(Nat.le_of_ble_eq_true rfl), (Nat.le_of_ble_eq_true rfl)⟩ (fun _ _ h9 => zb_x hF h9) (Nat.le_of_ble_eq_true rfl) (Nat.le_of_ble_eq_true rfl) (fun v9 u8 h10 => ?_)
  replace hF := zb_l hF h10
  exact j_vret C hr hF (Nat.le_of_ble_eq_true rfl) (Nat.le_of_ble_eq_true rfl) dX2_fill_24
end
/-! X2_move -/
def rmX2_move : Room := { frames := 15, cells := 3, slots := 18, locals := 320 }
theorem hatA_X2_move : ∀ w ∈ (vx_atS RX2 37 "java/lang/IllegalArgumentException" ["java/lang/RuntimeException", "java/lang/Exception"]).filter goodWord, w ∈ wsX2_move := by decide +kernel
theorem in_X2_move_wsX10 : ∀ w ∈ wsX10, w ∈ wsX2_move := by decide +kernel
theorem in_X2_move_wsX20 : ∀ w ∈ wsX20, w ∈ wsX2_move := by decide +kernel
section
variable {p : Program} {l : Launch} {e : Env} {s : State} {m : MethodId} {args : Array Value} {below : List Frame} {meth : Method} {c : Code} {D : va_G} {cI cR : ClassId} {ad : Nat → Nat}
def fX2_move (n : Nat) (i1 : Int32) (i2 : Int32) (i3 : Int32) (i4 : Int32) (st : zS) : zF Unit := (zb (fX2_arrayThere n i1 st) (fun (v2 : Nat) (u1 : zS) => (zb (fX2_checkRange n v2 i2 i3 u1) (fun (v6 : Unit) (u5 : zS) => (if i4 < 0 then some (.inr true, u5) else (if i4 ≤ ((u5 v2 3) - (i3 - i2)) then (zb (fX2_leavesFor n (i4 + (i3 - i2)) u5) (fun (v11 : Int32) (u10 : zS) => (zb (fX2_readLeaves n v2 (i4 / (16 : Int32)) v11 u10) (fun (v14 : Unit) (u13 : zS) => (zb (fX2_readValues n v2 i2 i3 6 i4 u13) (fun (v17 : Unit) (u16 : zS) => (zb (fX2_changeLeaves n v2 (i4 / (16 : Int32)) v11 u16) (fun (v20 : Unit) (u19 : zS) => some (.inl (), u19))))))))) else some (.inr true, u5)))))))
set_option maxHeartbeats 4000000 in
set_option maxRecDepth 100000 in
theorem kX2_move (hl : l.stackTraces = false) (n : Nat) (i1 : Int32) (i2 : Int32) (i3 : Int32) (i4 : Int32) (st : zS) (hn : fX2_move n i1 i2 i3 i4 st ≠ none) : zM (fun _ : Unit => none) l yX2_move wsX2_move rmX2_move D zcl (zty cI cR) 57 ad (sce cI cR ad) (sT ad) 3 18 [.ref (ad 0), .int i1, .int i2, .int i3, .int i4] st (fX2_move n i1 i2 i3 i4 st) := by
  refine z_ofJ (cc := cX2_move) (maxL := 9) (ret := none) (lv := [(0, .ref (ad 0)), (1, .int i1), (2, .int i2), (3, .int i3), (4, .int i4)]) (by decide) rfl (Nat.le_of_ble_eq_true rfl) rfl ?_
  intro p e s m args below meth c C hne hT hr
  obtain ⟨F, hFe⟩ : ∃ F, F = fX2_move n i1 i2 i3 i4 st := ⟨_, rfl⟩
  rw [← hFe] at hn ⊢
  have hF : fX2_move n i1 i2 i3 i4 st = F := hFe.symm
  clear hFe
  unfold fX2_move at hF
  have C : zC p s m args meth c cX2_move RX2 wsX2_move D zcl (zty cI cR) 57 ad 9 := C
  refine j_aload_n C dX2_move_0 rfl 0 rfl ?_
  refine j_iload_n C dX2_move_1 rfl 1 rfl ?_
  refine j_callVr C hne sT_S hT (q0 := 0) (As := [.int i1]) (rest := []) (kX2_arrayThere hl n i1 st (zb_n hF hn)) (cwV 1 C.1.2.2.2.2 gX2_move_X2_arrayThere rfl rfl rfl (by decide +kernel) ⟨(Nat.le_of_ble_eq_true rfl), (Nat.le_of_ble_eq_true rfl)⟩) (by decide) sce_0 rfl rfl rfl (Nat.le_of_ble_eq_true rfl) dX2_move_2 ⟨(Nat.le_of_ble_eq_true rfl), (Nat.le_of_ble_eq_true rfl)⟩ (fun _ _ h9 => zb_x hF h9) (Nat.le_of_ble_eq_true rfl) (Nat.le_of_ble_eq_true rfl) (fun v2 u1 h3 => ?_)
  replace hF := zb_l hF h3
  have k4 := fX2_arrayThere_row h3
  refine j_astore (lv' := [(5, .ref (ad v2)), (0, .ref (ad 0)), (1, .int i1), (2, .int i2), (3, .int i3), (4, .int i4)]) C dX2_move_5 (by decide) rfl ?_
  refine j_aload C dX2_move_7 0 rfl ?_
  refine j_iload_n C dX2_move_9 rfl 3 rfl ?_
  refine j_iload_n C dX2_move_10 rfl 4 rfl ?_
  refine j_callSv C hne sT_S hT (As := [.ref (ad v2), .int i2, .int i3]) (rest := []) (kX2_checkRange hl n v2 k4 i2 i3 u1 (zb_n hF hn)) (va_cwS 3 C.1.2.2.2.2 gX2_move_X2_checkRange rfl rfl rfl (by decide +kernel) ⟨(Nat.le_of_ble_eq_true rfl), (Nat.le_of_ble_eq_true rfl)⟩) rfl rfl (Nat.le_of_ble_eq_true rfl) dX2_move_11 ⟨(Nat.le_of_ble_eq_true rfl), (Nat.le_of_ble_eq_true rfl)⟩ (fun _ _ h9 => zb_x hF h9) (Nat.le_of_ble_eq_true rfl) (Nat.le_of_ble_eq_true rfl) (fun v6 u5 h7 => ?_)
  replace hF := zb_l hF h7
  refine j_iload_n C dX2_move_14 rfl 4 rfl ?_
  refine j_iload_n C dX2_move_15 rfl 3 rfl ?_
  refine j_isub C dX2_move_16 ?_
  refine j_istore (lv' := [(6, .int (i3 - i2)), (5, .ref (ad v2)), (0, .ref (ad 0)), (1, .int i1), (2, .int i2), (3, .int i3), (4, .int i4)]) C dX2_move_17 (by decide) rfl ?_
  refine j_iload C dX2_move_19 6 rfl ?_
  refine j_if_lt (tgt := 37) C dX2_move_21 (by decide) (fun c8 => ?_) (fun c8 => ?_)
  · replace hF := zif_t hF c8
    exact s_throwA (text := "the values would lie outside the array") C hne hl hT (by decide +kernel) (by decide +kernel) hatA_X2_move (by decide) dX2_move_37 dX2_move_40 dX2_move_41 dX2_move_43 dX2_move_46 (Nat.le_of_ble_eq_true rfl) (Nat.le_of_ble_eq_true rfl) (Nat.le_of_ble_eq_true rfl) (Nat.le_of_ble_eq_true rfl) hF (Nat.le_of_ble_eq_true rfl) (Nat.le_of_ble_eq_true rfl)
  · replace hF := zif_f hF c8
    refine j_iload C dX2_move_24 6 rfl ?_
    refine j_aload C dX2_move_26 1 rfl ?_
    refine s_getR C in_X2_move_wsX10 k4 3 (by decide) (by decide +kernel) rfl dX2_move_28 ?_
    refine j_iload C dX2_move_31 0 rfl ?_
    refine j_isub C dX2_move_33 ?_
    refine j_icmp_le (tgt := 47) C dX2_move_34 (by decide) (fun c9 => ?_) (fun c9 => ?_)
    · replace hF := zif_t hF c9
      refine j_iload C dX2_move_47 6 rfl ?_
      refine j_bipush (v := (16 : Int32)) C dX2_move_49 (by decide) ?_
      refine j_idiv C dX2_move_51 (by decide) ?_
      refine j_istore (lv' := [(7, .int (i4 / (16 : Int32))), (6, .int (i3 - i2)), (5, .ref (ad v2)), (0, .ref (ad 0)), (1, .int i1), (2, .int i2), (3, .int i3), (4, .int i4)]) C dX2_move_52 (by decide) rfl ?_
      refine j_iload C dX2_move_54 7 rfl ?_
      refine j_iload C dX2_move_56 1 rfl ?_
      refine j_iadd C dX2_move_58 ?_
      refine j_callSi C hne sT_S hT (As := [.int (i4 + (i3 - i2))]) (rest := []) (kX2_leavesFor hl n (i4 + (i3 - i2)) u5 (zb_n hF hn)) (va_cwS 1 C.1.2.2.2.2 gX2_move_X2_leavesFor rfl rfl rfl (by decide +kernel) ⟨(Nat.le_of_ble_eq_true rfl), (Nat.le_of_ble_eq_true rfl)⟩) rfl rfl (Nat.le_of_ble_eq_true rfl) dX2_move_59 ⟨(Nat.le_of_ble_eq_true rfl), (Nat.le_of_ble_eq_true rfl)⟩ (fun _ _ h9 => zb_x hF h9) (Nat.le_of_ble_eq_true rfl) (Nat.le_of_ble_eq_true rfl) (fun v11 u10 h12 => ?_)
      replace hF := zb_l hF h12
      refine j_istore (lv' := [(8, .int v11), (7, .int (i4 / (16 : Int32))), (6, .int (i3 - i2)), (5, .ref (ad v2)), (0, .ref (ad 0)), (1, .int i1), (2, .int i2), (3, .int i3), (4, .int i4)]) C dX2_move_62 (by decide) rfl ?_
      refine j_aload_n C dX2_move_64 rfl 4 rfl ?_
      refine j_aload C dX2_move_65 3 rfl ?_
      refine j_iload C dX2_move_67 1 rfl ?_
      refine j_iload C dX2_move_69 0 rfl ?_
      refine j_callVv C hne sT_S hT (q0 := 0) (As := [.ref (ad v2), .int (i4 / (16 : Int32)), .int v11]) (rest := []) (kX2_readLeaves hl n v2 k4 (i4 / (16 : Int32)) v11 u10 (zb_n hF hn)) (cwV 3 C.1.2.2.2.2 gX2_move_X2_readLeaves rfl rfl rfl (by decide +kernel) ⟨(Nat.le_of_ble_eq_true rfl), (Nat.le_of_ble_eq_true rfl)⟩) (by decide) sce_0 rfl rfl rfl (Nat.le_of_ble_eq_true rfl) dX2_move_71 ⟨(Nat.le_of_ble_eq_true rfl), (Nat.le_of_ble_eq_true rfl)⟩ (fun _ _ h9 => zb_x hF h9) (Nat.le_of_ble_eq_true rfl) (Nat.le_of_ble_eq_true rfl) (fun v14 u13 h15 => ?_)
      replace hF := zb_l hF h15
      refine j_aload_n C dX2_move_74 rfl 4 rfl ?_
      refine j_aload C dX2_move_75 3 rfl ?_
      refine j_iload_n C dX2_move_77 rfl 6 rfl ?_
      refine j_iload_n C dX2_move_78 rfl 7 rfl ?_
      refine j_aload_n C dX2_move_79 rfl 4 rfl ?_
      refine s_get0 C in_X2_move_wsX20 2 (by decide) (by decide +kernel) 6 rfl dX2_move_80 ?_
      refine j_iload C dX2_move_83 8 rfl ?_
      refine j_callVv C hne sT_S hT (q0 := 0) (As := [.ref (ad v2), .int i2, .int i3, .ref (ad 6), .int i4]) (rest := []) (kX2_readValues hl n v2 k4 i2 i3 6 (by decide) i4 u13 (zb_n hF hn)) (cwV 5 C.1.2.2.2.2 gX2_move_X2_readValues rfl rfl rfl (by decide +kernel) ⟨(Nat.le_of_ble_eq_true rfl), (Nat.le_of_ble_eq_true rfl)⟩) (by decide) sce_0 rfl rfl rfl (Nat.le_of_ble_eq_true rfl) dX2_move_85 ⟨(Nat.le_of_ble_eq_true rfl), (Nat.le_of_ble_eq_true rfl)⟩ (fun _ _ h9 => zb_x hF h9) (Nat.le_of_ble_eq_true rfl) (Nat.le_of_ble_eq_true rfl) (fun v17 u16 h18 => ?_)
      replace hF := zb_l hF h18
      refine j_aload_n C dX2_move_88 rfl 4 rfl ?_
      refine j_aload C dX2_move_89 3 rfl ?_
      refine j_iload C dX2_move_91 1 rfl ?_
      refine j_iload C dX2_move_93 0 rfl ?_
      refine j_callVv C hne sT_S hT (q0 := 0) (As := [.ref (ad v2), .int (i4 / (16 : Int32)), .int v11]) (rest := []) (kX2_changeLeaves hl n v2 k4 (i4 / (16 : Int32)) v11 u16 (zb_n hF hn)) (cwV 3 C.1.2.2.2.2 gX2_move_X2_changeLeaves rfl rfl rfl (by decide +kernel) ⟨(Nat.le_of_ble_eq_true rfl), (Nat.le_of_ble_eq_true rfl)⟩) (by decide) sce_0 rfl rfl rfl (Nat.le_of_ble_eq_true rfl) dX2_move_95 ⟨(Nat.le_of_ble_eq_true rfl), (Nat.le_of_ble_eq_true rfl)⟩ (fun _ _ h9 => zb_x hF h9) (Nat.le_of_ble_eq_true rfl) (Nat.le_of_ble_eq_true rfl) (fun v20 u19 h21 => ?_)
      replace hF := zb_l hF h21
      exact j_vret C hr hF (Nat.le_of_ble_eq_true rfl) (Nat.le_of_ble_eq_true rfl) dX2_move_98
    · replace hF := zif_f hF c9
      exact s_throwA (text := "the values would lie outside the array") C hne hl hT (by decide +kernel) (by decide +kernel) hatA_X2_move (by decide) dX2_move_37 dX2_move_40 dX2_move_41 dX2_move_43 dX2_move_46 (Nat.le_of_ble_eq_true rfl) (Nat.le_of_ble_eq_true rfl) (Nat.le_of_ble_eq_true rfl) (Nat.le_of_ble_eq_true rfl) hF (Nat.le_of_ble_eq_true rfl) (Nat.le_of_ble_eq_true rfl)
end
/-! X2_sort -/
def rmX2_sort : Room := { frames := 15, cells := 2, slots := 12, locals := 320 }
theorem in_X2_sort_wsX10 : ∀ w ∈ wsX10, w ∈ wsX2_sort := by decide +kernel
theorem in_X2_sort_wsX20 : ∀ w ∈ wsX20, w ∈ wsX2_sort := by decide +kernel
section
variable {p : Program} {l : Launch} {e : Env} {s : State} {m : MethodId} {args : Array Value} {below : List Frame} {meth : Method} {c : Code} {D : va_G} {cI cR : ClassId} {ad : Nat → Nat}
def fX2_sort (n : Nat) (i1 : Int32) (st : zS) : zF Unit := (zb (fX2_arrayThere n i1 st) (fun (v2 : Nat) (u1 : zS) => (zb (fX2_readValues n v2 (0 : Int32) (u1 v2 3) 6 (0 : Int32) u1) (fun (v6 : Unit) (u5 : zS) => (zb (fX2_sortNext n (u5 v2 3) u5) (fun (v9 : Unit) (u8 : zS) => (zb (fX1_leafCount n v2 u8) (fun (v12 : Int32) (u11 : zS) => (zb (fX2_changeLeaves n v2 (0 : Int32) v12 u11) (fun (v15 : Unit) (u14 : zS) => some (.inl (), u14)))))))))))
set_option maxHeartbeats 4000000 in
set_option maxRecDepth 100000 in
theorem kX2_sort (hl : l.stackTraces = false) (n : Nat) (i1 : Int32) (st : zS) (hn : fX2_sort n i1 st ≠ none) : zM (fun _ : Unit => none) l yX2_sort wsX2_sort rmX2_sort D zcl (zty cI cR) 57 ad (sce cI cR ad) (sT ad) 2 12 [.ref (ad 0), .int i1] st (fX2_sort n i1 st) := by
  refine z_ofJ (cc := cX2_sort) (maxL := 3) (ret := none) (lv := [(0, .ref (ad 0)), (1, .int i1)]) (by decide) rfl (Nat.le_of_ble_eq_true rfl) rfl ?_
  intro p e s m args below meth c C hne hT hr
  obtain ⟨F, hFe⟩ : ∃ F, F = fX2_sort n i1 st := ⟨_, rfl⟩
  rw [← hFe] at hn ⊢
  have hF : fX2_sort n i1 st = F := hFe.symm
  clear hFe
  unfold fX2_sort at hF
  have C : zC p s m args meth c cX2_sort RX2 wsX2_sort D zcl (zty cI cR) 57 ad 3 := C
  refine j_aload_n C dX2_sort_0 rfl 0 rfl ?_
  refine j_iload_n C dX2_sort_1 rfl 1 rfl ?_
  refine j_callVr C hne sT_S hT (q0 := 0) (As := [.int i1]) (rest := []) (kX2_arrayThere hl n i1 st (zb_n hF hn)) (cwV 1 C.1.2.2.2.2 gX2_sort_X2_arrayThere rfl rfl rfl (by decide +kernel) ⟨(Nat.le_of_ble_eq_true rfl), (Nat.le_of_ble_eq_true rfl)⟩) (by decide) sce_0 rfl rfl rfl (Nat.le_of_ble_eq_true rfl) dX2_sort_2 ⟨(Nat.le_of_ble_eq_true rfl), (Nat.le_of_ble_eq_true rfl)⟩ (fun _ _ h9 => zb_x hF h9) (Nat.le_of_ble_eq_true rfl) (Nat.le_of_ble_eq_true rfl) (fun v2 u1 h3 => ?_)
  replace hF := zb_l hF h3
  have k4 := fX2_arrayThere_row h3
  refine j_astore_n (lv' := [(2, .ref (ad v2)), (0, .ref (ad 0)), (1, .int i1)]) C dX2_sort_5 rfl (by decide) rfl ?_
  refine j_aload_n C dX2_sort_6 rfl 1 rfl ?_
  refine j_aload_n C dX2_sort_7 rfl 0 rfl ?_
  refine j_iconst (v := (0 : Int32)) C dX2_sort_8 (by decide) ?_
  refine j_aload_n C dX2_sort_9 rfl 0 rfl ?_
  refine s_getR C in_X2_sort_wsX10 k4 3 (by decide) (by decide +kernel) rfl dX2_sort_10 ?_
  refine j_aload_n C dX2_sort_13 rfl 1 rfl ?_
  refine s_get0 C in_X2_sort_wsX20 2 (by decide) (by decide +kernel) 6 rfl dX2_sort_14 ?_
  refine j_iconst (v := (0 : Int32)) C dX2_sort_17 (by decide) ?_
  refine j_callVv C hne sT_S hT (q0 := 0) (As := [.ref (ad v2), .int (0 : Int32), .int (u1 v2 3), .ref (ad 6), .int (0 : Int32)]) (rest := []) (kX2_readValues hl n v2 k4 (0 : Int32) (u1 v2 3) 6 (by decide) (0 : Int32) u1 (zb_n hF hn)) (cwV 5 C.1.2.2.2.2 gX2_sort_X2_readValues rfl rfl rfl (by decide +kernel) ⟨(Nat.le_of_ble_eq_true rfl), (Nat.le_of_ble_eq_true rfl)⟩) (by decide) sce_0 rfl rfl rfl (Nat.le_of_ble_eq_true rfl) dX2_sort_18 ⟨(Nat.le_of_ble_eq_true rfl), (Nat.le_of_ble_eq_true rfl)⟩ (fun _ _ h9 => zb_x hF h9) (Nat.le_of_ble_eq_true rfl) (Nat.le_of_ble_eq_true rfl) (fun v6 u5 h7 => ?_)
  replace hF := zb_l hF h7
  refine j_aload_n C dX2_sort_21 rfl 1 rfl ?_
  refine j_aload_n C dX2_sort_22 rfl 0 rfl ?_
  refine s_getR C in_X2_sort_wsX10 k4 3 (by decide) (by decide +kernel) rfl dX2_sort_23 ?_
  refine j_callVv C hne sT_S hT (q0 := 0) (As := [.int (u5 v2 3)]) (rest := []) (kX2_sortNext hl n (u5 v2 3) u5 (zb_n hF hn)) (cwV 1 C.1.2.2.2.2 gX2_sort_X2_sortNext rfl rfl rfl (by decide +kernel) ⟨(Nat.le_of_ble_eq_true rfl), (Nat.le_of_ble_eq_true rfl)⟩) (by decide) sce_0 rfl rfl rfl (Nat.le_of_ble_eq_true rfl) dX2_sort_26 ⟨(Nat.le_of_ble_eq_true rfl), (Nat.le_of_ble_eq_true rfl)⟩ (fun _ _ h9 => zb_x hF h9) (Nat.le_of_ble_eq_true rfl) (Nat.le_of_ble_eq_true rfl) (fun v9 u8 h10 => ?_)
  replace hF := zb_l hF h10
  refine j_aload_n C dX2_sort_29 rfl 1 rfl ?_
  refine j_aload_n C dX2_sort_30 rfl 0 rfl ?_
  refine j_iconst (v := (0 : Int32)) C dX2_sort_31 (by decide) ?_
  refine j_aload_n C dX2_sort_32 rfl 0 rfl ?_
  refine j_callVi C hne sT_S hT (q0 := v2) (As := []) (rest := [.int (0 : Int32), .ref (ad v2), .ref (ad 0)]) (kX1_leafCount hl n v2 k4 u8 (zb_n hF hn)) (cwV 0 C.1.2.2.2.2 gX2_sort_X1_leafCount rfl rfl rfl (by decide +kernel) ⟨(Nat.le_of_ble_eq_true rfl), (Nat.le_of_ble_eq_true rfl)⟩) (isRow.lt k4) (sce_row k4) rfl rfl rfl (Nat.le_of_ble_eq_true rfl) dX2_sort_33 ⟨(Nat.le_of_ble_eq_true rfl), (Nat.le_of_ble_eq_true rfl)⟩ (fun _ _ h9 => zb_x hF h9) (Nat.le_of_ble_eq_true rfl) (Nat.le_of_ble_eq_true rfl) (fun v12 u11 h13 => ?_)
  replace hF := zb_l hF h13
  refine j_callVv C hne sT_S hT (q0 := 0) (As := [.ref (ad v2), .int (0 : Int32), .int v12]) (rest := []) (kX2_changeLeaves hl n v2 k4 (0 : Int32) v12 u11 (zb_n hF hn)) (cwV 3 C.1.2.2.2.2 gX2_sort_X2_changeLeaves rfl rfl rfl (by decide +kernel) ⟨(Nat.le_of_ble_eq_true rfl), (Nat.le_of_ble_eq_true rfl)⟩) (by decide) sce_0 rfl rfl rfl (Nat.le_of_ble_eq_true rfl) dX2_sort_36 ⟨(Nat.le_of_ble_eq_true rfl), (Nat.le_of_ble_eq_true rfl)⟩ (fun _ _ h9 => zb_x hF h9) (Nat.le_of_ble_eq_true rfl) (Nat.le_of_ble_eq_true rfl) (fun v15 u14 h16 => ?_)
  replace hF := zb_l hF h16
  exact j_vret C hr hF (Nat.le_of_ble_eq_true rfl) (Nat.le_of_ble_eq_true rfl) dX2_sort_39
end
/-! X2_reverse -/
def rmX2_reverse : Room := { frames := 15, cells := 2, slots := 12, locals := 320 }
theorem in_X2_reverse_wsX10 : ∀ w ∈ wsX10, w ∈ wsX2_reverse := by decide +kernel
theorem in_X2_reverse_wsX20 : ∀ w ∈ wsX20, w ∈ wsX2_reverse := by decide +kernel
section
variable {p : Program} {l : Launch} {e : Env} {s : State} {m : MethodId} {args : Array Value} {below : List Frame} {meth : Method} {c : Code} {D : va_G} {cI cR : ClassId} {ad : Nat → Nat}
def fX2_reverse_23 (n : Nat) (X_56 : Nat → zS → zF Unit) : Nat → Nat → Int32 → zS → zF Unit
  | 0, _, _, _ => none
  | k + 1, r2, i3, st => (if (st r2 3) ≤ i3 then X_56 r2 st else (if inb (((st r2 3) - (1 : Int32)) - i3) (al 7) then (if inb i3 (al 6) then (zl (upA st 6 (upd (st 6) (i3).toNatClampNeg (st 7 ((((st r2 3) - (1 : Int32)) - i3)).toNatClampNeg))) (fun (s11 : zS) => fX2_reverse_23 n X_56 k r2 (i3 + (1 : Int32)) s11)) else none) else none))
set_option maxHeartbeats 4000000 in
set_option maxRecDepth 100000 in
theorem wX2_reverse_23 (C : zC p s m args meth c cX2_reverse RX2 wsX2_reverse D zcl (zty cI cR) 57 ad 4) (hne : ∀ x ∈ c.exceptionTable.toList, False) (hl : l.stackTraces = false) (hT : (sT ad) s.heap.size s) (hr : meth.sig.returnType = none) {F : zF Unit} (hn : F ≠ none) (n : Nat) {X_56 : Nat → zS → zF Unit} (hX_56 : ∀ (r2 : Nat) (hr2 : isRow r2) (st : zS), X_56 r2 st = F → sJ (fun _ : Unit => none) F 2 12 p l e rmX2_reverse s m args below meth c D cI cR ad 4 st 1 6 56 [(0, .ref (ad 0)), (2, .ref (ad r2))] []) : ∀ (k : Nat) (r2 : Nat) (hr2 : isRow r2) (i3 : Int32) (st : zS), fX2_reverse_23 n X_56 k r2 i3 st = F → sJ (fun _ : Unit => none) F 2 12 p l e rmX2_reverse s m args below meth c D cI cR ad 4 st 1 6 23 [(0, .ref (ad 0)), (2, .ref (ad r2)), (3, .int i3)] [] := by
  intro k
  induction k with
  | zero =>
    intro r2 hr2 i3 st hF
    exact absurd hF.symm hn
  | succ k ih =>
    intro r2 hr2 i3 st hF
    rw [fX2_reverse_23] at hF
    refine j_iload_n C dX2_reverse_23 rfl 2 rfl ?_
    refine j_aload_n C dX2_reverse_24 rfl 1 rfl ?_
    refine s_getR C in_X2_reverse_wsX10 hr2 3 (by decide) (by decide +kernel) rfl dX2_reverse_25 ?_
    refine j_icmp_ge (tgt := 56) C dX2_reverse_28 (by decide) (fun c8 => ?_) (fun c8 => ?_)
    · replace hF := zif_t hF c8
      refine j_sub [0, 1] rfl ?_
      exact hX_56 r2 hr2 st hF
    · replace hF := zif_f hF c8
      refine j_aload_n C dX2_reverse_31 rfl 0 rfl ?_
      refine s_get0 C in_X2_reverse_wsX20 2 (by decide) (by decide +kernel) 6 rfl dX2_reverse_32 ?_
      refine j_iload_n C dX2_reverse_35 rfl 2 rfl ?_
      refine j_aload_n C dX2_reverse_36 rfl 0 rfl ?_
      refine s_get0 C in_X2_reverse_wsX20 3 (by decide) (by decide +kernel) 7 rfl dX2_reverse_37 ?_
      refine j_aload_n C dX2_reverse_40 rfl 1 rfl ?_
      refine s_getR C in_X2_reverse_wsX10 hr2 3 (by decide) (by decide +kernel) rfl dX2_reverse_41 ?_
      refine j_iconst (v := (1 : Int32)) C dX2_reverse_44 (by decide) ?_
      refine j_isub C dX2_reverse_45 ?_
      refine j_iload_n C dX2_reverse_46 rfl 2 rfl ?_
      refine j_isub C dX2_reverse_47 ?_
      have b9 := zif_c hF hn
      replace hF := zif_t hF b9
      refine s_iald C (by decide) b9 dX2_reverse_48 ?_
      have b10 := zif_c hF hn
      replace hF := zif_t hF b10
      refine s_iast C (by decide) b10 dX2_reverse_49 ?_
      obtain ⟨s11, es11, hF⟩ := zl_e hF
      rw [← es11]
      refine j_iinc (lv' := [(3, .int (i3 + (1 : Int32))), (0, .ref (ad 0)), (2, .ref (ad r2))]) C dX2_reverse_50 2 rfl rfl (by decide) rfl ?_
      refine j_goto (tgt := 23) C dX2_reverse_53 (by decide) ?_
      refine j_sub [1, 2, 0] rfl ?_
      exact ih r2 hr2 (i3 + (1 : Int32)) s11 hF
def fX2_reverse (n : Nat) (i1 : Int32) (st : zS) : zF Unit := (zb (fX2_arrayThere n i1 st) (fun (v2 : Nat) (u1 : zS) => (zb (fX2_readValues n v2 (0 : Int32) (u1 v2 3) 7 (0 : Int32) u1) (fun (v6 : Unit) (u5 : zS) => fX2_reverse_23 n (fun (r2 : Nat) (st : zS) => (zb (fX1_leafCount n r2 st) (fun (v13 : Int32) (u12 : zS) => (zb (fX2_changeLeaves n r2 (0 : Int32) v13 u12) (fun (v16 : Unit) (u15 : zS) => some (.inl (), u15)))))) n v2 (0 : Int32) u5))))
set_option maxHeartbeats 4000000 in
set_option maxRecDepth 100000 in
theorem kX2_reverse (hl : l.stackTraces = false) (n : Nat) (i1 : Int32) (st : zS) (hn : fX2_reverse n i1 st ≠ none) : zM (fun _ : Unit => none) l yX2_reverse wsX2_reverse rmX2_reverse D zcl (zty cI cR) 57 ad (sce cI cR ad) (sT ad) 2 12 [.ref (ad 0), .int i1] st (fX2_reverse n i1 st) := by
  refine z_ofJ (cc := cX2_reverse) (maxL := 4) (ret := none) (lv := [(0, .ref (ad 0)), (1, .int i1)]) (by decide) rfl (Nat.le_of_ble_eq_true rfl) rfl ?_
  intro p e s m args below meth c C hne hT hr
  obtain ⟨F, hFe⟩ : ∃ F, F = fX2_reverse n i1 st := ⟨_, rfl⟩
  rw [← hFe] at hn ⊢
  have hF : fX2_reverse n i1 st = F := hFe.symm
  clear hFe
  unfold fX2_reverse at hF
  have C : zC p s m args meth c cX2_reverse RX2 wsX2_reverse D zcl (zty cI cR) 57 ad 4 := C
  refine j_aload_n C dX2_reverse_0 rfl 0 rfl ?_
  refine j_iload_n C dX2_reverse_1 rfl 1 rfl ?_
  refine j_callVr C hne sT_S hT (q0 := 0) (As := [.int i1]) (rest := []) (kX2_arrayThere hl n i1 st (zb_n hF hn)) (cwV 1 C.1.2.2.2.2 gX2_reverse_X2_arrayThere rfl rfl rfl (by decide +kernel) ⟨(Nat.le_of_ble_eq_true rfl), (Nat.le_of_ble_eq_true rfl)⟩) (by decide) sce_0 rfl rfl rfl (Nat.le_of_ble_eq_true rfl) dX2_reverse_2 ⟨(Nat.le_of_ble_eq_true rfl), (Nat.le_of_ble_eq_true rfl)⟩ (fun _ _ h9 => zb_x hF h9) (Nat.le_of_ble_eq_true rfl) (Nat.le_of_ble_eq_true rfl) (fun v2 u1 h3 => ?_)
  replace hF := zb_l hF h3
  have k4 := fX2_arrayThere_row h3
  refine j_astore_n (lv' := [(2, .ref (ad v2)), (0, .ref (ad 0)), (1, .int i1)]) C dX2_reverse_5 rfl (by decide) rfl ?_
  refine j_aload_n C dX2_reverse_6 rfl 1 rfl ?_
  refine j_aload_n C dX2_reverse_7 rfl 0 rfl ?_
  refine j_iconst (v := (0 : Int32)) C dX2_reverse_8 (by decide) ?_
  refine j_aload_n C dX2_reverse_9 rfl 0 rfl ?_
  refine s_getR C in_X2_reverse_wsX10 k4 3 (by decide) (by decide +kernel) rfl dX2_reverse_10 ?_
  refine j_aload_n C dX2_reverse_13 rfl 1 rfl ?_
  refine s_get0 C in_X2_reverse_wsX20 3 (by decide) (by decide +kernel) 7 rfl dX2_reverse_14 ?_
  refine j_iconst (v := (0 : Int32)) C dX2_reverse_17 (by decide) ?_
  refine j_callVv C hne sT_S hT (q0 := 0) (As := [.ref (ad v2), .int (0 : Int32), .int (u1 v2 3), .ref (ad 7), .int (0 : Int32)]) (rest := []) (kX2_readValues hl n v2 k4 (0 : Int32) (u1 v2 3) 7 (by decide) (0 : Int32) u1 (zb_n hF hn)) (cwV 5 C.1.2.2.2.2 gX2_reverse_X2_readValues rfl rfl rfl (by decide +kernel) ⟨(Nat.le_of_ble_eq_true rfl), (Nat.le_of_ble_eq_true rfl)⟩) (by decide) sce_0 rfl rfl rfl (Nat.le_of_ble_eq_true rfl) dX2_reverse_18 ⟨(Nat.le_of_ble_eq_true rfl), (Nat.le_of_ble_eq_true rfl)⟩ (fun _ _ h9 => zb_x hF h9) (Nat.le_of_ble_eq_true rfl) (Nat.le_of_ble_eq_true rfl) (fun v6 u5 h7 => ?_)
  replace hF := zb_l hF h7
  refine j_iconst (v := (0 : Int32)) C dX2_reverse_21 (by decide) ?_
  refine j_istore_n (lv' := [(3, .int (0 : Int32)), (2, .ref (ad v2)), (0, .ref (ad 0)), (1, .int i1)]) C dX2_reverse_22 rfl (by decide) rfl ?_
  refine j_sub [2, 1, 0] rfl ?_
  refine wX2_reverse_23 C hne hl hT hr hn n ?_ n v2 k4 (0 : Int32) u5 hF
  · intro r2 hr2 st hF
    refine j_aload_n C dX2_reverse_56 rfl 0 rfl ?_
    refine j_aload_n C dX2_reverse_57 rfl 1 rfl ?_
    refine j_iconst (v := (0 : Int32)) C dX2_reverse_58 (by decide) ?_
    refine j_aload_n C dX2_reverse_59 rfl 1 rfl ?_
    refine j_callVi C hne sT_S hT (q0 := r2) (As := []) (rest := [.int (0 : Int32), .ref (ad r2), .ref (ad 0)]) (kX1_leafCount hl n r2 hr2 st (zb_n hF hn)) (cwV 0 C.1.2.2.2.2 gX2_reverse_X1_leafCount rfl rfl rfl (by decide +kernel) ⟨(Nat.le_of_ble_eq_true rfl), (Nat.le_of_ble_eq_true rfl)⟩) (isRow.lt hr2) (sce_row hr2) rfl rfl rfl (Nat.le_of_ble_eq_true rfl) dX2_reverse_60 ⟨(Nat.le_of_ble_eq_true rfl), (Nat.le_of_ble_eq_true rfl)⟩ (fun _ _ h9 => zb_x hF h9) (Nat.le_of_ble_eq_true rfl) (Nat.le_of_ble_eq_true rfl) (fun v13 u12 h14 => ?_)
    replace hF := zb_l hF h14
    refine j_callVv C hne sT_S hT (q0 := 0) (As := [.ref (ad r2), .int (0 : Int32), .int v13]) (rest := []) (kX2_changeLeaves hl n r2 hr2 (0 : Int32) v13 u12 (zb_n hF hn)) (cwV 3 C.1.2.2.2.2 gX2_reverse_X2_changeLeaves rfl rfl rfl (by decide +kernel) ⟨(Nat.le_of_ble_eq_true rfl), (Nat.le_of_ble_eq_true rfl)⟩) (by decide) sce_0 rfl rfl rfl (Nat.le_of_ble_eq_true rfl) dX2_reverse_63 ⟨(Nat.le_of_ble_eq_true rfl), (Nat.le_of_ble_eq_true rfl)⟩ (fun _ _ h9 => zb_x hF h9) (Nat.le_of_ble_eq_true rfl) (Nat.le_of_ble_eq_true rfl) (fun v16 u15 h17 => ?_)
    replace hF := zb_l hF h17
    exact j_vret C hr hF (Nat.le_of_ble_eq_true rfl) (Nat.le_of_ble_eq_true rfl) dX2_reverse_66
end
