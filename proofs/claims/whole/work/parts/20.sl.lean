/-! X2_find -/
def rmX2_find : Room := { frames := 13, cells := 2, slots := 12, locals := 240 }
theorem in_X2_find_wsX10 : ∀ w ∈ wsX10, w ∈ wsX2_find := by decide +kernel
theorem in_X2_find_wsX20 : ∀ w ∈ wsX20, w ∈ wsX2_find := by decide +kernel
section
variable {p : Program} {l : Launch} {e : Env} {s : State} {m : MethodId} {args : Array Value} {below : List Frame} {meth : Method} {c : Code} {D : va_G} {cI cR : ClassId} {ad : Nat → Nat}
def fX2_find_38 (n : Nat) (X_68 : zS → zF Int32) (X_59 : Int32 → zS → zF Int32) : Nat → Int32 → Nat → Int32 → zS → zF Int32
  | 0, _, _, _, _ => none
  | k + 1, i3, r4, i5, st => (if (st r4 3) ≤ i5 then X_68 st else (if inb i5 (al 6) then (if (st 6 (i5).toNatClampNeg) = i3 then X_59 i5 st else fX2_find_38 n X_68 X_59 k i3 r4 (i5 + (1 : Int32)) st) else none))
set_option maxHeartbeats 4000000 in
set_option maxRecDepth 100000 in
theorem wX2_find_38 (C : zC p s m args meth c cX2_find RX2 wsX2_find D zcl (zty cI cR) 57 ad 6) (hne : ∀ x ∈ c.exceptionTable.toList, False) (hl : l.stackTraces = false) (hT : (sT ad) s.heap.size s) (hr : meth.sig.returnType = (some .int)) {F : zF Int32} (hn : F ≠ none) (n : Nat) {X_68 : zS → zF Int32} {X_59 : Int32 → zS → zF Int32} (hX_68 : ∀  (st : zS), X_68 st = F → sJ (fun v : Int32 => some (.int v)) F 2 12 p l e rmX2_find s m args below meth c D cI cR ad 6 st 2 12 68 [] []) (hX_59 : ∀ (i5 : Int32) (st : zS), X_59 i5 st = F → sJ (fun v : Int32 => some (.int v)) F 2 12 p l e rmX2_find s m args below meth c D cI cR ad 6 st 2 12 59 [(5, .int i5)] []) : ∀ (k : Nat) (i3 : Int32) (r4 : Nat) (hr4 : isRow r4) (i5 : Int32) (st : zS), fX2_find_38 n X_68 X_59 k i3 r4 i5 st = F → sJ (fun v : Int32 => some (.int v)) F 2 12 p l e rmX2_find s m args below meth c D cI cR ad 6 st 2 12 38 [(0, .ref (ad 0)), (3, .int i3), (4, .ref (ad r4)), (5, .int i5)] [] := by
  intro k
  induction k with
  | zero =>
    intro i3 r4 hr4 i5 st hF
    exact absurd hF.symm hn
  | succ k ih =>
    intro i3 r4 hr4 i5 st hF
    rw [fX2_find_38] at hF
    refine j_iload C dX2_find_38 3 rfl ?_
    refine j_aload C dX2_find_40 2 rfl ?_
    refine s_getR C in_X2_find_wsX10 hr4 3 (by decide) (by decide +kernel) rfl dX2_find_42 ?_
    refine j_icmp_ge (tgt := 68) C dX2_find_45 (by decide) (fun c11 => ?_) (fun c11 => ?_)
    · replace hF := zif_t hF c11
      refine j_sub [] rfl ?_
      exact hX_68 st hF
    · replace hF := zif_f hF c11
      refine j_aload_n C dX2_find_48 rfl 0 rfl ?_
      refine s_get0 C in_X2_find_wsX20 2 (by decide) (by decide +kernel) 6 rfl dX2_find_49 ?_
      refine j_iload C dX2_find_52 3 rfl ?_
      have b12 := zif_c hF hn
      replace hF := zif_t hF b12
      refine s_iald C (by decide) b12 dX2_find_54 ?_
      refine j_iload_n C dX2_find_55 rfl 1 rfl ?_
      refine j_icmp_ne (tgt := 62) C dX2_find_56 (by decide) (fun c13 => ?_) (fun c13 => ?_)
      · replace hF := zif_f hF c13
        refine j_iinc (lv' := [(5, .int (i5 + (1 : Int32))), (0, .ref (ad 0)), (3, .int i3), (4, .ref (ad r4))]) C dX2_find_62 3 rfl rfl (by decide) rfl ?_
        refine j_goto (tgt := 38) C dX2_find_65 (by decide) ?_
        refine j_sub [1, 2, 3, 0] rfl ?_
        exact ih i3 r4 hr4 (i5 + (1 : Int32)) st hF
      · replace hF := zif_t hF c13
        refine j_sub [3] rfl ?_
        exact hX_59 i5 st hF
def fX2_find (n : Nat) (i1 : Int32) (i2 : Int32) (i3 : Int32) (st : zS) : zF Int32 := (zb (fX2_arrayThere n i1 st) (fun (v2 : Nat) (u1 : zS) => (zb (fX2_checkRange n v2 i2 (u1 v2 3) u1) (fun (v6 : Unit) (u5 : zS) => (zb (fX2_readValues n v2 i2 (u5 v2 3) 6 i2 u5) (fun (v9 : Unit) (u8 : zS) => fX2_find_38 n (fun  (st : zS) => some (.inl ((-1) : Int32), st)) (fun (i5 : Int32) (st : zS) => some (.inl i5, st)) n i3 v2 i2 u8))))))
set_option maxHeartbeats 4000000 in
set_option maxRecDepth 100000 in
theorem kX2_find (hl : l.stackTraces = false) (n : Nat) (i1 : Int32) (i2 : Int32) (i3 : Int32) (st : zS) (hn : fX2_find n i1 i2 i3 st ≠ none) : zM (fun v : Int32 => some (.int v)) l yX2_find wsX2_find rmX2_find D zcl (zty cI cR) 57 ad (sce cI cR ad) (sT ad) 2 12 [.ref (ad 0), .int i1, .int i2, .int i3] st (fX2_find n i1 i2 i3 st) := by
  refine z_ofJ (cc := cX2_find) (maxL := 6) (ret := (some .int)) (lv := [(0, .ref (ad 0)), (1, .int i1), (2, .int i2), (3, .int i3)]) (by decide) rfl (Nat.le_of_ble_eq_true rfl) rfl ?_
  intro p e s m args below meth c C hne hT hr
  obtain ⟨F, hFe⟩ : ∃ F, F = fX2_find n i1 i2 i3 st := ⟨_, rfl⟩
  rw [← hFe] at hn ⊢
  have hF : fX2_find n i1 i2 i3 st = F := hFe.symm
  clear hFe
  unfold fX2_find at hF
  have C : zC p s m args meth c cX2_find RX2 wsX2_find D zcl (zty cI cR) 57 ad 6 := C
  refine j_aload_n C dX2_find_0 rfl 0 rfl ?_
  refine j_iload_n C dX2_find_1 rfl 1 rfl ?_
  refine j_callVr C hne sT_S hT (q0 := 0) (As := [.int i1]) (rest := []) (kX2_arrayThere hl n i1 st (zb_n hF hn)) (cwV 1 C.1.2.2.2.2 gX2_find_X2_arrayThere rfl rfl rfl (by decide +kernel) ⟨(Nat.le_of_ble_eq_true rfl), (Nat.le_of_ble_eq_true rfl)⟩) (by decide) sce_0 rfl rfl rfl (Nat.le_of_ble_eq_true rfl) dX2_find_2 ⟨(Nat.le_of_ble_eq_true rfl), (Nat.le_of_ble_eq_true rfl)⟩ (fun _ _ h9 => zb_x hF h9) (Nat.le_of_ble_eq_true rfl) (Nat.le_of_ble_eq_true rfl) (fun v2 u1 h3 => ?_)
  replace hF := zb_l hF h3
  have k4 := fX2_arrayThere_row h3
  refine j_astore (lv' := [(4, .ref (ad v2)), (0, .ref (ad 0)), (1, .int i1), (2, .int i2), (3, .int i3)]) C dX2_find_5 (by decide) rfl ?_
  refine j_aload C dX2_find_7 0 rfl ?_
  refine j_iload_n C dX2_find_9 rfl 3 rfl ?_
  refine j_aload C dX2_find_10 0 rfl ?_
  refine s_getR C in_X2_find_wsX10 k4 3 (by decide) (by decide +kernel) rfl dX2_find_12 ?_
  refine j_callSv C hne sT_S hT (As := [.ref (ad v2), .int i2, .int (u1 v2 3)]) (rest := []) (kX2_checkRange hl n v2 k4 i2 (u1 v2 3) u1 (zb_n hF hn)) (va_cwS 3 C.1.2.2.2.2 gX2_find_X2_checkRange rfl rfl rfl (by decide +kernel) ⟨(Nat.le_of_ble_eq_true rfl), (Nat.le_of_ble_eq_true rfl)⟩) rfl rfl (Nat.le_of_ble_eq_true rfl) dX2_find_15 ⟨(Nat.le_of_ble_eq_true rfl), (Nat.le_of_ble_eq_true rfl)⟩ (fun _ _ h9 => zb_x hF h9) (Nat.le_of_ble_eq_true rfl) (Nat.le_of_ble_eq_true rfl) (fun v6 u5 h7 => ?_)
  replace hF := zb_l hF h7
  refine j_aload_n C dX2_find_18 rfl 1 rfl ?_
  refine j_aload C dX2_find_19 0 rfl ?_
  refine j_iload_n C dX2_find_21 rfl 3 rfl ?_
  refine j_aload C dX2_find_22 0 rfl ?_
  refine s_getR C in_X2_find_wsX10 k4 3 (by decide) (by decide +kernel) rfl dX2_find_24 ?_
  refine j_aload_n C dX2_find_27 rfl 1 rfl ?_
  refine s_get0 C in_X2_find_wsX20 2 (by decide) (by decide +kernel) 6 rfl dX2_find_28 ?_
  refine j_iload_n C dX2_find_31 rfl 3 rfl ?_
  refine j_callVv C hne sT_S hT (q0 := 0) (As := [.ref (ad v2), .int i2, .int (u5 v2 3), .ref (ad 6), .int i2]) (rest := []) (kX2_readValues hl n v2 k4 i2 (u5 v2 3) 6 (by decide) i2 u5 (zb_n hF hn)) (cwV 5 C.1.2.2.2.2 gX2_find_X2_readValues rfl rfl rfl (by decide +kernel) ⟨(Nat.le_of_ble_eq_true rfl), (Nat.le_of_ble_eq_true rfl)⟩) (by decide) sce_0 rfl rfl rfl (Nat.le_of_ble_eq_true rfl) dX2_find_32 ⟨(Nat.le_of_ble_eq_true rfl), (Nat.le_of_ble_eq_true rfl)⟩ (fun _ _ h9 => zb_x hF h9) (Nat.le_of_ble_eq_true rfl) (Nat.le_of_ble_eq_true rfl) (fun v9 u8 h10 => ?_)
  replace hF := zb_l hF h10
  refine j_iload_n C dX2_find_35 rfl 3 rfl ?_
  refine j_istore (lv' := [(5, .int i2), (4, .ref (ad v2)), (0, .ref (ad 0)), (1, .int i1), (2, .int i2), (3, .int i3)]) C dX2_find_36 (by decide) rfl ?_
  refine j_sub [2, 5, 1, 0] rfl ?_
  refine wX2_find_38 C hne hl hT hr hn n ?_ ?_ n i3 v2 k4 i2 u8 hF
  · intro  st hF
    refine j_iconst (v := ((-1) : Int32)) C dX2_find_68 (by decide) ?_
    exact j_iret C hr hF (Nat.le_of_ble_eq_true rfl) (Nat.le_of_ble_eq_true rfl) dX2_find_69
  · intro i5 st hF
    refine j_iload C dX2_find_59 0 rfl ?_
    exact j_iret C hr hF (Nat.le_of_ble_eq_true rfl) (Nat.le_of_ble_eq_true rfl) dX2_find_61
end
/-! X2_difference -/
def rmX2_difference : Room := { frames := 13, cells := 2, slots := 12, locals := 240 }
theorem in_X2_difference_wsX10 : ∀ w ∈ wsX10, w ∈ wsX2_difference := by decide +kernel
theorem in_X2_difference_wsX20 : ∀ w ∈ wsX20, w ∈ wsX2_difference := by decide +kernel
section
variable {p : Program} {l : Launch} {e : Env} {s : State} {m : MethodId} {args : Array Value} {below : List Frame} {meth : Method} {c : Code} {D : va_G} {cI cR : ClassId} {ad : Nat → Nat}
def fX2_difference_62 (n : Nat) (X_95 : Nat → Nat → Int32 → zS → zF Int32) (X_86 : Int32 → zS → zF Int32) : Nat → Nat → Nat → Int32 → Int32 → zS → zF Int32
  | 0, _, _, _, _, _ => none
  | k + 1, r3, r4, i5, i6, st => (if i5 ≤ i6 then X_95 r3 r4 i5 st else (if inb i6 (al 6) then (if inb i6 (al 7) then (if (st 6 (i6).toNatClampNeg) = (st 7 (i6).toNatClampNeg) then fX2_difference_62 n X_95 X_86 k r3 r4 i5 (i6 + (1 : Int32)) st else X_86 i6 st) else none) else none))
set_option maxHeartbeats 4000000 in
set_option maxRecDepth 100000 in
theorem wX2_difference_62 (C : zC p s m args meth c cX2_difference RX2 wsX2_difference D zcl (zty cI cR) 57 ad 7) (hne : ∀ x ∈ c.exceptionTable.toList, False) (hl : l.stackTraces = false) (hT : (sT ad) s.heap.size s) (hr : meth.sig.returnType = (some .int)) {F : zF Int32} (hn : F ≠ none) (n : Nat) {X_95 : Nat → Nat → Int32 → zS → zF Int32} {X_86 : Int32 → zS → zF Int32} (hX_95 : ∀ (r3 : Nat) (hr3 : isRow r3) (r4 : Nat) (hr4 : isRow r4) (i5 : Int32) (st : zS), X_95 r3 r4 i5 st = F → sJ (fun v : Int32 => some (.int v)) F 2 12 p l e rmX2_difference s m args below meth c D cI cR ad 7 st 2 12 95 [(3, .ref (ad r3)), (4, .ref (ad r4)), (5, .int i5)] []) (hX_86 : ∀ (i6 : Int32) (st : zS), X_86 i6 st = F → sJ (fun v : Int32 => some (.int v)) F 2 12 p l e rmX2_difference s m args below meth c D cI cR ad 7 st 2 12 86 [(6, .int i6)] []) : ∀ (k : Nat) (r3 : Nat) (hr3 : isRow r3) (r4 : Nat) (hr4 : isRow r4) (i5 : Int32) (i6 : Int32) (st : zS), fX2_difference_62 n X_95 X_86 k r3 r4 i5 i6 st = F → sJ (fun v : Int32 => some (.int v)) F 2 12 p l e rmX2_difference s m args below meth c D cI cR ad 7 st 2 12 62 [(0, .ref (ad 0)), (3, .ref (ad r3)), (4, .ref (ad r4)), (5, .int i5), (6, .int i6)] [] := by
  intro k
  induction k with
  | zero =>
    intro r3 hr3 r4 hr4 i5 i6 st hF
    exact absurd hF.symm hn
  | succ k ih =>
    intro r3 hr3 r4 hr4 i5 i6 st hF
    rw [fX2_difference_62] at hF
    refine j_iload C dX2_difference_62 4 rfl ?_
    refine j_iload C dX2_difference_64 3 rfl ?_
    refine j_icmp_ge (tgt := 95) C dX2_difference_66 (by decide) (fun c15 => ?_) (fun c15 => ?_)
    · replace hF := zif_t hF c15
      refine j_sub [1, 2, 3] rfl ?_
      exact hX_95 r3 hr3 r4 hr4 i5 st hF
    · replace hF := zif_f hF c15
      refine j_aload_n C dX2_difference_69 rfl 0 rfl ?_
      refine s_get0 C in_X2_difference_wsX20 2 (by decide) (by decide +kernel) 6 rfl dX2_difference_70 ?_
      refine j_iload C dX2_difference_73 4 rfl ?_
      have b16 := zif_c hF hn
      replace hF := zif_t hF b16
      refine s_iald C (by decide) b16 dX2_difference_75 ?_
      refine j_aload_n C dX2_difference_76 rfl 0 rfl ?_
      refine s_get0 C in_X2_difference_wsX20 3 (by decide) (by decide +kernel) 7 rfl dX2_difference_77 ?_
      refine j_iload C dX2_difference_80 4 rfl ?_
      have b17 := zif_c hF hn
      replace hF := zif_t hF b17
      refine s_iald C (by decide) b17 dX2_difference_82 ?_
      refine j_icmp_eq (tgt := 89) C dX2_difference_83 (by decide) (fun c18 => ?_) (fun c18 => ?_)
      · replace hF := zif_t hF c18
        refine j_iinc (lv' := [(6, .int (i6 + (1 : Int32))), (0, .ref (ad 0)), (3, .ref (ad r3)), (4, .ref (ad r4)), (5, .int i5)]) C dX2_difference_89 4 rfl rfl (by decide) rfl ?_
        refine j_goto (tgt := 62) C dX2_difference_92 (by decide) ?_
        refine j_sub [1, 2, 3, 4, 0] rfl ?_
        exact ih r3 hr3 r4 hr4 i5 (i6 + (1 : Int32)) st hF
      · replace hF := zif_f hF c18
        refine j_sub [4] rfl ?_
        exact hX_86 i6 st hF
def fX2_difference (n : Nat) (i1 : Int32) (i2 : Int32) (st : zS) : zF Int32 := (zb (fX2_arrayThere n i1 st) (fun (v2 : Nat) (u1 : zS) => (zb (fX2_arrayThere n i2 u1) (fun (v6 : Nat) (u5 : zS) => (zb (fX2_readValues n v2 (0 : Int32) (u5 v2 3) 6 (0 : Int32) u5) (fun (v10 : Unit) (u9 : zS) => (zb (fX2_readValues n v6 (0 : Int32) (u9 v6 3) 7 (0 : Int32) u9) (fun (v13 : Unit) (u12 : zS) => fX2_difference_62 n (fun (r3 : Nat) (r4 : Nat) (i5 : Int32) (st : zS) => (if (st r3 3) = (st r4 3) then some (.inl ((-1) : Int32), st) else some (.inl i5, st))) (fun (i6 : Int32) (st : zS) => some (.inl i6, st)) n v2 v6 (if (u12 v6 3) < (u12 v2 3) then (u12 v6 3) else (u12 v2 3)) (0 : Int32) u12))))))))
set_option maxHeartbeats 4000000 in
set_option maxRecDepth 100000 in
theorem kX2_difference (hl : l.stackTraces = false) (n : Nat) (i1 : Int32) (i2 : Int32) (st : zS) (hn : fX2_difference n i1 i2 st ≠ none) : zM (fun v : Int32 => some (.int v)) l yX2_difference wsX2_difference rmX2_difference D zcl (zty cI cR) 57 ad (sce cI cR ad) (sT ad) 2 12 [.ref (ad 0), .int i1, .int i2] st (fX2_difference n i1 i2 st) := by
  refine z_ofJ (cc := cX2_difference) (maxL := 7) (ret := (some .int)) (lv := [(0, .ref (ad 0)), (1, .int i1), (2, .int i2)]) (by decide) rfl (Nat.le_of_ble_eq_true rfl) rfl ?_
  intro p e s m args below meth c C hne hT hr
  obtain ⟨F, hFe⟩ : ∃ F, F = fX2_difference n i1 i2 st := ⟨_, rfl⟩
  rw [← hFe] at hn ⊢
  have hF : fX2_difference n i1 i2 st = F := hFe.symm
  clear hFe
  unfold fX2_difference at hF
  have C : zC p s m args meth c cX2_difference RX2 wsX2_difference D zcl (zty cI cR) 57 ad 7 := C
  refine j_aload_n C dX2_difference_0 rfl 0 rfl ?_
  refine j_iload_n C dX2_difference_1 rfl 1 rfl ?_
  refine j_callVr C hne sT_S hT (q0 := 0) (As := [.int i1]) (rest := []) (kX2_arrayThere hl n i1 st (zb_n hF hn)) (cwV 1 C.1.2.2.2.2 gX2_difference_X2_arrayThere rfl rfl rfl (by decide +kernel) ⟨(Nat.le_of_ble_eq_true rfl), (Nat.le_of_ble_eq_true rfl)⟩) (by decide) sce_0 rfl rfl rfl (Nat.le_of_ble_eq_true rfl) dX2_difference_2 ⟨(Nat.le_of_ble_eq_true rfl), (Nat.le_of_ble_eq_true rfl)⟩ (fun _ _ h9 => zb_x hF h9) (Nat.le_of_ble_eq_true rfl) (Nat.le_of_ble_eq_true rfl) (fun v2 u1 h3 => ?_)
  replace hF := zb_l hF h3
  have k4 := fX2_arrayThere_row h3
  refine j_astore_n (lv' := [(3, .ref (ad v2)), (0, .ref (ad 0)), (1, .int i1), (2, .int i2)]) C dX2_difference_5 rfl (by decide) rfl ?_
  refine j_aload_n C dX2_difference_6 rfl 1 rfl ?_
  refine j_iload_n C dX2_difference_7 rfl 3 rfl ?_
  refine j_callVr C hne sT_S hT (q0 := 0) (As := [.int i2]) (rest := []) (kX2_arrayThere hl n i2 u1 (zb_n hF hn)) (cwV 1 C.1.2.2.2.2 gX2_difference_X2_arrayThere rfl rfl rfl (by decide +kernel) ⟨(Nat.le_of_ble_eq_true rfl), (Nat.le_of_ble_eq_true rfl)⟩) (by decide) sce_0 rfl rfl rfl (Nat.le_of_ble_eq_true rfl) dX2_difference_8 ⟨(Nat.le_of_ble_eq_true rfl), (Nat.le_of_ble_eq_true rfl)⟩ (fun _ _ h9 => zb_x hF h9) (Nat.le_of_ble_eq_true rfl) (Nat.le_of_ble_eq_true rfl) (fun v6 u5 h7 => ?_)
  replace hF := zb_l hF h7
  have k8 := fX2_arrayThere_row h7
  refine j_astore (lv' := [(4, .ref (ad v6)), (3, .ref (ad v2)), (0, .ref (ad 0)), (1, .int i1), (2, .int i2)]) C dX2_difference_11 (by decide) rfl ?_
  refine j_aload_n C dX2_difference_13 rfl 2 rfl ?_
  refine j_aload_n C dX2_difference_14 rfl 1 rfl ?_
  refine j_iconst (v := (0 : Int32)) C dX2_difference_15 (by decide) ?_
  refine j_aload_n C dX2_difference_16 rfl 1 rfl ?_
  refine s_getR C in_X2_difference_wsX10 k4 3 (by decide) (by decide +kernel) rfl dX2_difference_17 ?_
  refine j_aload_n C dX2_difference_20 rfl 2 rfl ?_
  refine s_get0 C in_X2_difference_wsX20 2 (by decide) (by decide +kernel) 6 rfl dX2_difference_21 ?_
  refine j_iconst (v := (0 : Int32)) C dX2_difference_24 (by decide) ?_
  refine j_callVv C hne sT_S hT (q0 := 0) (As := [.ref (ad v2), .int (0 : Int32), .int (u5 v2 3), .ref (ad 6), .int (0 : Int32)]) (rest := []) (kX2_readValues hl n v2 k4 (0 : Int32) (u5 v2 3) 6 (by decide) (0 : Int32) u5 (zb_n hF hn)) (cwV 5 C.1.2.2.2.2 gX2_difference_X2_readValues rfl rfl rfl (by decide +kernel) ⟨(Nat.le_of_ble_eq_true rfl), (Nat.le_of_ble_eq_true rfl)⟩) (by decide) sce_0 rfl rfl rfl (Nat.le_of_ble_eq_true rfl) dX2_difference_25 ⟨(Nat.le_of_ble_eq_true rfl), (Nat.le_of_ble_eq_true rfl)⟩ (fun _ _ h9 => zb_x hF h9) (Nat.le_of_ble_eq_true rfl) (Nat.le_of_ble_eq_true rfl) (fun v10 u9 h11 => ?_)
  replace hF := zb_l hF h11
  refine j_aload_n C dX2_difference_28 rfl 2 rfl ?_
  refine j_aload C dX2_difference_29 0 rfl ?_
  refine j_iconst (v := (0 : Int32)) C dX2_difference_31 (by decide) ?_
  refine j_aload C dX2_difference_32 0 rfl ?_
  refine s_getR C in_X2_difference_wsX10 k8 3 (by decide) (by decide +kernel) rfl dX2_difference_34 ?_
  refine j_aload_n C dX2_difference_37 rfl 2 rfl ?_
  refine s_get0 C in_X2_difference_wsX20 3 (by decide) (by decide +kernel) 7 rfl dX2_difference_38 ?_
  refine j_iconst (v := (0 : Int32)) C dX2_difference_41 (by decide) ?_
  refine j_callVv C hne sT_S hT (q0 := 0) (As := [.ref (ad v6), .int (0 : Int32), .int (u9 v6 3), .ref (ad 7), .int (0 : Int32)]) (rest := []) (kX2_readValues hl n v6 k8 (0 : Int32) (u9 v6 3) 7 (by decide) (0 : Int32) u9 (zb_n hF hn)) (cwV 5 C.1.2.2.2.2 gX2_difference_X2_readValues rfl rfl rfl (by decide +kernel) ⟨(Nat.le_of_ble_eq_true rfl), (Nat.le_of_ble_eq_true rfl)⟩) (by decide) sce_0 rfl rfl rfl (Nat.le_of_ble_eq_true rfl) dX2_difference_42 ⟨(Nat.le_of_ble_eq_true rfl), (Nat.le_of_ble_eq_true rfl)⟩ (fun _ _ h9 => zb_x hF h9) (Nat.le_of_ble_eq_true rfl) (Nat.le_of_ble_eq_true rfl) (fun v13 u12 h14 => ?_)
  replace hF := zb_l hF h14
  refine j_aload_n C dX2_difference_45 rfl 1 rfl ?_
  refine s_getR C in_X2_difference_wsX10 k4 3 (by decide) (by decide +kernel) rfl dX2_difference_46 ?_
  refine j_aload C dX2_difference_49 0 rfl ?_
  refine s_getR C in_X2_difference_wsX10 k8 3 (by decide) (by decide +kernel) rfl dX2_difference_51 ?_
  refine j_mmin C (by decide +kernel) (by decide +kernel) (by decide +kernel) (by decide +kernel) (Nat.le_of_ble_eq_true rfl) (Nat.le_of_ble_eq_true rfl) (Nat.le_of_ble_eq_true rfl) (Nat.le_of_ble_eq_true rfl) dX2_difference_54 ?_
  refine j_istore (lv' := [(5, .int (if (u12 v6 3) < (u12 v2 3) then (u12 v6 3) else (u12 v2 3))), (4, .ref (ad v6)), (3, .ref (ad v2)), (0, .ref (ad 0)), (1, .int i1), (2, .int i2)]) C dX2_difference_57 (by decide) rfl ?_
  refine j_iconst (v := (0 : Int32)) C dX2_difference_59 (by decide) ?_
  refine j_istore (lv' := [(6, .int (0 : Int32)), (5, .int (if (u12 v6 3) < (u12 v2 3) then (u12 v6 3) else (u12 v2 3))), (4, .ref (ad v6)), (3, .ref (ad v2)), (0, .ref (ad 0)), (1, .int i1), (2, .int i2)]) C dX2_difference_60 (by decide) rfl ?_
  refine j_sub [4, 3, 2, 1, 0] rfl ?_
  refine wX2_difference_62 C hne hl hT hr hn n ?_ ?_ n v2 k4 v6 k8 (if (u12 v6 3) < (u12 v2 3) then (u12 v6 3) else (u12 v2 3)) (0 : Int32) u12 hF
  · intro r3 hr3 r4 hr4 i5 st hF
    refine j_aload_n C dX2_difference_95 rfl 0 rfl ?_
    refine s_getR C in_X2_difference_wsX10 hr3 3 (by decide) (by decide +kernel) rfl dX2_difference_96 ?_
    refine j_aload C dX2_difference_99 1 rfl ?_
    refine s_getR C in_X2_difference_wsX10 hr4 3 (by decide) (by decide +kernel) rfl dX2_difference_101 ?_
    refine j_icmp_ne (tgt := 111) C dX2_difference_104 (by decide) (fun c19 => ?_) (fun c19 => ?_)
    · replace hF := zif_f hF c19
      refine j_iload C dX2_difference_111 2 rfl ?_
      exact j_iret C hr hF (Nat.le_of_ble_eq_true rfl) (Nat.le_of_ble_eq_true rfl) dX2_difference_113
    · replace hF := zif_t hF c19
      refine j_iconst (v := ((-1) : Int32)) C dX2_difference_107 (by decide) ?_
      refine j_goto (tgt := 113) C dX2_difference_108 (by decide) ?_
      exact j_iret C hr hF (Nat.le_of_ble_eq_true rfl) (Nat.le_of_ble_eq_true rfl) dX2_difference_113
  · intro i6 st hF
    refine j_iload C dX2_difference_86 0 rfl ?_
    exact j_iret C hr hF (Nat.le_of_ble_eq_true rfl) (Nat.le_of_ble_eq_true rfl) dX2_difference_88
end
/-! X2_used -/
def rmX2_used : Room := { frames := 10, cells := 0, slots := 0, locals := 120 }
theorem in_X2_used_wsX00 : ∀ w ∈ wsX00, w ∈ wsX2_used := by decide +kernel
theorem in_X2_used_wsX20 : ∀ w ∈ wsX20, w ∈ wsX2_used := by decide +kernel
section
variable {p : Program} {l : Launch} {e : Env} {s : State} {m : MethodId} {args : Array Value} {below : List Frame} {meth : Method} {c : Code} {D : va_G} {cI cR : ClassId} {ad : Nat → Nat}
def fX2_used (n : Nat)  (st : zS) : zF Int32 := some (.inl ((512 : Int32) - (st 2 3)), st)
set_option maxHeartbeats 4000000 in
set_option maxRecDepth 100000 in
theorem kX2_used (hl : l.stackTraces = false) (n : Nat)  (st : zS) (hn : fX2_used n  st ≠ none) : zM (fun v : Int32 => some (.int v)) l yX2_used wsX2_used rmX2_used D zcl (zty cI cR) 57 ad (sce cI cR ad) (sT ad) 0 0 [.ref (ad 0)] st (fX2_used n  st) := by
  refine z_ofJ (cc := cX2_used) (maxL := 1) (ret := (some .int)) (lv := [(0, .ref (ad 0))]) (by decide) rfl (Nat.le_of_ble_eq_true rfl) rfl ?_
  intro p e s m args below meth c C hne hT hr
  obtain ⟨F, hFe⟩ : ∃ F, F = fX2_used n  st := ⟨_, rfl⟩
  rw [← hFe] at hn ⊢
  have hF : fX2_used n  st = F := hFe.symm
  clear hFe
  unfold fX2_used at hF
  have C : zC p s m args meth c cX2_used RX2 wsX2_used D zcl (zty cI cR) 57 ad 1 := C
  refine j_sipush (v := (512 : Int32)) C dX2_used_0 (by decide) ?_
  refine j_aload_n C dX2_used_3 rfl 0 rfl ?_
  refine s_get0 C in_X2_used_wsX20 1 (by decide) (by decide +kernel) 2 rfl dX2_used_4 ?_
  refine s_get2 C in_X2_used_wsX00 3 (by decide) (by decide +kernel) rfl dX2_used_7 ?_
  refine j_isub C dX2_used_10 ?_
  exact j_iret C hr hF (Nat.le_of_ble_eq_true rfl) (Nat.le_of_ble_eq_true rfl) dX2_used_11
end
/-! X2_made -/
def rmX2_made : Room := { frames := 10, cells := 0, slots := 0, locals := 120 }
theorem in_X2_made_wsX00 : ∀ w ∈ wsX00, w ∈ wsX2_made := by decide +kernel
theorem in_X2_made_wsX20 : ∀ w ∈ wsX20, w ∈ wsX2_made := by decide +kernel
section
variable {p : Program} {l : Launch} {e : Env} {s : State} {m : MethodId} {args : Array Value} {below : List Frame} {meth : Method} {c : Code} {D : va_G} {cI cR : ClassId} {ad : Nat → Nat}
def fX2_made (n : Nat)  (st : zS) : zF Int32 := some (.inl (st 2 4), st)
set_option maxHeartbeats 4000000 in
set_option maxRecDepth 100000 in
theorem kX2_made (hl : l.stackTraces = false) (n : Nat)  (st : zS) (hn : fX2_made n  st ≠ none) : zM (fun v : Int32 => some (.int v)) l yX2_made wsX2_made rmX2_made D zcl (zty cI cR) 57 ad (sce cI cR ad) (sT ad) 0 0 [.ref (ad 0)] st (fX2_made n  st) := by
  refine z_ofJ (cc := cX2_made) (maxL := 1) (ret := (some .int)) (lv := [(0, .ref (ad 0))]) (by decide) rfl (Nat.le_of_ble_eq_true rfl) rfl ?_
  intro p e s m args below meth c C hne hT hr
  obtain ⟨F, hFe⟩ : ∃ F, F = fX2_made n  st := ⟨_, rfl⟩
  rw [← hFe] at hn ⊢
  have hF : fX2_made n  st = F := hFe.symm
  clear hFe
  unfold fX2_made at hF
  have C : zC p s m args meth c cX2_made RX2 wsX2_made D zcl (zty cI cR) 57 ad 1 := C
  refine j_aload_n C dX2_made_0 rfl 0 rfl ?_
  refine s_get0 C in_X2_made_wsX20 1 (by decide) (by decide +kernel) 2 rfl dX2_made_1 ?_
  refine s_get2 C in_X2_made_wsX00 4 (by decide) (by decide +kernel) rfl dX2_made_4 ?_
  exact j_iret C hr hF (Nat.le_of_ble_eq_true rfl) (Nat.le_of_ble_eq_true rfl) dX2_made_7
end
/-! X2_leaf -/
def rmX2_leaf : Room := { frames := 13, cells := 0, slots := 0, locals := 240 }
theorem in_X2_leaf_wsX10 : ∀ w ∈ wsX10, w ∈ wsX2_leaf := by decide +kernel
theorem in_X2_leaf_wsX20 : ∀ w ∈ wsX20, w ∈ wsX2_leaf := by decide +kernel
section
variable {p : Program} {l : Launch} {e : Env} {s : State} {m : MethodId} {args : Array Value} {below : List Frame} {meth : Method} {c : Code} {D : va_G} {cI cR : ClassId} {ad : Nat → Nat}
def fX2_leaf (n : Nat) (i1 : Int32) (i2 : Int32) (st : zS) : zF Int32 := (zb (fX2_isLeafThere n i1 i2 st) (fun (v2 : Int32) (u1 : zS) => (if v2 = 0 then some (.inl ((-1) : Int32), u1) else (if inb i1 16 then (if inb i2 (al ((9 + (i1).toNatClampNeg) + 16)) then (if (u1 ((9 + (i1).toNatClampNeg) + 16) (i2).toNatClampNeg) = ((-1) : Int32) then some (.inl (0 : Int32), u1) else (zb (fX0_isShared n (u1 ((9 + (i1).toNatClampNeg) + 16) (i2).toNatClampNeg) u1) (fun (v9 : Int32) (u8 : zS) => (if v9 = 0 then some (.inl (1 : Int32), u8) else some (.inl (2 : Int32), u8))))) else none) else none))))
set_option maxHeartbeats 4000000 in
set_option maxRecDepth 100000 in
theorem kX2_leaf (hl : l.stackTraces = false) (n : Nat) (i1 : Int32) (i2 : Int32) (st : zS) (hn : fX2_leaf n i1 i2 st ≠ none) : zM (fun v : Int32 => some (.int v)) l yX2_leaf wsX2_leaf rmX2_leaf D zcl (zty cI cR) 57 ad (sce cI cR ad) (sT ad) 0 0 [.ref (ad 0), .int i1, .int i2] st (fX2_leaf n i1 i2 st) := by
  refine z_ofJ (cc := cX2_leaf) (maxL := 4) (ret := (some .int)) (lv := [(0, .ref (ad 0)), (1, .int i1), (2, .int i2)]) (by decide) rfl (Nat.le_of_ble_eq_true rfl) rfl ?_
  intro p e s m args below meth c C hne hT hr
  obtain ⟨F, hFe⟩ : ∃ F, F = fX2_leaf n i1 i2 st := ⟨_, rfl⟩
  rw [← hFe] at hn ⊢
  have hF : fX2_leaf n i1 i2 st = F := hFe.symm
  clear hFe
  unfold fX2_leaf at hF
  have C : zC p s m args meth c cX2_leaf RX2 wsX2_leaf D zcl (zty cI cR) 57 ad 4 := C
  refine j_aload_n C dX2_leaf_0 rfl 0 rfl ?_
  refine j_iload_n C dX2_leaf_1 rfl 1 rfl ?_
  refine j_iload_n C dX2_leaf_2 rfl 2 rfl ?_
  refine j_callVi C hne sT_S hT (q0 := 0) (As := [.int i1, .int i2]) (rest := []) (kX2_isLeafThere hl n i1 i2 st (zb_n hF hn)) (cwV 2 C.1.2.2.2.2 gX2_leaf_X2_isLeafThere rfl rfl rfl (by decide +kernel) ⟨(Nat.le_of_ble_eq_true rfl), (Nat.le_of_ble_eq_true rfl)⟩) (by decide) sce_0 rfl rfl rfl (Nat.le_of_ble_eq_true rfl) dX2_leaf_3 ⟨(Nat.le_of_ble_eq_true rfl), (Nat.le_of_ble_eq_true rfl)⟩ (fun _ _ h9 => zb_x hF h9) (Nat.le_of_ble_eq_true rfl) (Nat.le_of_ble_eq_true rfl) (fun v2 u1 h3 => ?_)
  replace hF := zb_l hF h3
  refine j_if_ne (tgt := 11) C dX2_leaf_6 (by decide) (fun c4 => ?_) (fun c4 => ?_)
  · replace hF := zif_f hF c4
    refine j_aload_n C dX2_leaf_11 rfl 0 rfl ?_
    refine s_get0 C in_X2_leaf_wsX20 0 (by decide) (by decide +kernel) 1 rfl dX2_leaf_12 ?_
    refine j_iload_n C dX2_leaf_15 rfl 1 rfl ?_
    have b5 := zif_c hF hn
    replace hF := zif_t hF b5
    refine s_aald C b5 dX2_leaf_16 ?_
    refine s_getR C in_X2_leaf_wsX10 (inb.row b5) 0 (by decide) (by decide +kernel) rfl dX2_leaf_17 ?_
    refine j_iload_n C dX2_leaf_20 rfl 2 rfl ?_
    have b6 := zif_c hF hn
    replace hF := zif_t hF b6
    refine s_iald C (isRow.p (inb.row b5)) b6 dX2_leaf_21 ?_
    refine j_istore_n (lv' := [(3, .int (u1 ((9 + (i1).toNatClampNeg) + 16) (i2).toNatClampNeg)), (0, .ref (ad 0)), (1, .int i1), (2, .int i2)]) C dX2_leaf_22 rfl (by decide) rfl ?_
    refine j_iload_n C dX2_leaf_23 rfl 0 rfl ?_
    refine j_iconst (v := ((-1) : Int32)) C dX2_leaf_24 (by decide) ?_
    refine j_icmp_ne (tgt := 30) C dX2_leaf_25 (by decide) (fun c7 => ?_) (fun c7 => ?_)
    · replace hF := zif_f hF c7
      refine j_aload_n C dX2_leaf_30 rfl 1 rfl ?_
      refine s_get0 C in_X2_leaf_wsX20 1 (by decide) (by decide +kernel) 2 rfl dX2_leaf_31 ?_
      refine j_iload_n C dX2_leaf_34 rfl 0 rfl ?_
      refine j_callVi C hne sT_S hT (q0 := 2) (As := [.int (u1 ((9 + (i1).toNatClampNeg) + 16) (i2).toNatClampNeg)]) (rest := []) (kX0_isShared hl n (u1 ((9 + (i1).toNatClampNeg) + 16) (i2).toNatClampNeg) u1 (zb_n hF hn)) (cwV 1 C.1.2.2.2.2 gX2_leaf_X0_isShared rfl rfl rfl (by decide +kernel) ⟨(Nat.le_of_ble_eq_true rfl), (Nat.le_of_ble_eq_true rfl)⟩) (by decide) sce_2 rfl rfl rfl (Nat.le_of_ble_eq_true rfl) dX2_leaf_35 ⟨(Nat.le_of_ble_eq_true rfl), (Nat.le_of_ble_eq_true rfl)⟩ (fun _ _ h9 => zb_x hF h9) (Nat.le_of_ble_eq_true rfl) (Nat.le_of_ble_eq_true rfl) (fun v9 u8 h10 => ?_)
      replace hF := zb_l hF h10
      refine j_if_eq (tgt := 45) C dX2_leaf_38 (by decide) (fun c11 => ?_) (fun c11 => ?_)
      · replace hF := zif_t hF c11
        refine j_iconst (v := (1 : Int32)) C dX2_leaf_45 (by decide) ?_
        exact j_iret C hr hF (Nat.le_of_ble_eq_true rfl) (Nat.le_of_ble_eq_true rfl) dX2_leaf_46
      · replace hF := zif_f hF c11
        refine j_iconst (v := (2 : Int32)) C dX2_leaf_41 (by decide) ?_
        refine j_goto (tgt := 46) C dX2_leaf_42 (by decide) ?_
        exact j_iret C hr hF (Nat.le_of_ble_eq_true rfl) (Nat.le_of_ble_eq_true rfl) dX2_leaf_46
    · replace hF := zif_t hF c7
      refine j_iconst (v := (0 : Int32)) C dX2_leaf_28 (by decide) ?_
      exact j_iret C hr hF (Nat.le_of_ble_eq_true rfl) (Nat.le_of_ble_eq_true rfl) dX2_leaf_29
  · replace hF := zif_t hF c4
    refine j_iconst (v := ((-1) : Int32)) C dX2_leaf_9 (by decide) ?_
    exact j_iret C hr hF (Nat.le_of_ble_eq_true rfl) (Nat.le_of_ble_eq_true rfl) dX2_leaf_10
end
/-! X2_alike -/
def rmX2_alike : Room := { frames := 13, cells := 0, slots := 0, locals := 240 }
theorem in_X2_alike_wsX10 : ∀ w ∈ wsX10, w ∈ wsX2_alike := by decide +kernel
theorem in_X2_alike_wsX20 : ∀ w ∈ wsX20, w ∈ wsX2_alike := by decide +kernel
section
variable {p : Program} {l : Launch} {e : Env} {s : State} {m : MethodId} {args : Array Value} {below : List Frame} {meth : Method} {c : Code} {D : va_G} {cI cR : ClassId} {ad : Nat → Nat}
def fX2_alike (n : Nat) (i1 : Int32) (i2 : Int32) (i3 : Int32) (i4 : Int32) (st : zS) : zF Int32 := (zb (fX2_isLeafThere n i1 i2 st) (fun (v2 : Int32) (u1 : zS) => (if v2 = 0 then some (.inl (0 : Int32), u1) else (zb (fX2_isLeafThere n i3 i4 u1) (fun (v6 : Int32) (u5 : zS) => (if v6 = 0 then some (.inl (0 : Int32), u5) else (if inb i1 16 then (if inb i2 (al ((9 + (i1).toNatClampNeg) + 16)) then (if (u5 ((9 + (i1).toNatClampNeg) + 16) (i2).toNatClampNeg) = ((-1) : Int32) then some (.inl (0 : Int32), u5) else (if inb i3 16 then (if inb i4 (al ((9 + (i3).toNatClampNeg) + 16)) then (if (u5 ((9 + (i1).toNatClampNeg) + 16) (i2).toNatClampNeg) = (u5 ((9 + (i3).toNatClampNeg) + 16) (i4).toNatClampNeg) then some (.inl (1 : Int32), u5) else some (.inl (0 : Int32), u5)) else none) else none)) else none) else none)))))))
set_option maxHeartbeats 4000000 in
set_option maxRecDepth 100000 in
theorem kX2_alike (hl : l.stackTraces = false) (n : Nat) (i1 : Int32) (i2 : Int32) (i3 : Int32) (i4 : Int32) (st : zS) (hn : fX2_alike n i1 i2 i3 i4 st ≠ none) : zM (fun v : Int32 => some (.int v)) l yX2_alike wsX2_alike rmX2_alike D zcl (zty cI cR) 57 ad (sce cI cR ad) (sT ad) 0 0 [.ref (ad 0), .int i1, .int i2, .int i3, .int i4] st (fX2_alike n i1 i2 i3 i4 st) := by
  refine z_ofJ (cc := cX2_alike) (maxL := 6) (ret := (some .boolean)) (lv := [(0, .ref (ad 0)), (1, .int i1), (2, .int i2), (3, .int i3), (4, .int i4)]) (by decide) rfl (Nat.le_of_ble_eq_true rfl) rfl ?_
  intro p e s m args below meth c C hne hT hr
  obtain ⟨F, hFe⟩ : ∃ F, F = fX2_alike n i1 i2 i3 i4 st := ⟨_, rfl⟩
  rw [← hFe] at hn ⊢
  have hF : fX2_alike n i1 i2 i3 i4 st = F := hFe.symm
  clear hFe
  unfold fX2_alike at hF
  have C : zC p s m args meth c cX2_alike RX2 wsX2_alike D zcl (zty cI cR) 57 ad 6 := C
  refine j_aload_n C dX2_alike_0 rfl 0 rfl ?_
  refine j_iload_n C dX2_alike_1 rfl 1 rfl ?_
  refine j_iload_n C dX2_alike_2 rfl 2 rfl ?_
  refine j_callVi C hne sT_S hT (q0 := 0) (As := [.int i1, .int i2]) (rest := []) (kX2_isLeafThere hl n i1 i2 st (zb_n hF hn)) (cwV 2 C.1.2.2.2.2 gX2_alike_X2_isLeafThere rfl rfl rfl (by decide +kernel) ⟨(Nat.le_of_ble_eq_true rfl), (Nat.le_of_ble_eq_true rfl)⟩) (by decide) sce_0 rfl rfl rfl (Nat.le_of_ble_eq_true rfl) dX2_alike_3 ⟨(Nat.le_of_ble_eq_true rfl), (Nat.le_of_ble_eq_true rfl)⟩ (fun _ _ h9 => zb_x hF h9) (Nat.le_of_ble_eq_true rfl) (Nat.le_of_ble_eq_true rfl) (fun v2 u1 h3 => ?_)
  replace hF := zb_l hF h3
  refine j_if_eq (tgt := 19) C dX2_alike_6 (by decide) (fun c4 => ?_) (fun c4 => ?_)
  · replace hF := zif_t hF c4
    refine j_iconst (v := (0 : Int32)) C dX2_alike_19 (by decide) ?_
    exact j_zret C hr rfl hF (Nat.le_of_ble_eq_true rfl) (Nat.le_of_ble_eq_true rfl) dX2_alike_20
  · replace hF := zif_f hF c4
    refine j_aload_n C dX2_alike_9 rfl 0 rfl ?_
    refine j_iload_n C dX2_alike_10 rfl 3 rfl ?_
    refine j_iload C dX2_alike_11 4 rfl ?_
    refine j_callVi C hne sT_S hT (q0 := 0) (As := [.int i3, .int i4]) (rest := []) (kX2_isLeafThere hl n i3 i4 u1 (zb_n hF hn)) (cwV 2 C.1.2.2.2.2 gX2_alike_X2_isLeafThere rfl rfl rfl (by decide +kernel) ⟨(Nat.le_of_ble_eq_true rfl), (Nat.le_of_ble_eq_true rfl)⟩) (by decide) sce_0 rfl rfl rfl (Nat.le_of_ble_eq_true rfl) dX2_alike_13 ⟨(Nat.le_of_ble_eq_true rfl), (Nat.le_of_ble_eq_true rfl)⟩ (fun _ _ h9 => zb_x hF h9) (Nat.le_of_ble_eq_true rfl) (Nat.le_of_ble_eq_true rfl) (fun v6 u5 h7 => ?_)
    replace hF := zb_l hF h7
    refine j_if_ne (tgt := 21) C dX2_alike_16 (by decide) (fun c8 => ?_) (fun c8 => ?_)
    · replace hF := zif_f hF c8
      refine j_aload_n C dX2_alike_21 rfl 0 rfl ?_
      refine s_get0 C in_X2_alike_wsX20 0 (by decide) (by decide +kernel) 1 rfl dX2_alike_22 ?_
      refine j_iload_n C dX2_alike_25 rfl 1 rfl ?_
      have b9 := zif_c hF hn
      replace hF := zif_t hF b9
      refine s_aald C b9 dX2_alike_26 ?_
      refine s_getR C in_X2_alike_wsX10 (inb.row b9) 0 (by decide) (by decide +kernel) rfl dX2_alike_27 ?_
      refine j_iload_n C dX2_alike_30 rfl 2 rfl ?_
      have b10 := zif_c hF hn
      replace hF := zif_t hF b10
      refine s_iald C (isRow.p (inb.row b9)) b10 dX2_alike_31 ?_
      refine j_istore (lv' := [(5, .int (u5 ((9 + (i1).toNatClampNeg) + 16) (i2).toNatClampNeg)), (0, .ref (ad 0)), (1, .int i1), (2, .int i2), (3, .int i3), (4, .int i4)]) C dX2_alike_32 (by decide) rfl ?_
      refine j_iload C dX2_alike_34 0 rfl ?_
      refine j_iconst (v := ((-1) : Int32)) C dX2_alike_36 (by decide) ?_
      refine j_icmp_eq (tgt := 61) C dX2_alike_37 (by decide) (fun c11 => ?_) (fun c11 => ?_)
      · replace hF := zif_t hF c11
        refine j_iconst (v := (0 : Int32)) C dX2_alike_61 (by decide) ?_
        exact j_zret C hr rfl hF (Nat.le_of_ble_eq_true rfl) (Nat.le_of_ble_eq_true rfl) dX2_alike_62
      · replace hF := zif_f hF c11
        refine j_iload C dX2_alike_40 0 rfl ?_
        refine j_aload_n C dX2_alike_42 rfl 1 rfl ?_
        refine s_get0 C in_X2_alike_wsX20 0 (by decide) (by decide +kernel) 1 rfl dX2_alike_43 ?_
        refine j_iload_n C dX2_alike_46 rfl 4 rfl ?_
        have b12 := zif_c hF hn
        replace hF := zif_t hF b12
        refine s_aald C b12 dX2_alike_47 ?_
        refine s_getR C in_X2_alike_wsX10 (inb.row b12) 0 (by decide) (by decide +kernel) rfl dX2_alike_48 ?_
        refine j_iload C dX2_alike_51 5 rfl ?_
        have b13 := zif_c hF hn
        replace hF := zif_t hF b13
        refine s_iald C (isRow.p (inb.row b12)) b13 dX2_alike_53 ?_
        refine j_icmp_ne (tgt := 61) C dX2_alike_54 (by decide) (fun c14 => ?_) (fun c14 => ?_)
        · replace hF := zif_f hF c14
          refine j_iconst (v := (0 : Int32)) C dX2_alike_61 (by decide) ?_
          exact j_zret C hr rfl hF (Nat.le_of_ble_eq_true rfl) (Nat.le_of_ble_eq_true rfl) dX2_alike_62
        · replace hF := zif_t hF c14
          refine j_iconst (v := (1 : Int32)) C dX2_alike_57 (by decide) ?_
          refine j_goto (tgt := 62) C dX2_alike_58 (by decide) ?_
          exact j_zret C hr rfl hF (Nat.le_of_ble_eq_true rfl) (Nat.le_of_ble_eq_true rfl) dX2_alike_62
    · replace hF := zif_t hF c8
      refine j_iconst (v := (0 : Int32)) C dX2_alike_19 (by decide) ?_
      exact j_zret C hr rfl hF (Nat.le_of_ble_eq_true rfl) (Nat.le_of_ble_eq_true rfl) dX2_alike_20
end
