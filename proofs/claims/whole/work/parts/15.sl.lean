/-! X2_make -/
def rmX2_make : Room := { frames := 12, cells := 1, slots := 6, locals := 200 }
theorem hatA_X2_make : ∀ w ∈ (vx_atS RX2 37 "java/lang/IllegalArgumentException" ["java/lang/RuntimeException", "java/lang/Exception"]).filter goodWord, w ∈ wsX2_make := by decide +kernel
theorem in_X2_make_wsX10 : ∀ w ∈ wsX10, w ∈ wsX2_make := by decide +kernel
theorem in_X2_make_wsX20 : ∀ w ∈ wsX20, w ∈ wsX2_make := by decide +kernel
section
variable {p : Program} {l : Launch} {e : Env} {s : State} {m : MethodId} {args : Array Value} {below : List Frame} {meth : Method} {c : Code} {D : va_G} {cI cR : ClassId} {ad : Nat → Nat}
def fX2_make_43 (n : Nat) (X_68 : Int32 → zS → zF Int32) : Nat → Int32 → Int32 → Nat → Int32 → zS → zF Int32
  | 0, _, _, _, _, _ => none
  | k + 1, i2, i3, r4, i5, st => (zb (fX1_leafCount n r4 st) (fun (v11 : Int32) (u10 : zS) => (if v11 ≤ i5 then X_68 i3 u10 else (if inb i5 (al (r4 + 32)) then (zl (upA u10 (r4 + 32) (upd (u10 (r4 + 32)) (i5).toNatClampNeg i2)) (fun (s15 : zS) => fX2_make_43 n X_68 k i2 i3 r4 (i5 + (1 : Int32)) s15)) else none))))
set_option maxHeartbeats 4000000 in
set_option maxRecDepth 100000 in
theorem wX2_make_43 (C : zC p s m args meth c cX2_make RX2 wsX2_make D zcl (zty cI cR) 57 ad 6) (hne : ∀ x ∈ c.exceptionTable.toList, False) (hl : l.stackTraces = false) (hT : (sT ad) s.heap.size s) (hr : meth.sig.returnType = (some .int)) {F : zF Int32} (hn : F ≠ none) (n : Nat) {X_68 : Int32 → zS → zF Int32} (hX_68 : ∀ (i3 : Int32) (st : zS), X_68 i3 st = F → sJ (fun v : Int32 => some (.int v)) F 1 6 p l e rmX2_make s m args below meth c D cI cR ad 6 st 1 6 68 [(3, .int i3)] []) : ∀ (k : Nat) (i2 : Int32) (i3 : Int32) (r4 : Nat) (hr4 : isRow r4) (i5 : Int32) (st : zS), fX2_make_43 n X_68 k i2 i3 r4 i5 st = F → sJ (fun v : Int32 => some (.int v)) F 1 6 p l e rmX2_make s m args below meth c D cI cR ad 6 st 1 6 43 [(2, .int i2), (3, .int i3), (4, .ref (ad r4)), (5, .int i5)] [] := by
  intro k
  induction k with
  | zero =>
    intro i2 i3 r4 hr4 i5 st hF
    exact absurd hF.symm hn
  | succ k ih =>
    intro i2 i3 r4 hr4 i5 st hF
    rw [fX2_make_43] at hF
    refine j_iload C dX2_make_43 3 rfl ?_
    refine j_aload C dX2_make_45 2 rfl ?_
    refine j_callVi C hne sT_S hT (q0 := r4) (As := []) (rest := [.int i5]) (kX1_leafCount hl n r4 hr4 st (zb_n hF hn)) (cwV 0 C.1.2.2.2.2 gX2_make_X1_leafCount rfl rfl rfl (by decide +kernel) ⟨(Nat.le_of_ble_eq_true rfl), (Nat.le_of_ble_eq_true rfl)⟩) (isRow.lt hr4) (sce_row hr4) rfl rfl rfl (Nat.le_of_ble_eq_true rfl) dX2_make_47 ⟨(Nat.le_of_ble_eq_true rfl), (Nat.le_of_ble_eq_true rfl)⟩ (fun _ _ h9 => zb_x hF h9) (Nat.le_of_ble_eq_true rfl) (Nat.le_of_ble_eq_true rfl) (fun v11 u10 h12 => ?_)
    replace hF := zb_l hF h12
    refine j_icmp_ge (tgt := 68) C dX2_make_50 (by decide) (fun c13 => ?_) (fun c13 => ?_)
    · replace hF := zif_t hF c13
      refine j_sub [1] rfl ?_
      exact hX_68 i3 u10 hF
    · replace hF := zif_f hF c13
      refine j_aload C dX2_make_53 2 rfl ?_
      refine s_getR C in_X2_make_wsX10 hr4 1 (by decide) (by decide +kernel) rfl dX2_make_55 ?_
      refine j_iload C dX2_make_58 3 rfl ?_
      refine j_iload_n C dX2_make_60 rfl 0 rfl ?_
      have b14 := zif_c hF hn
      replace hF := zif_t hF b14
      refine s_iast C (isRow.n hr4) b14 dX2_make_61 ?_
      obtain ⟨s15, es15, hF⟩ := zl_e hF
      rw [← es15]
      refine j_iinc (lv' := [(5, .int (i5 + (1 : Int32))), (2, .int i2), (3, .int i3), (4, .ref (ad r4))]) C dX2_make_62 3 rfl rfl (by decide) rfl ?_
      refine j_goto (tgt := 43) C dX2_make_65 (by decide) ?_
      refine j_sub [1, 2, 3, 0] rfl ?_
      exact ih i2 i3 r4 hr4 (i5 + (1 : Int32)) s15 hF
def fX2_make (n : Nat) (i1 : Int32) (i2 : Int32) (st : zS) : zF Int32 := (if i1 < 0 then some (.inr true, st) else (if i1 ≤ (4096 : Int32) then (zb (fX2_numberForNewArray n  st) (fun (v4 : Int32) (u3 : zS) => (if inb v4 16 then (zb (fX1_begin n (9 + (v4).toNatClampNeg) i1 u3) (fun (v8 : Unit) (u7 : zS) => fX2_make_43 n (fun (i3 : Int32) (st : zS) => some (.inl i3, st)) n i2 v4 (9 + (v4).toNatClampNeg) (0 : Int32) u7)) else none))) else some (.inr true, st)))
set_option maxHeartbeats 4000000 in
set_option maxRecDepth 100000 in
theorem kX2_make (hl : l.stackTraces = false) (n : Nat) (i1 : Int32) (i2 : Int32) (st : zS) (hn : fX2_make n i1 i2 st ≠ none) : zM (fun v : Int32 => some (.int v)) l yX2_make wsX2_make rmX2_make D zcl (zty cI cR) 57 ad (sce cI cR ad) (sT ad) 1 6 [.ref (ad 0), .int i1, .int i2] st (fX2_make n i1 i2 st) := by
  refine z_ofJ (cc := cX2_make) (maxL := 6) (ret := (some .int)) (lv := [(0, .ref (ad 0)), (1, .int i1), (2, .int i2)]) (by decide) rfl (Nat.le_of_ble_eq_true rfl) rfl ?_
  intro p e s m args below meth c C hne hT hr
  obtain ⟨F, hFe⟩ : ∃ F, F = fX2_make n i1 i2 st := ⟨_, rfl⟩
  rw [← hFe] at hn ⊢
  have hF : fX2_make n i1 i2 st = F := hFe.symm
  clear hFe
  unfold fX2_make at hF
  have C : zC p s m args meth c cX2_make RX2 wsX2_make D zcl (zty cI cR) 57 ad 6 := C
  refine j_iload_n C dX2_make_0 rfl 1 rfl ?_
  refine j_if_lt (tgt := 11) C dX2_make_1 (by decide) (fun c1 => ?_) (fun c1 => ?_)
  · replace hF := zif_t hF c1
    exact s_throwA (text := "the length isn't 0 .. 4096") C hne hl hT (by decide +kernel) (by decide +kernel) hatA_X2_make (by decide) dX2_make_11 dX2_make_14 dX2_make_15 dX2_make_17 dX2_make_20 (Nat.le_of_ble_eq_true rfl) (Nat.le_of_ble_eq_true rfl) (Nat.le_of_ble_eq_true rfl) (Nat.le_of_ble_eq_true rfl) hF (Nat.le_of_ble_eq_true rfl) (Nat.le_of_ble_eq_true rfl)
  · replace hF := zif_f hF c1
    refine j_iload_n C dX2_make_4 rfl 1 rfl ?_
    refine j_sipush (v := (4096 : Int32)) C dX2_make_5 (by decide) ?_
    refine j_icmp_le (tgt := 21) C dX2_make_8 (by decide) (fun c2 => ?_) (fun c2 => ?_)
    · replace hF := zif_t hF c2
      refine j_aload_n C dX2_make_21 rfl 0 rfl ?_
      refine j_callVi C hne sT_S hT (q0 := 0) (As := []) (rest := []) (kX2_numberForNewArray hl n  st (zb_n hF hn)) (cwV 0 C.1.2.2.2.2 gX2_make_X2_numberForNewArray rfl rfl rfl (by decide +kernel) ⟨(Nat.le_of_ble_eq_true rfl), (Nat.le_of_ble_eq_true rfl)⟩) (by decide) sce_0 rfl rfl rfl (Nat.le_of_ble_eq_true rfl) dX2_make_22 ⟨(Nat.le_of_ble_eq_true rfl), (Nat.le_of_ble_eq_true rfl)⟩ (fun _ _ h9 => zb_x hF h9) (Nat.le_of_ble_eq_true rfl) (Nat.le_of_ble_eq_true rfl) (fun v4 u3 h5 => ?_)
      replace hF := zb_l hF h5
      refine j_istore_n (lv' := [(3, .int v4), (0, .ref (ad 0)), (1, .int i1), (2, .int i2)]) C dX2_make_25 rfl (by decide) rfl ?_
      refine j_aload_n C dX2_make_26 rfl 1 rfl ?_
      refine s_get0 C in_X2_make_wsX20 0 (by decide) (by decide +kernel) 1 rfl dX2_make_27 ?_
      refine j_iload_n C dX2_make_30 rfl 0 rfl ?_
      have b6 := zif_c hF hn
      replace hF := zif_t hF b6
      refine s_aald C b6 dX2_make_31 ?_
      refine j_astore (lv' := [(4, .ref (ad (9 + (v4).toNatClampNeg))), (3, .int v4), (0, .ref (ad 0)), (1, .int i1), (2, .int i2)]) C dX2_make_32 (by decide) rfl ?_
      refine j_aload C dX2_make_34 0 rfl ?_
      refine j_iload_n C dX2_make_36 rfl 3 rfl ?_
      refine j_callVv C hne sT_S hT (q0 := (9 + (v4).toNatClampNeg)) (As := [.int i1]) (rest := []) (kX1_begin hl n (9 + (v4).toNatClampNeg) (inb.row b6) i1 u3 (zb_n hF hn)) (cwV 1 C.1.2.2.2.2 gX2_make_X1_begin rfl rfl rfl (by decide +kernel) ⟨(Nat.le_of_ble_eq_true rfl), (Nat.le_of_ble_eq_true rfl)⟩) (isRow.lt (inb.row b6)) (sce_row (inb.row b6)) rfl rfl rfl (Nat.le_of_ble_eq_true rfl) dX2_make_37 ⟨(Nat.le_of_ble_eq_true rfl), (Nat.le_of_ble_eq_true rfl)⟩ (fun _ _ h9 => zb_x hF h9) (Nat.le_of_ble_eq_true rfl) (Nat.le_of_ble_eq_true rfl) (fun v8 u7 h9 => ?_)
      replace hF := zb_l hF h9
      refine j_iconst (v := (0 : Int32)) C dX2_make_40 (by decide) ?_
      refine j_istore (lv' := [(5, .int (0 : Int32)), (4, .ref (ad (9 + (v4).toNatClampNeg))), (3, .int v4), (0, .ref (ad 0)), (1, .int i1), (2, .int i2)]) C dX2_make_41 (by decide) rfl ?_
      refine j_sub [5, 2, 1, 0] rfl ?_
      refine wX2_make_43 C hne hl hT hr hn n ?_ n i2 v4 (9 + (v4).toNatClampNeg) (inb.row b6) (0 : Int32) u7 hF
      · intro i3 st hF
        refine j_iload_n C dX2_make_68 rfl 0 rfl ?_
        exact j_iret C hr hF (Nat.le_of_ble_eq_true rfl) (Nat.le_of_ble_eq_true rfl) dX2_make_69
    · replace hF := zif_f hF c2
      exact s_throwA (text := "the length isn't 0 .. 4096") C hne hl hT (by decide +kernel) (by decide +kernel) hatA_X2_make (by decide) dX2_make_11 dX2_make_14 dX2_make_15 dX2_make_17 dX2_make_20 (Nat.le_of_ble_eq_true rfl) (Nat.le_of_ble_eq_true rfl) (Nat.le_of_ble_eq_true rfl) (Nat.le_of_ble_eq_true rfl) hF (Nat.le_of_ble_eq_true rfl) (Nat.le_of_ble_eq_true rfl)
end
/-! X2_copy -/
def rmX2_copy : Room := { frames := 12, cells := 2, slots := 12, locals := 200 }
theorem in_X2_copy_wsX10 : ∀ w ∈ wsX10, w ∈ wsX2_copy := by decide +kernel
theorem in_X2_copy_wsX20 : ∀ w ∈ wsX20, w ∈ wsX2_copy := by decide +kernel
section
variable {p : Program} {l : Launch} {e : Env} {s : State} {m : MethodId} {args : Array Value} {below : List Frame} {meth : Method} {c : Code} {D : va_G} {cI cR : ClassId} {ad : Nat → Nat}
def fX2_copy (n : Nat) (i1 : Int32) (st : zS) : zF Int32 := (zb (fX2_arrayThere n i1 st) (fun (v2 : Nat) (u1 : zS) => (zb (fX2_numberForNewArray n  u1) (fun (v6 : Int32) (u5 : zS) => (if inb v6 16 then (zb (fX1_begin n (9 + (v6).toNatClampNeg) (u5 v2 3) u5) (fun (v10 : Unit) (u9 : zS) => (zb (fX1_leafCount n v2 u9) (fun (v13 : Int32) (u12 : zS) => (zb (fX2_shareLeaves n v2 (0 : Int32) (9 + (v6).toNatClampNeg) (0 : Int32) v13 u12) (fun (v16 : Unit) (u15 : zS) => some (.inl v6, u15))))))) else none)))))
set_option maxHeartbeats 4000000 in
set_option maxRecDepth 100000 in
theorem kX2_copy (hl : l.stackTraces = false) (n : Nat) (i1 : Int32) (st : zS) (hn : fX2_copy n i1 st ≠ none) : zM (fun v : Int32 => some (.int v)) l yX2_copy wsX2_copy rmX2_copy D zcl (zty cI cR) 57 ad (sce cI cR ad) (sT ad) 2 12 [.ref (ad 0), .int i1] st (fX2_copy n i1 st) := by
  refine z_ofJ (cc := cX2_copy) (maxL := 5) (ret := (some .int)) (lv := [(0, .ref (ad 0)), (1, .int i1)]) (by decide) rfl (Nat.le_of_ble_eq_true rfl) rfl ?_
  intro p e s m args below meth c C hne hT hr
  obtain ⟨F, hFe⟩ : ∃ F, F = fX2_copy n i1 st := ⟨_, rfl⟩
  rw [← hFe] at hn ⊢
  have hF : fX2_copy n i1 st = F := hFe.symm
  clear hFe
  unfold fX2_copy at hF
  have C : zC p s m args meth c cX2_copy RX2 wsX2_copy D zcl (zty cI cR) 57 ad 5 := C
  refine j_aload_n C dX2_copy_0 rfl 0 rfl ?_
  refine j_iload_n C dX2_copy_1 rfl 1 rfl ?_
  refine j_callVr C hne sT_S hT (q0 := 0) (As := [.int i1]) (rest := []) (kX2_arrayThere hl n i1 st (zb_n hF hn)) (cwV 1 C.1.2.2.2.2 gX2_copy_X2_arrayThere rfl rfl rfl (by decide +kernel) ⟨(Nat.le_of_ble_eq_true rfl), (Nat.le_of_ble_eq_true rfl)⟩) (by decide) sce_0 rfl rfl rfl (Nat.le_of_ble_eq_true rfl) dX2_copy_2 ⟨(Nat.le_of_ble_eq_true rfl), (Nat.le_of_ble_eq_true rfl)⟩ (fun _ _ h9 => zb_x hF h9) (Nat.le_of_ble_eq_true rfl) (Nat.le_of_ble_eq_true rfl) (fun v2 u1 h3 => ?_)
  replace hF := zb_l hF h3
  have k4 := fX2_arrayThere_row h3
  refine j_astore_n (lv' := [(2, .ref (ad v2)), (0, .ref (ad 0)), (1, .int i1)]) C dX2_copy_5 rfl (by decide) rfl ?_
  refine j_aload_n C dX2_copy_6 rfl 1 rfl ?_
  refine j_callVi C hne sT_S hT (q0 := 0) (As := []) (rest := []) (kX2_numberForNewArray hl n  u1 (zb_n hF hn)) (cwV 0 C.1.2.2.2.2 gX2_copy_X2_numberForNewArray rfl rfl rfl (by decide +kernel) ⟨(Nat.le_of_ble_eq_true rfl), (Nat.le_of_ble_eq_true rfl)⟩) (by decide) sce_0 rfl rfl rfl (Nat.le_of_ble_eq_true rfl) dX2_copy_7 ⟨(Nat.le_of_ble_eq_true rfl), (Nat.le_of_ble_eq_true rfl)⟩ (fun _ _ h9 => zb_x hF h9) (Nat.le_of_ble_eq_true rfl) (Nat.le_of_ble_eq_true rfl) (fun v6 u5 h7 => ?_)
  replace hF := zb_l hF h7
  refine j_istore_n (lv' := [(3, .int v6), (2, .ref (ad v2)), (0, .ref (ad 0)), (1, .int i1)]) C dX2_copy_10 rfl (by decide) rfl ?_
  refine j_aload_n C dX2_copy_11 rfl 2 rfl ?_
  refine s_get0 C in_X2_copy_wsX20 0 (by decide) (by decide +kernel) 1 rfl dX2_copy_12 ?_
  refine j_iload_n C dX2_copy_15 rfl 0 rfl ?_
  have b8 := zif_c hF hn
  replace hF := zif_t hF b8
  refine s_aald C b8 dX2_copy_16 ?_
  refine j_astore (lv' := [(4, .ref (ad (9 + (v6).toNatClampNeg))), (3, .int v6), (2, .ref (ad v2)), (0, .ref (ad 0)), (1, .int i1)]) C dX2_copy_17 (by decide) rfl ?_
  refine j_aload C dX2_copy_19 0 rfl ?_
  refine j_aload_n C dX2_copy_21 rfl 2 rfl ?_
  refine s_getR C in_X2_copy_wsX10 k4 3 (by decide) (by decide +kernel) rfl dX2_copy_22 ?_
  refine j_callVv C hne sT_S hT (q0 := (9 + (v6).toNatClampNeg)) (As := [.int (u5 v2 3)]) (rest := []) (kX1_begin hl n (9 + (v6).toNatClampNeg) (inb.row b8) (u5 v2 3) u5 (zb_n hF hn)) (cwV 1 C.1.2.2.2.2 gX2_copy_X1_begin rfl rfl rfl (by decide +kernel) ⟨(Nat.le_of_ble_eq_true rfl), (Nat.le_of_ble_eq_true rfl)⟩) (isRow.lt (inb.row b8)) (sce_row (inb.row b8)) rfl rfl rfl (Nat.le_of_ble_eq_true rfl) dX2_copy_25 ⟨(Nat.le_of_ble_eq_true rfl), (Nat.le_of_ble_eq_true rfl)⟩ (fun _ _ h9 => zb_x hF h9) (Nat.le_of_ble_eq_true rfl) (Nat.le_of_ble_eq_true rfl) (fun v10 u9 h11 => ?_)
  replace hF := zb_l hF h11
  refine j_aload_n C dX2_copy_28 rfl 3 rfl ?_
  refine j_aload_n C dX2_copy_29 rfl 2 rfl ?_
  refine j_iconst (v := (0 : Int32)) C dX2_copy_30 (by decide) ?_
  refine j_aload C dX2_copy_31 0 rfl ?_
  refine j_iconst (v := (0 : Int32)) C dX2_copy_33 (by decide) ?_
  refine j_aload_n C dX2_copy_34 rfl 2 rfl ?_
  refine j_callVi C hne sT_S hT (q0 := v2) (As := []) (rest := [.int (0 : Int32), .ref (ad (9 + (v6).toNatClampNeg)), .int (0 : Int32), .ref (ad v2), .ref (ad 0)]) (kX1_leafCount hl n v2 k4 u9 (zb_n hF hn)) (cwV 0 C.1.2.2.2.2 gX2_copy_X1_leafCount rfl rfl rfl (by decide +kernel) ⟨(Nat.le_of_ble_eq_true rfl), (Nat.le_of_ble_eq_true rfl)⟩) (isRow.lt k4) (sce_row k4) rfl rfl rfl (Nat.le_of_ble_eq_true rfl) dX2_copy_35 ⟨(Nat.le_of_ble_eq_true rfl), (Nat.le_of_ble_eq_true rfl)⟩ (fun _ _ h9 => zb_x hF h9) (Nat.le_of_ble_eq_true rfl) (Nat.le_of_ble_eq_true rfl) (fun v13 u12 h14 => ?_)
  replace hF := zb_l hF h14
  refine j_callVv C hne sT_S hT (q0 := 0) (As := [.ref (ad v2), .int (0 : Int32), .ref (ad (9 + (v6).toNatClampNeg)), .int (0 : Int32), .int v13]) (rest := []) (kX2_shareLeaves hl n v2 k4 (0 : Int32) (9 + (v6).toNatClampNeg) (inb.row b8) (0 : Int32) v13 u12 (zb_n hF hn)) (cwV 5 C.1.2.2.2.2 gX2_copy_X2_shareLeaves rfl rfl rfl (by decide +kernel) ⟨(Nat.le_of_ble_eq_true rfl), (Nat.le_of_ble_eq_true rfl)⟩) (by decide) sce_0 rfl rfl rfl (Nat.le_of_ble_eq_true rfl) dX2_copy_38 ⟨(Nat.le_of_ble_eq_true rfl), (Nat.le_of_ble_eq_true rfl)⟩ (fun _ _ h9 => zb_x hF h9) (Nat.le_of_ble_eq_true rfl) (Nat.le_of_ble_eq_true rfl) (fun v16 u15 h17 => ?_)
  replace hF := zb_l hF h17
  refine j_iload_n C dX2_copy_41 rfl 1 rfl ?_
  exact j_iret C hr hF (Nat.le_of_ble_eq_true rfl) (Nat.le_of_ble_eq_true rfl) dX2_copy_42
end
