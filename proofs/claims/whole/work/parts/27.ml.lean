/-! X3_length -/
def rmX3_length : Room := { frames := 11, cells := 0, slots := 0, locals := 160 }
theorem in_X3_length_wsX30 : ∀ w ∈ wsX30, w ∈ wsX3_length := by decide +kernel
section
variable {p : Program} {l : Launch} {e : Env} {s : State} {m : MethodId} {args : Array Value} {below : List Frame} {meth : Method} {c : Code} {D : va_G} {cI cZ : ClassId} {ad : Nat → Nat}
def fX3_length (n : Nat) (i1 : Int32) (st : zS) : zF Int32 := (zl (upA st 0 (upd (st 0) 0 (0 : Int32))) (fun (s1 : zS) => (zb (fX3_isArray n i1 s1) (fun (v3 : Int32) (u2 : zS) => (if v3 = 0 then some (.inl ((-1) : Int32), u2) else (if inb i1 (ml 2) then some (.inl (u2 2 (i1).toNatClampNeg), u2) else none))))))
set_option maxHeartbeats 4000000 in
set_option maxRecDepth 100000 in
theorem kX3_length (hl : l.stackTraces = false) (n : Nat) (i1 : Int32) (st : zS) (hn : fX3_length n i1 st ≠ none) : zM (fun v : Int32 => some (.int v)) l yX3_length wsX3_length rmX3_length D zcl (mty cI cZ) 7 ad (mce cI cZ ad) mT 0 0 [.ref (ad 0), .int i1] st (fX3_length n i1 st) := by
  refine z_ofJ (cc := cX3_length) (maxL := 2) (ret := (some .int)) (lv := [(0, .ref (ad 0)), (1, .int i1)]) (by decide) rfl (Nat.le_of_ble_eq_true rfl) rfl ?_
  intro p e s m args below meth c C hne hT hr
  obtain ⟨F, hFe⟩ : ∃ F, F = fX3_length n i1 st := ⟨_, rfl⟩
  rw [← hFe] at hn ⊢
  have hF : fX3_length n i1 st = F := hFe.symm
  clear hFe
  unfold fX3_length at hF
  have C : zC p s m args meth c cX3_length RX3 wsX3_length D zcl (mty cI cZ) 7 ad 2 := C
  refine j_aload_n C dX3_length_0 rfl 0 rfl ?_
  refine j_iconst (v := (0 : Int32)) C dX3_length_1 (by decide) ?_
  refine m_put0 C in_X3_length_wsX30 0 (by decide) (by decide +kernel) dX3_length_2 ?_
  obtain ⟨s1, es1, hF⟩ := zl_e hF
  rw [← es1]
  refine j_aload_n C dX3_length_5 rfl 0 rfl ?_
  refine j_iload_n C dX3_length_6 rfl 1 rfl ?_
  refine j_callVi C hne mT_S hT (q0 := 0) (As := [.int i1]) (rest := []) (kX3_isArray hl n i1 s1 (zb_n hF hn)) (cwV 1 C.1.2.2.2.2 gX3_length_X3_isArray rfl rfl rfl (by decide +kernel) ⟨(Nat.le_of_ble_eq_true rfl), (Nat.le_of_ble_eq_true rfl)⟩) (by decide) mce_0 rfl rfl rfl (Nat.le_of_ble_eq_true rfl) dX3_length_7 ⟨(Nat.le_of_ble_eq_true rfl), (Nat.le_of_ble_eq_true rfl)⟩ (fun _ _ h9 => zb_x hF h9) (Nat.le_of_ble_eq_true rfl) (Nat.le_of_ble_eq_true rfl) (fun v3 u2 h4 => ?_)
  replace hF := zb_l hF h4
  refine j_if_eq (tgt := 22) C dX3_length_10 (by decide) (fun c5 => ?_) (fun c5 => ?_)
  · replace hF := zif_t hF c5
    refine j_iconst (v := ((-1) : Int32)) C dX3_length_22 (by decide) ?_
    exact j_iret C hr hF (Nat.le_of_ble_eq_true rfl) (Nat.le_of_ble_eq_true rfl) dX3_length_23
  · replace hF := zif_f hF c5
    refine j_aload_n C dX3_length_13 rfl 0 rfl ?_
    refine m_get0 C in_X3_length_wsX30 2 (by decide) (by decide +kernel) rfl dX3_length_14 ?_
    refine j_iload_n C dX3_length_17 rfl 1 rfl ?_
    have b6 := zif_c hF hn
    replace hF := zif_t hF b6
    refine m_iald C (by decide) b6 dX3_length_18 ?_
    refine j_goto (tgt := 23) C dX3_length_19 (by decide) ?_
    exact j_iret C hr hF (Nat.le_of_ble_eq_true rfl) (Nat.le_of_ble_eq_true rfl) dX3_length_23
end
/-! X3_sum -/
def rmX3_sum : Room := { frames := 12, cells := 0, slots := 0, locals := 200 }
theorem in_X3_sum_wsX30 : ∀ w ∈ wsX30, w ∈ wsX3_sum := by decide +kernel
section
variable {p : Program} {l : Launch} {e : Env} {s : State} {m : MethodId} {args : Array Value} {below : List Frame} {meth : Method} {c : Code} {D : va_G} {cI cZ : ClassId} {ad : Nat → Nat}
def fX3_sum_31 (n : Nat) (X_62 : Int64 → zS → zF Int64) : Nat → Int32 → Int32 → Int64 → Int32 → zS → zF Int64
  | 0, _, _, _, _, _ => none
  | k + 1, i1, i3, l4, i6, st => (if i3 ≤ i6 then X_62 l4 st else (if inb (((4096 : Int32) * i1) + i6) (ml 3) then fX3_sum_31 n X_62 k i1 i3 (l4 + ((st 3 ((((4096 : Int32) * i1) + i6)).toNatClampNeg)).toInt64) (i6 + (1 : Int32)) st else none))
set_option maxHeartbeats 4000000 in
set_option maxRecDepth 100000 in
theorem wX3_sum_31 (C : zC p s m args meth c cX3_sum RX3 wsX3_sum D zcl (mty cI cZ) 7 ad 7) (hne : ∀ x ∈ c.exceptionTable.toList, False) (hl : l.stackTraces = false) (hT : mT s.heap.size s) (hr : meth.sig.returnType = (some .long)) {F : zF Int64} (hn : F ≠ none) (n : Nat) {X_62 : Int64 → zS → zF Int64} (hX_62 : ∀ (l4 : Int64) (st : zS), X_62 l4 st = F → mJ (fun v : Int64 => some (.long v)) F 0 0 p l e rmX3_sum s m args below meth c D cI cZ ad 7 st 0 0 62 [(4, .long l4)] []) : ∀ (k : Nat) (i1 : Int32) (i3 : Int32) (l4 : Int64) (i6 : Int32) (st : zS), fX3_sum_31 n X_62 k i1 i3 l4 i6 st = F → mJ (fun v : Int64 => some (.long v)) F 0 0 p l e rmX3_sum s m args below meth c D cI cZ ad 7 st 0 0 31 [(0, .ref (ad 0)), (1, .int i1), (3, .int i3), (4, .long l4), (6, .int i6)] [] := by
  intro k
  induction k with
  | zero =>
    intro i1 i3 l4 i6 st hF
    exact absurd hF.symm hn
  | succ k ih =>
    intro i1 i3 l4 i6 st hF
    rw [fX3_sum_31] at hF
    refine j_iload C dX3_sum_31 4 rfl ?_
    refine j_iload_n C dX3_sum_33 rfl 2 rfl ?_
    refine j_icmp_ge (tgt := 62) C dX3_sum_34 (by decide) (fun c9 => ?_) (fun c9 => ?_)
    · replace hF := zif_t hF c9
      refine j_sub [3] rfl ?_
      exact hX_62 l4 st hF
    · replace hF := zif_f hF c9
      refine j_lload C dX3_sum_37 3 rfl ?_
      refine j_aload_n C dX3_sum_39 rfl 0 rfl ?_
      refine m_get0 C in_X3_sum_wsX30 3 (by decide) (by decide +kernel) rfl dX3_sum_40 ?_
      refine j_sipush (v := (4096 : Int32)) C dX3_sum_43 (by decide) ?_
      refine j_iload_n C dX3_sum_46 rfl 1 rfl ?_
      refine j_imul C dX3_sum_47 ?_
      refine j_iload C dX3_sum_48 4 rfl ?_
      refine j_iadd C dX3_sum_50 ?_
      have b10 := zif_c hF hn
      replace hF := zif_t hF b10
      refine m_iald C (by decide) b10 dX3_sum_51 ?_
      refine j_i2l C dX3_sum_52 ?_
      refine j_ladd C dX3_sum_53 ?_
      refine j_lstore (lv' := [(4, .long (l4 + ((st 3 ((((4096 : Int32) * i1) + i6)).toNatClampNeg)).toInt64)), (0, .ref (ad 0)), (1, .int i1), (3, .int i3), (6, .int i6)]) C dX3_sum_54 (by decide) rfl ?_
      refine j_iinc (lv' := [(6, .int (i6 + (1 : Int32))), (4, .long (l4 + ((st 3 ((((4096 : Int32) * i1) + i6)).toNatClampNeg)).toInt64)), (0, .ref (ad 0)), (1, .int i1), (3, .int i3)]) C dX3_sum_56 4 rfl rfl (by decide) rfl ?_
      refine j_goto (tgt := 31) C dX3_sum_59 (by decide) ?_
      refine j_sub [2, 3, 4, 1, 0] rfl ?_
      exact ih i1 i3 (l4 + ((st 3 ((((4096 : Int32) * i1) + i6)).toNatClampNeg)).toInt64) (i6 + (1 : Int32)) st hF
def fX3_sum (n : Nat) (i1 : Int32) (i2 : Int32) (i3 : Int32) (st : zS) : zF Int64 := (zb (fX3_isPart n i1 i2 i3 st) (fun (v2 : Int32) (u1 : zS) => (if v2 = 0 then (zb (fX3_refuses n (1 : Int32) (0 : Int32) u1) (fun (v12 : Int32) (u11 : zS) => (if v12 = 0 then fX3_sum_31 n (fun (l4 : Int64) (st : zS) => some (.inl l4, st)) n i1 i3 (0 : Int64) i2 u11 else some (.inl (0 : Int64), u11)))) else (zb (fX3_refuses n (0 : Int32) (0 : Int32) u1) (fun (v6 : Int32) (u5 : zS) => (if v6 = 0 then fX3_sum_31 n (fun (l4 : Int64) (st : zS) => some (.inl l4, st)) n i1 i3 (0 : Int64) i2 u5 else some (.inl (0 : Int64), u5)))))))
set_option maxHeartbeats 4000000 in
set_option maxRecDepth 100000 in
theorem kX3_sum (hl : l.stackTraces = false) (n : Nat) (i1 : Int32) (i2 : Int32) (i3 : Int32) (st : zS) (hn : fX3_sum n i1 i2 i3 st ≠ none) : zM (fun v : Int64 => some (.long v)) l yX3_sum wsX3_sum rmX3_sum D zcl (mty cI cZ) 7 ad (mce cI cZ ad) mT 0 0 [.ref (ad 0), .int i1, .int i2, .int i3] st (fX3_sum n i1 i2 i3 st) := by
  refine z_ofJ (cc := cX3_sum) (maxL := 7) (ret := (some .long)) (lv := [(0, .ref (ad 0)), (1, .int i1), (2, .int i2), (3, .int i3)]) (by decide) rfl (Nat.le_of_ble_eq_true rfl) rfl ?_
  intro p e s m args below meth c C hne hT hr
  obtain ⟨F, hFe⟩ : ∃ F, F = fX3_sum n i1 i2 i3 st := ⟨_, rfl⟩
  rw [← hFe] at hn ⊢
  have hF : fX3_sum n i1 i2 i3 st = F := hFe.symm
  clear hFe
  unfold fX3_sum at hF
  have C : zC p s m args meth c cX3_sum RX3 wsX3_sum D zcl (mty cI cZ) 7 ad 7 := C
  refine j_aload_n C dX3_sum_0 rfl 0 rfl ?_
  refine j_aload_n C dX3_sum_1 rfl 0 rfl ?_
  refine j_iload_n C dX3_sum_2 rfl 1 rfl ?_
  refine j_iload_n C dX3_sum_3 rfl 2 rfl ?_
  refine j_iload_n C dX3_sum_4 rfl 3 rfl ?_
  refine j_callVi C hne mT_S hT (q0 := 0) (As := [.int i1, .int i2, .int i3]) (rest := [.ref (ad 0)]) (kX3_isPart hl n i1 i2 i3 st (zb_n hF hn)) (cwV 3 C.1.2.2.2.2 gX3_sum_X3_isPart rfl rfl rfl (by decide +kernel) ⟨(Nat.le_of_ble_eq_true rfl), (Nat.le_of_ble_eq_true rfl)⟩) (by decide) mce_0 rfl rfl rfl (Nat.le_of_ble_eq_true rfl) dX3_sum_5 ⟨(Nat.le_of_ble_eq_true rfl), (Nat.le_of_ble_eq_true rfl)⟩ (fun _ _ h9 => zb_x hF h9) (Nat.le_of_ble_eq_true rfl) (Nat.le_of_ble_eq_true rfl) (fun v2 u1 h3 => ?_)
  replace hF := zb_l hF h3
  refine j_if_ne (tgt := 15) C dX3_sum_8 (by decide) (fun c4 => ?_) (fun c4 => ?_)
  · replace hF := zif_f hF c4
    refine j_iconst (v := (0 : Int32)) C dX3_sum_15 (by decide) ?_
    refine j_iconst (v := (0 : Int32)) C dX3_sum_16 (by decide) ?_
    refine j_callVi C hne mT_S hT (q0 := 0) (As := [.int (0 : Int32), .int (0 : Int32)]) (rest := []) (kX3_refuses hl n (0 : Int32) (0 : Int32) u1 (zb_n hF hn)) (cwV 2 C.1.2.2.2.2 gX3_sum_X3_refuses rfl rfl rfl (by decide +kernel) ⟨(Nat.le_of_ble_eq_true rfl), (Nat.le_of_ble_eq_true rfl)⟩) (by decide) mce_0 rfl rfl rfl (Nat.le_of_ble_eq_true rfl) dX3_sum_17 ⟨(Nat.le_of_ble_eq_true rfl), (Nat.le_of_ble_eq_true rfl)⟩ (fun _ _ h9 => zb_x hF h9) (Nat.le_of_ble_eq_true rfl) (Nat.le_of_ble_eq_true rfl) (fun v6 u5 h7 => ?_)
    replace hF := zb_l hF h7
    refine j_if_eq (tgt := 25) C dX3_sum_20 (by decide) (fun c8 => ?_) (fun c8 => ?_)
    · replace hF := zif_t hF c8
      refine j_lconst (v := (0 : Int64)) C dX3_sum_25 (by decide) ?_
      refine j_lstore (lv' := [(4, .long (0 : Int64)), (0, .ref (ad 0)), (1, .int i1), (2, .int i2), (3, .int i3)]) C dX3_sum_26 (by decide) rfl ?_
      refine j_iload_n C dX3_sum_28 rfl 3 rfl ?_
      refine j_istore (lv' := [(6, .int i2), (4, .long (0 : Int64)), (0, .ref (ad 0)), (1, .int i1), (2, .int i2), (3, .int i3)]) C dX3_sum_29 (by decide) rfl ?_
      refine j_sub [2, 3, 5, 1, 0] rfl ?_
      refine wX3_sum_31 C hne hl hT hr hn n ?_ n i1 i3 (0 : Int64) i2 u5 hF
      · intro l4 st hF
        refine j_lload C dX3_sum_62 0 rfl ?_
        exact j_lret C hr hF (Nat.le_of_ble_eq_true rfl) (Nat.le_of_ble_eq_true rfl) dX3_sum_64
    · replace hF := zif_f hF c8
      refine j_lconst (v := (0 : Int64)) C dX3_sum_23 (by decide) ?_
      exact j_lret C hr hF (Nat.le_of_ble_eq_true rfl) (Nat.le_of_ble_eq_true rfl) dX3_sum_24
  · replace hF := zif_t hF c4
    refine j_iconst (v := (1 : Int32)) C dX3_sum_11 (by decide) ?_
    refine j_goto (tgt := 16) C dX3_sum_12 (by decide) ?_
    refine j_iconst (v := (0 : Int32)) C dX3_sum_16 (by decide) ?_
    refine j_callVi C hne mT_S hT (q0 := 0) (As := [.int (1 : Int32), .int (0 : Int32)]) (rest := []) (kX3_refuses hl n (1 : Int32) (0 : Int32) u1 (zb_n hF hn)) (cwV 2 C.1.2.2.2.2 gX3_sum_X3_refuses rfl rfl rfl (by decide +kernel) ⟨(Nat.le_of_ble_eq_true rfl), (Nat.le_of_ble_eq_true rfl)⟩) (by decide) mce_0 rfl rfl rfl (Nat.le_of_ble_eq_true rfl) dX3_sum_17 ⟨(Nat.le_of_ble_eq_true rfl), (Nat.le_of_ble_eq_true rfl)⟩ (fun _ _ h9 => zb_x hF h9) (Nat.le_of_ble_eq_true rfl) (Nat.le_of_ble_eq_true rfl) (fun v12 u11 h13 => ?_)
    replace hF := zb_l hF h13
    refine j_if_eq (tgt := 25) C dX3_sum_20 (by decide) (fun c14 => ?_) (fun c14 => ?_)
    · replace hF := zif_t hF c14
      refine j_lconst (v := (0 : Int64)) C dX3_sum_25 (by decide) ?_
      refine j_lstore (lv' := [(4, .long (0 : Int64)), (0, .ref (ad 0)), (1, .int i1), (2, .int i2), (3, .int i3)]) C dX3_sum_26 (by decide) rfl ?_
      refine j_iload_n C dX3_sum_28 rfl 3 rfl ?_
      refine j_istore (lv' := [(6, .int i2), (4, .long (0 : Int64)), (0, .ref (ad 0)), (1, .int i1), (2, .int i2), (3, .int i3)]) C dX3_sum_29 (by decide) rfl ?_
      refine j_sub [2, 3, 5, 1, 0] rfl ?_
      refine wX3_sum_31 C hne hl hT hr hn n ?_ n i1 i3 (0 : Int64) i2 u11 hF
      · intro l4 st hF
        refine j_lload C dX3_sum_62 0 rfl ?_
        exact j_lret C hr hF (Nat.le_of_ble_eq_true rfl) (Nat.le_of_ble_eq_true rfl) dX3_sum_64
    · replace hF := zif_f hF c14
      refine j_lconst (v := (0 : Int64)) C dX3_sum_23 (by decide) ?_
      exact j_lret C hr hF (Nat.le_of_ble_eq_true rfl) (Nat.le_of_ble_eq_true rfl) dX3_sum_24
end
/-! X3_bound -/
def rmX3_bound : Room := { frames := 12, cells := 0, slots := 0, locals := 200 }
theorem in_X3_bound_wsX30 : ∀ w ∈ wsX30, w ∈ wsX3_bound := by decide +kernel
section
variable {p : Program} {l : Launch} {e : Env} {s : State} {m : MethodId} {args : Array Value} {below : List Frame} {meth : Method} {c : Code} {D : va_G} {cI cZ : ClassId} {ad : Nat → Nat}
def fX3_bound_53 (n : Nat) (X_118 : Int32 → zS → zF Int32) : Nat → Int32 → Int32 → Int32 → Int32 → Int32 → zS → zF Int32
  | 0, _, _, _, _, _, _ => none
  | k + 1, i1, i3, i4, i5, i6, st => (if i3 ≤ i6 then X_118 i5 st else (if inb (((4096 : Int32) * i1) + i6) (ml 3) then (if i4 = 0 then (if i5 ≤ (st 3 ((((4096 : Int32) * i1) + i6)).toNatClampNeg) then fX3_bound_53 n X_118 k i1 i3 i4 i5 (i6 + (1 : Int32)) st else fX3_bound_53 n X_118 k i1 i3 i4 (st 3 ((((4096 : Int32) * i1) + i6)).toNatClampNeg) (i6 + (1 : Int32)) st) else (if (st 3 ((((4096 : Int32) * i1) + i6)).toNatClampNeg) ≤ i5 then fX3_bound_53 n X_118 k i1 i3 i4 i5 (i6 + (1 : Int32)) st else fX3_bound_53 n X_118 k i1 i3 i4 (st 3 ((((4096 : Int32) * i1) + i6)).toNatClampNeg) (i6 + (1 : Int32)) st)) else none))
set_option maxHeartbeats 4000000 in
set_option maxRecDepth 100000 in
theorem wX3_bound_53 (C : zC p s m args meth c cX3_bound RX3 wsX3_bound D zcl (mty cI cZ) 7 ad 8) (hne : ∀ x ∈ c.exceptionTable.toList, False) (hl : l.stackTraces = false) (hT : mT s.heap.size s) (hr : meth.sig.returnType = (some .int)) {F : zF Int32} (hn : F ≠ none) (n : Nat) {X_118 : Int32 → zS → zF Int32} (hX_118 : ∀ (i5 : Int32) (st : zS), X_118 i5 st = F → mJ (fun v : Int32 => some (.int v)) F 0 0 p l e rmX3_bound s m args below meth c D cI cZ ad 8 st 0 0 118 [(5, .int i5)] []) : ∀ (k : Nat) (i1 : Int32) (i3 : Int32) (i4 : Int32) (i5 : Int32) (i6 : Int32) (st : zS), fX3_bound_53 n X_118 k i1 i3 i4 i5 i6 st = F → mJ (fun v : Int32 => some (.int v)) F 0 0 p l e rmX3_bound s m args below meth c D cI cZ ad 8 st 0 0 53 [(0, .ref (ad 0)), (1, .int i1), (3, .int i3), (4, .int i4), (5, .int i5), (6, .int i6)] [] := by
  intro k
  induction k with
  | zero =>
    intro i1 i3 i4 i5 i6 st hF
    exact absurd hF.symm hn
  | succ k ih =>
    intro i1 i3 i4 i5 i6 st hF
    rw [fX3_bound_53] at hF
    refine j_iload C dX3_bound_53 5 rfl ?_
    refine j_iload_n C dX3_bound_55 rfl 2 rfl ?_
    refine j_icmp_ge (tgt := 118) C dX3_bound_56 (by decide) (fun c10 => ?_) (fun c10 => ?_)
    · replace hF := zif_t hF c10
      refine j_sub [4] rfl ?_
      exact hX_118 i5 st hF
    · replace hF := zif_f hF c10
      refine j_aload_n C dX3_bound_59 rfl 0 rfl ?_
      refine m_get0 C in_X3_bound_wsX30 3 (by decide) (by decide +kernel) rfl dX3_bound_60 ?_
      refine j_sipush (v := (4096 : Int32)) C dX3_bound_63 (by decide) ?_
      refine j_iload_n C dX3_bound_66 rfl 1 rfl ?_
      refine j_imul C dX3_bound_67 ?_
      refine j_iload C dX3_bound_68 5 rfl ?_
      refine j_iadd C dX3_bound_70 ?_
      have b11 := zif_c hF hn
      replace hF := zif_t hF b11
      refine m_iald C (by decide) b11 dX3_bound_71 ?_
      refine j_istore (lv' := [(7, .int (st 3 ((((4096 : Int32) * i1) + i6)).toNatClampNeg)), (0, .ref (ad 0)), (1, .int i1), (3, .int i3), (4, .int i4), (5, .int i5), (6, .int i6)]) C dX3_bound_72 (by decide) rfl ?_
      refine j_iload C dX3_bound_74 4 rfl ?_
      refine j_if_ne (tgt := 96) C dX3_bound_76 (by decide) (fun c12 => ?_) (fun c12 => ?_)
      · replace hF := zif_f hF c12
        refine j_iload C dX3_bound_96 0 rfl ?_
        refine j_iload C dX3_bound_98 5 rfl ?_
        refine j_icmp_le (tgt := 108) C dX3_bound_100 (by decide) (fun c13 => ?_) (fun c13 => ?_)
        · replace hF := zif_t hF c13
          refine j_iload C dX3_bound_108 5 rfl ?_
          refine j_istore (lv' := [(5, .int i5), (7, .int (st 3 ((((4096 : Int32) * i1) + i6)).toNatClampNeg)), (0, .ref (ad 0)), (1, .int i1), (3, .int i3), (4, .int i4), (6, .int i6)]) C dX3_bound_110 (by decide) rfl ?_
          refine j_iinc (lv' := [(6, .int (i6 + (1 : Int32))), (5, .int i5), (7, .int (st 3 ((((4096 : Int32) * i1) + i6)).toNatClampNeg)), (0, .ref (ad 0)), (1, .int i1), (3, .int i3), (4, .int i4)]) C dX3_bound_112 6 rfl rfl (by decide) rfl ?_
          refine j_goto (tgt := 53) C dX3_bound_115 (by decide) ?_
          refine j_sub [3, 4, 5, 6, 1, 0] rfl ?_
          exact ih i1 i3 i4 i5 (i6 + (1 : Int32)) st hF
        · replace hF := zif_f hF c13
          refine j_iload C dX3_bound_103 0 rfl ?_
          refine j_goto (tgt := 110) C dX3_bound_105 (by decide) ?_
          refine j_istore (lv' := [(5, .int (st 3 ((((4096 : Int32) * i1) + i6)).toNatClampNeg)), (7, .int (st 3 ((((4096 : Int32) * i1) + i6)).toNatClampNeg)), (0, .ref (ad 0)), (1, .int i1), (3, .int i3), (4, .int i4), (6, .int i6)]) C dX3_bound_110 (by decide) rfl ?_
          refine j_iinc (lv' := [(6, .int (i6 + (1 : Int32))), (5, .int (st 3 ((((4096 : Int32) * i1) + i6)).toNatClampNeg)), (7, .int (st 3 ((((4096 : Int32) * i1) + i6)).toNatClampNeg)), (0, .ref (ad 0)), (1, .int i1), (3, .int i3), (4, .int i4)]) C dX3_bound_112 6 rfl rfl (by decide) rfl ?_
          refine j_goto (tgt := 53) C dX3_bound_115 (by decide) ?_
          refine j_sub [3, 4, 5, 6, 1, 0] rfl ?_
          exact ih i1 i3 i4 (st 3 ((((4096 : Int32) * i1) + i6)).toNatClampNeg) (i6 + (1 : Int32)) st hF
      · replace hF := zif_t hF c12
        refine j_iload C dX3_bound_79 0 rfl ?_
        refine j_iload C dX3_bound_81 5 rfl ?_
        refine j_icmp_ge (tgt := 91) C dX3_bound_83 (by decide) (fun c14 => ?_) (fun c14 => ?_)
        · replace hF := zif_t hF c14
          refine j_iload C dX3_bound_91 5 rfl ?_
          refine j_goto (tgt := 110) C dX3_bound_93 (by decide) ?_
          refine j_istore (lv' := [(5, .int i5), (7, .int (st 3 ((((4096 : Int32) * i1) + i6)).toNatClampNeg)), (0, .ref (ad 0)), (1, .int i1), (3, .int i3), (4, .int i4), (6, .int i6)]) C dX3_bound_110 (by decide) rfl ?_
          refine j_iinc (lv' := [(6, .int (i6 + (1 : Int32))), (5, .int i5), (7, .int (st 3 ((((4096 : Int32) * i1) + i6)).toNatClampNeg)), (0, .ref (ad 0)), (1, .int i1), (3, .int i3), (4, .int i4)]) C dX3_bound_112 6 rfl rfl (by decide) rfl ?_
          refine j_goto (tgt := 53) C dX3_bound_115 (by decide) ?_
          refine j_sub [3, 4, 5, 6, 1, 0] rfl ?_
          exact ih i1 i3 i4 i5 (i6 + (1 : Int32)) st hF
        · replace hF := zif_f hF c14
          refine j_iload C dX3_bound_86 0 rfl ?_
          refine j_goto (tgt := 110) C dX3_bound_88 (by decide) ?_
          refine j_istore (lv' := [(5, .int (st 3 ((((4096 : Int32) * i1) + i6)).toNatClampNeg)), (7, .int (st 3 ((((4096 : Int32) * i1) + i6)).toNatClampNeg)), (0, .ref (ad 0)), (1, .int i1), (3, .int i3), (4, .int i4), (6, .int i6)]) C dX3_bound_110 (by decide) rfl ?_
          refine j_iinc (lv' := [(6, .int (i6 + (1 : Int32))), (5, .int (st 3 ((((4096 : Int32) * i1) + i6)).toNatClampNeg)), (7, .int (st 3 ((((4096 : Int32) * i1) + i6)).toNatClampNeg)), (0, .ref (ad 0)), (1, .int i1), (3, .int i3), (4, .int i4)]) C dX3_bound_112 6 rfl rfl (by decide) rfl ?_
          refine j_goto (tgt := 53) C dX3_bound_115 (by decide) ?_
          refine j_sub [3, 4, 5, 6, 1, 0] rfl ?_
          exact ih i1 i3 i4 (st 3 ((((4096 : Int32) * i1) + i6)).toNatClampNeg) (i6 + (1 : Int32)) st hF
def fX3_bound_27 (n : Nat)  (i1 : Int32) (i2 : Int32) (i3 : Int32) (i4 : Int32) (it0 : Int32) (st : zS) : zF Int32 := (zb (fX3_refuses n it0 (0 : Int32) st) (fun (v6 : Int32) (u5 : zS) => (if v6 = 0 then (if i4 = 0 then fX3_bound_53 n (fun (i5 : Int32) (st : zS) => some (.inl i5, st)) n i1 i3 i4 ((2147483647) : Int32) i2 u5 else fX3_bound_53 n (fun (i5 : Int32) (st : zS) => some (.inl i5, st)) n i1 i3 i4 ((-2147483648) : Int32) i2 u5) else some (.inl (0 : Int32), u5))))
set_option maxHeartbeats 4000000 in
set_option maxRecDepth 100000 in
theorem wX3_bound_27 (C : zC p s m args meth c cX3_bound RX3 wsX3_bound D zcl (mty cI cZ) 7 ad 8) (hne : ∀ x ∈ c.exceptionTable.toList, False) (hl : l.stackTraces = false) (hT : mT s.heap.size s) (hr : meth.sig.returnType = (some .int)) {F : zF Int32} (hn : F ≠ none) (n : Nat)   : ∀ (i1 : Int32) (i2 : Int32) (i3 : Int32) (i4 : Int32) (it0 : Int32) (st : zS), fX3_bound_27 n  i1 i2 i3 i4 it0 st = F → mJ (fun v : Int32 => some (.int v)) F 0 0 p l e rmX3_bound s m args below meth c D cI cZ ad 8 st 0 0 27 [(0, .ref (ad 0)), (1, .int i1), (2, .int i2), (3, .int i3), (4, .int i4)] [.int it0, .ref (ad 0)] := by
  intro i1 i2 i3 i4 it0 st hF
  unfold fX3_bound_27 at hF
  refine j_iconst (v := (0 : Int32)) C dX3_bound_27 (by decide) ?_
  refine j_callVi C hne mT_S hT (q0 := 0) (As := [.int it0, .int (0 : Int32)]) (rest := []) (kX3_refuses hl n it0 (0 : Int32) st (zb_n hF hn)) (cwV 2 C.1.2.2.2.2 gX3_bound_X3_refuses rfl rfl rfl (by decide +kernel) ⟨(Nat.le_of_ble_eq_true rfl), (Nat.le_of_ble_eq_true rfl)⟩) (by decide) mce_0 rfl rfl rfl (Nat.le_of_ble_eq_true rfl) dX3_bound_28 ⟨(Nat.le_of_ble_eq_true rfl), (Nat.le_of_ble_eq_true rfl)⟩ (fun _ _ h9 => zb_x hF h9) (Nat.le_of_ble_eq_true rfl) (Nat.le_of_ble_eq_true rfl) (fun v6 u5 h7 => ?_)
  replace hF := zb_l hF h7
  refine j_if_eq (tgt := 36) C dX3_bound_31 (by decide) (fun c8 => ?_) (fun c8 => ?_)
  · replace hF := zif_t hF c8
    refine j_iload C dX3_bound_36 4 rfl ?_
    refine j_if_ne (tgt := 46) C dX3_bound_38 (by decide) (fun c9 => ?_) (fun c9 => ?_)
    · replace hF := zif_f hF c9
      refine j_ldc (v := ((-2147483648) : Int32)) C (by decide +kernel) dX3_bound_46 ?_
      refine j_istore (lv' := [(5, .int ((-2147483648) : Int32)), (0, .ref (ad 0)), (1, .int i1), (2, .int i2), (3, .int i3), (4, .int i4)]) C dX3_bound_48 (by decide) rfl ?_
      refine j_iload_n C dX3_bound_50 rfl 3 rfl ?_
      refine j_istore (lv' := [(6, .int i2), (5, .int ((-2147483648) : Int32)), (0, .ref (ad 0)), (1, .int i1), (2, .int i2), (3, .int i3), (4, .int i4)]) C dX3_bound_51 (by decide) rfl ?_
      refine j_sub [2, 3, 5, 6, 1, 0] rfl ?_
      refine wX3_bound_53 C hne hl hT hr hn n ?_ n i1 i3 i4 ((-2147483648) : Int32) i2 u5 hF
      · intro i5 st hF
        refine j_iload C dX3_bound_118 0 rfl ?_
        exact j_iret C hr hF (Nat.le_of_ble_eq_true rfl) (Nat.le_of_ble_eq_true rfl) dX3_bound_120
    · replace hF := zif_t hF c9
      refine j_ldc (v := ((2147483647) : Int32)) C (by decide +kernel) dX3_bound_41 ?_
      refine j_goto (tgt := 48) C dX3_bound_43 (by decide) ?_
      refine j_istore (lv' := [(5, .int ((2147483647) : Int32)), (0, .ref (ad 0)), (1, .int i1), (2, .int i2), (3, .int i3), (4, .int i4)]) C dX3_bound_48 (by decide) rfl ?_
      refine j_iload_n C dX3_bound_50 rfl 3 rfl ?_
      refine j_istore (lv' := [(6, .int i2), (5, .int ((2147483647) : Int32)), (0, .ref (ad 0)), (1, .int i1), (2, .int i2), (3, .int i3), (4, .int i4)]) C dX3_bound_51 (by decide) rfl ?_
      refine j_sub [2, 3, 5, 6, 1, 0] rfl ?_
      refine wX3_bound_53 C hne hl hT hr hn n ?_ n i1 i3 i4 ((2147483647) : Int32) i2 u5 hF
      · intro i5 st hF
        refine j_iload C dX3_bound_118 0 rfl ?_
        exact j_iret C hr hF (Nat.le_of_ble_eq_true rfl) (Nat.le_of_ble_eq_true rfl) dX3_bound_120
  · replace hF := zif_f hF c8
    refine j_iconst (v := (0 : Int32)) C dX3_bound_34 (by decide) ?_
    exact j_iret C hr hF (Nat.le_of_ble_eq_true rfl) (Nat.le_of_ble_eq_true rfl) dX3_bound_35
def fX3_bound_22 (n : Nat)  (i1 : Int32) (i2 : Int32) (i3 : Int32) (i4 : Int32) (st : zS) : zF Int32 := fX3_bound_27 n i1 i2 i3 i4 (1 : Int32) st
set_option maxHeartbeats 4000000 in
set_option maxRecDepth 100000 in
theorem wX3_bound_22 (C : zC p s m args meth c cX3_bound RX3 wsX3_bound D zcl (mty cI cZ) 7 ad 8) (hne : ∀ x ∈ c.exceptionTable.toList, False) (hl : l.stackTraces = false) (hT : mT s.heap.size s) (hr : meth.sig.returnType = (some .int)) {F : zF Int32} (hn : F ≠ none) (n : Nat)   : ∀ (i1 : Int32) (i2 : Int32) (i3 : Int32) (i4 : Int32) (st : zS), fX3_bound_22 n  i1 i2 i3 i4 st = F → mJ (fun v : Int32 => some (.int v)) F 0 0 p l e rmX3_bound s m args below meth c D cI cZ ad 8 st 0 0 22 [(0, .ref (ad 0)), (1, .int i1), (2, .int i2), (3, .int i3), (4, .int i4)] [.ref (ad 0)] := by
  intro i1 i2 i3 i4 st hF
  unfold fX3_bound_22 at hF
  refine j_iconst (v := (1 : Int32)) C dX3_bound_22 (by decide) ?_
  refine j_goto (tgt := 27) C dX3_bound_23 (by decide) ?_
  refine wX3_bound_27 C hne hl hT hr hn n  i1 i2 i3 i4 (1 : Int32) st hF
def fX3_bound (n : Nat) (i1 : Int32) (i2 : Int32) (i3 : Int32) (i4 : Int32) (st : zS) : zF Int32 := (zb (fX3_isPart n i1 i2 i3 st) (fun (v2 : Int32) (u1 : zS) => (if v2 = 0 then fX3_bound_22 n i1 i2 i3 i4 u1 else (if i4 < 0 then fX3_bound_22 n i1 i2 i3 i4 u1 else (if i4 ≤ (1 : Int32) then fX3_bound_27 n i1 i2 i3 i4 (0 : Int32) u1 else fX3_bound_22 n i1 i2 i3 i4 u1)))))
set_option maxHeartbeats 4000000 in
set_option maxRecDepth 100000 in
theorem kX3_bound (hl : l.stackTraces = false) (n : Nat) (i1 : Int32) (i2 : Int32) (i3 : Int32) (i4 : Int32) (st : zS) (hn : fX3_bound n i1 i2 i3 i4 st ≠ none) : zM (fun v : Int32 => some (.int v)) l yX3_bound wsX3_bound rmX3_bound D zcl (mty cI cZ) 7 ad (mce cI cZ ad) mT 0 0 [.ref (ad 0), .int i1, .int i2, .int i3, .int i4] st (fX3_bound n i1 i2 i3 i4 st) := by
  refine z_ofJ (cc := cX3_bound) (maxL := 8) (ret := (some .int)) (lv := [(0, .ref (ad 0)), (1, .int i1), (2, .int i2), (3, .int i3), (4, .int i4)]) (by decide) rfl (Nat.le_of_ble_eq_true rfl) rfl ?_
  intro p e s m args below meth c C hne hT hr
  obtain ⟨F, hFe⟩ : ∃ F, F = fX3_bound n i1 i2 i3 i4 st := ⟨_, rfl⟩
  rw [← hFe] at hn ⊢
  have hF : fX3_bound n i1 i2 i3 i4 st = F := hFe.symm
  clear hFe
  unfold fX3_bound at hF
  have C : zC p s m args meth c cX3_bound RX3 wsX3_bound D zcl (mty cI cZ) 7 ad 8 := C
  refine j_aload_n C dX3_bound_0 rfl 0 rfl ?_
  refine j_aload_n C dX3_bound_1 rfl 0 rfl ?_
  refine j_iload_n C dX3_bound_2 rfl 1 rfl ?_
  refine j_iload_n C dX3_bound_3 rfl 2 rfl ?_
  refine j_iload_n C dX3_bound_4 rfl 3 rfl ?_
  refine j_callVi C hne mT_S hT (q0 := 0) (As := [.int i1, .int i2, .int i3]) (rest := [.ref (ad 0)]) (kX3_isPart hl n i1 i2 i3 st (zb_n hF hn)) (cwV 3 C.1.2.2.2.2 gX3_bound_X3_isPart rfl rfl rfl (by decide +kernel) ⟨(Nat.le_of_ble_eq_true rfl), (Nat.le_of_ble_eq_true rfl)⟩) (by decide) mce_0 rfl rfl rfl (Nat.le_of_ble_eq_true rfl) dX3_bound_5 ⟨(Nat.le_of_ble_eq_true rfl), (Nat.le_of_ble_eq_true rfl)⟩ (fun _ _ h9 => zb_x hF h9) (Nat.le_of_ble_eq_true rfl) (Nat.le_of_ble_eq_true rfl) (fun v2 u1 h3 => ?_)
  replace hF := zb_l hF h3
  refine j_if_eq (tgt := 22) C dX3_bound_8 (by decide) (fun c4 => ?_) (fun c4 => ?_)
  · replace hF := zif_t hF c4
    refine wX3_bound_22 C hne hl hT hr hn n  i1 i2 i3 i4 u1 hF
  · replace hF := zif_f hF c4
    refine j_iload C dX3_bound_11 4 rfl ?_
    refine j_if_lt (tgt := 22) C dX3_bound_13 (by decide) (fun c15 => ?_) (fun c15 => ?_)
    · replace hF := zif_t hF c15
      refine wX3_bound_22 C hne hl hT hr hn n  i1 i2 i3 i4 u1 hF
    · replace hF := zif_f hF c15
      refine j_iload C dX3_bound_16 4 rfl ?_
      refine j_iconst (v := (1 : Int32)) C dX3_bound_18 (by decide) ?_
      refine j_icmp_le (tgt := 26) C dX3_bound_19 (by decide) (fun c16 => ?_) (fun c16 => ?_)
      · replace hF := zif_t hF c16
        refine j_iconst (v := (0 : Int32)) C dX3_bound_26 (by decide) ?_
        refine wX3_bound_27 C hne hl hT hr hn n  i1 i2 i3 i4 (0 : Int32) u1 hF
      · replace hF := zif_f hF c16
        refine wX3_bound_22 C hne hl hT hr hn n  i1 i2 i3 i4 u1 hF
end
/-! X3_find -/
def rmX3_find : Room := { frames := 11, cells := 0, slots := 0, locals := 160 }
theorem in_X3_find_wsX30 : ∀ w ∈ wsX30, w ∈ wsX3_find := by decide +kernel
section
variable {p : Program} {l : Launch} {e : Env} {s : State} {m : MethodId} {args : Array Value} {below : List Frame} {meth : Method} {c : Code} {D : va_G} {cI cZ : ClassId} {ad : Nat → Nat}
def fX3_find_40 (n : Nat) (X_77 : zS → zF Int32) (X_68 : Int32 → zS → zF Int32) : Nat → Int32 → Int32 → Int32 → zS → zF Int32
  | 0, _, _, _, _ => none
  | k + 1, i1, i3, i4, st => (if inb i1 (ml 2) then (if (st 2 (i1).toNatClampNeg) ≤ i4 then X_77 st else (if inb (((4096 : Int32) * i1) + i4) (ml 3) then (if (st 3 ((((4096 : Int32) * i1) + i4)).toNatClampNeg) = i3 then X_68 i4 st else fX3_find_40 n X_77 X_68 k i1 i3 (i4 + (1 : Int32)) st) else none)) else none)
set_option maxHeartbeats 4000000 in
set_option maxRecDepth 100000 in
theorem wX3_find_40 (C : zC p s m args meth c cX3_find RX3 wsX3_find D zcl (mty cI cZ) 7 ad 5) (hne : ∀ x ∈ c.exceptionTable.toList, False) (hl : l.stackTraces = false) (hT : mT s.heap.size s) (hr : meth.sig.returnType = (some .int)) {F : zF Int32} (hn : F ≠ none) (n : Nat) {X_77 : zS → zF Int32} {X_68 : Int32 → zS → zF Int32} (hX_77 : ∀  (st : zS), X_77 st = F → mJ (fun v : Int32 => some (.int v)) F 0 0 p l e rmX3_find s m args below meth c D cI cZ ad 5 st 0 0 77 [] []) (hX_68 : ∀ (i4 : Int32) (st : zS), X_68 i4 st = F → mJ (fun v : Int32 => some (.int v)) F 0 0 p l e rmX3_find s m args below meth c D cI cZ ad 5 st 0 0 68 [(4, .int i4)] []) : ∀ (k : Nat) (i1 : Int32) (i3 : Int32) (i4 : Int32) (st : zS), fX3_find_40 n X_77 X_68 k i1 i3 i4 st = F → mJ (fun v : Int32 => some (.int v)) F 0 0 p l e rmX3_find s m args below meth c D cI cZ ad 5 st 0 0 40 [(0, .ref (ad 0)), (1, .int i1), (3, .int i3), (4, .int i4)] [] := by
  intro k
  induction k with
  | zero =>
    intro i1 i3 i4 st hF
    exact absurd hF.symm hn
  | succ k ih =>
    intro i1 i3 i4 st hF
    rw [fX3_find_40] at hF
    refine j_iload C dX3_find_40 3 rfl ?_
    refine j_aload_n C dX3_find_42 rfl 0 rfl ?_
    refine m_get0 C in_X3_find_wsX30 2 (by decide) (by decide +kernel) rfl dX3_find_43 ?_
    refine j_iload_n C dX3_find_46 rfl 1 rfl ?_
    have b9 := zif_c hF hn
    replace hF := zif_t hF b9
    refine m_iald C (by decide) b9 dX3_find_47 ?_
    refine j_icmp_ge (tgt := 77) C dX3_find_48 (by decide) (fun c10 => ?_) (fun c10 => ?_)
    · replace hF := zif_t hF c10
      refine j_sub [] rfl ?_
      exact hX_77 st hF
    · replace hF := zif_f hF c10
      refine j_aload_n C dX3_find_51 rfl 0 rfl ?_
      refine m_get0 C in_X3_find_wsX30 3 (by decide) (by decide +kernel) rfl dX3_find_52 ?_
      refine j_sipush (v := (4096 : Int32)) C dX3_find_55 (by decide) ?_
      refine j_iload_n C dX3_find_58 rfl 1 rfl ?_
      refine j_imul C dX3_find_59 ?_
      refine j_iload C dX3_find_60 3 rfl ?_
      refine j_iadd C dX3_find_62 ?_
      have b11 := zif_c hF hn
      replace hF := zif_t hF b11
      refine m_iald C (by decide) b11 dX3_find_63 ?_
      refine j_iload_n C dX3_find_64 rfl 2 rfl ?_
      refine j_icmp_ne (tgt := 71) C dX3_find_65 (by decide) (fun c12 => ?_) (fun c12 => ?_)
      · replace hF := zif_f hF c12
        refine j_iinc (lv' := [(4, .int (i4 + (1 : Int32))), (0, .ref (ad 0)), (1, .int i1), (3, .int i3)]) C dX3_find_71 3 rfl rfl (by decide) rfl ?_
        refine j_goto (tgt := 40) C dX3_find_74 (by decide) ?_
        refine j_sub [1, 2, 3, 0] rfl ?_
        exact ih i1 i3 (i4 + (1 : Int32)) st hF
      · replace hF := zif_t hF c12
        refine j_sub [3] rfl ?_
        exact hX_68 i4 st hF
def fX3_find (n : Nat) (i1 : Int32) (i2 : Int32) (i3 : Int32) (st : zS) : zF Int32 := (zb (fX3_isArray n i1 st) (fun (v2 : Int32) (u1 : zS) => (if v2 = 0 then (zb (fX3_refuses n (1 : Int32) (0 : Int32) u1) (fun (v6 : Int32) (u5 : zS) => (if v6 = 0 then fX3_find_40 n (fun  (st : zS) => some (.inl ((-1) : Int32), st)) (fun (i4 : Int32) (st : zS) => some (.inl i4, st)) n i1 i3 i2 u5 else some (.inl (0 : Int32), u5)))) else (if i2 < 0 then (zb (fX3_refuses n (1 : Int32) (0 : Int32) u1) (fun (v15 : Int32) (u14 : zS) => (if v15 = 0 then fX3_find_40 n (fun  (st : zS) => some (.inl ((-1) : Int32), st)) (fun (i4 : Int32) (st : zS) => some (.inl i4, st)) n i1 i3 i2 u14 else some (.inl (0 : Int32), u14)))) else (if inb i1 (ml 2) then (if i2 ≤ (u1 2 (i1).toNatClampNeg) then (zb (fX3_refuses n (0 : Int32) (0 : Int32) u1) (fun (v21 : Int32) (u20 : zS) => (if v21 = 0 then fX3_find_40 n (fun  (st : zS) => some (.inl ((-1) : Int32), st)) (fun (i4 : Int32) (st : zS) => some (.inl i4, st)) n i1 i3 i2 u20 else some (.inl (0 : Int32), u20)))) else (zb (fX3_refuses n (1 : Int32) (0 : Int32) u1) (fun (v25 : Int32) (u24 : zS) => (if v25 = 0 then fX3_find_40 n (fun  (st : zS) => some (.inl ((-1) : Int32), st)) (fun (i4 : Int32) (st : zS) => some (.inl i4, st)) n i1 i3 i2 u24 else some (.inl (0 : Int32), u24))))) else none)))))
set_option maxHeartbeats 4000000 in
set_option maxRecDepth 100000 in
theorem kX3_find (hl : l.stackTraces = false) (n : Nat) (i1 : Int32) (i2 : Int32) (i3 : Int32) (st : zS) (hn : fX3_find n i1 i2 i3 st ≠ none) : zM (fun v : Int32 => some (.int v)) l yX3_find wsX3_find rmX3_find D zcl (mty cI cZ) 7 ad (mce cI cZ ad) mT 0 0 [.ref (ad 0), .int i1, .int i2, .int i3] st (fX3_find n i1 i2 i3 st) := by
  refine z_ofJ (cc := cX3_find) (maxL := 5) (ret := (some .int)) (lv := [(0, .ref (ad 0)), (1, .int i1), (2, .int i2), (3, .int i3)]) (by decide) rfl (Nat.le_of_ble_eq_true rfl) rfl ?_
  intro p e s m args below meth c C hne hT hr
  obtain ⟨F, hFe⟩ : ∃ F, F = fX3_find n i1 i2 i3 st := ⟨_, rfl⟩
  rw [← hFe] at hn ⊢
  have hF : fX3_find n i1 i2 i3 st = F := hFe.symm
  clear hFe
  unfold fX3_find at hF
  have C : zC p s m args meth c cX3_find RX3 wsX3_find D zcl (mty cI cZ) 7 ad 5 := C
  refine j_aload_n C dX3_find_0 rfl 0 rfl ?_
  refine j_aload_n C dX3_find_1 rfl 0 rfl ?_
  refine j_iload_n C dX3_find_2 rfl 1 rfl ?_
  refine j_callVi C hne mT_S hT (q0 := 0) (As := [.int i1]) (rest := [.ref (ad 0)]) (kX3_isArray hl n i1 st (zb_n hF hn)) (cwV 1 C.1.2.2.2.2 gX3_find_X3_isArray rfl rfl rfl (by decide +kernel) ⟨(Nat.le_of_ble_eq_true rfl), (Nat.le_of_ble_eq_true rfl)⟩) (by decide) mce_0 rfl rfl rfl (Nat.le_of_ble_eq_true rfl) dX3_find_3 ⟨(Nat.le_of_ble_eq_true rfl), (Nat.le_of_ble_eq_true rfl)⟩ (fun _ _ h9 => zb_x hF h9) (Nat.le_of_ble_eq_true rfl) (Nat.le_of_ble_eq_true rfl) (fun v2 u1 h3 => ?_)
  replace hF := zb_l hF h3
  refine j_if_eq (tgt := 23) C dX3_find_6 (by decide) (fun c4 => ?_) (fun c4 => ?_)
  · replace hF := zif_t hF c4
    refine j_iconst (v := (1 : Int32)) C dX3_find_23 (by decide) ?_
    refine j_goto (tgt := 28) C dX3_find_24 (by decide) ?_
    refine j_iconst (v := (0 : Int32)) C dX3_find_28 (by decide) ?_
    refine j_callVi C hne mT_S hT (q0 := 0) (As := [.int (1 : Int32), .int (0 : Int32)]) (rest := []) (kX3_refuses hl n (1 : Int32) (0 : Int32) u1 (zb_n hF hn)) (cwV 2 C.1.2.2.2.2 gX3_find_X3_refuses rfl rfl rfl (by decide +kernel) ⟨(Nat.le_of_ble_eq_true rfl), (Nat.le_of_ble_eq_true rfl)⟩) (by decide) mce_0 rfl rfl rfl (Nat.le_of_ble_eq_true rfl) dX3_find_29 ⟨(Nat.le_of_ble_eq_true rfl), (Nat.le_of_ble_eq_true rfl)⟩ (fun _ _ h9 => zb_x hF h9) (Nat.le_of_ble_eq_true rfl) (Nat.le_of_ble_eq_true rfl) (fun v6 u5 h7 => ?_)
    replace hF := zb_l hF h7
    refine j_if_eq (tgt := 37) C dX3_find_32 (by decide) (fun c8 => ?_) (fun c8 => ?_)
    · replace hF := zif_t hF c8
      refine j_iload_n C dX3_find_37 rfl 2 rfl ?_
      refine j_istore (lv' := [(4, .int i2), (0, .ref (ad 0)), (1, .int i1), (2, .int i2), (3, .int i3)]) C dX3_find_38 (by decide) rfl ?_
      refine j_sub [1, 2, 4, 0] rfl ?_
      refine wX3_find_40 C hne hl hT hr hn n ?_ ?_ n i1 i3 i2 u5 hF
      · intro  st hF
        refine j_iconst (v := ((-1) : Int32)) C dX3_find_77 (by decide) ?_
        exact j_iret C hr hF (Nat.le_of_ble_eq_true rfl) (Nat.le_of_ble_eq_true rfl) dX3_find_78
      · intro i4 st hF
        refine j_iload C dX3_find_68 0 rfl ?_
        exact j_iret C hr hF (Nat.le_of_ble_eq_true rfl) (Nat.le_of_ble_eq_true rfl) dX3_find_70
    · replace hF := zif_f hF c8
      refine j_iconst (v := (0 : Int32)) C dX3_find_35 (by decide) ?_
      exact j_iret C hr hF (Nat.le_of_ble_eq_true rfl) (Nat.le_of_ble_eq_true rfl) dX3_find_36
  · replace hF := zif_f hF c4
    refine j_iload_n C dX3_find_9 rfl 2 rfl ?_
    refine j_if_lt (tgt := 23) C dX3_find_10 (by decide) (fun c13 => ?_) (fun c13 => ?_)
    · replace hF := zif_t hF c13
      refine j_iconst (v := (1 : Int32)) C dX3_find_23 (by decide) ?_
      refine j_goto (tgt := 28) C dX3_find_24 (by decide) ?_
      refine j_iconst (v := (0 : Int32)) C dX3_find_28 (by decide) ?_
      refine j_callVi C hne mT_S hT (q0 := 0) (As := [.int (1 : Int32), .int (0 : Int32)]) (rest := []) (kX3_refuses hl n (1 : Int32) (0 : Int32) u1 (zb_n hF hn)) (cwV 2 C.1.2.2.2.2 gX3_find_X3_refuses rfl rfl rfl (by decide +kernel) ⟨(Nat.le_of_ble_eq_true rfl), (Nat.le_of_ble_eq_true rfl)⟩) (by decide) mce_0 rfl rfl rfl (Nat.le_of_ble_eq_true rfl) dX3_find_29 ⟨(Nat.le_of_ble_eq_true rfl), (Nat.le_of_ble_eq_true rfl)⟩ (fun _ _ h9 => zb_x hF h9) (Nat.le_of_ble_eq_true rfl) (Nat.le_of_ble_eq_true rfl) (fun v15 u14 h16 => ?_)
      replace hF := zb_l hF h16
      refine j_if_eq (tgt := 37) C dX3_find_32 (by decide) (fun c17 => ?_) (fun c17 => ?_)
      · replace hF := zif_t hF c17
        refine j_iload_n C dX3_find_37 rfl 2 rfl ?_
        refine j_istore (lv' := [(4, .int i2), (0, .ref (ad 0)), (1, .int i1), (2, .int i2), (3, .int i3)]) C dX3_find_38 (by decide) rfl ?_
        refine j_sub [1, 2, 4, 0] rfl ?_
        refine wX3_find_40 C hne hl hT hr hn n ?_ ?_ n i1 i3 i2 u14 hF
        · intro  st hF
          refine j_iconst (v := ((-1) : Int32)) C dX3_find_77 (by decide) ?_
          exact j_iret C hr hF (Nat.le_of_ble_eq_true rfl) (Nat.le_of_ble_eq_true rfl) dX3_find_78
        · intro i4 st hF
          refine j_iload C dX3_find_68 0 rfl ?_
          exact j_iret C hr hF (Nat.le_of_ble_eq_true rfl) (Nat.le_of_ble_eq_true rfl) dX3_find_70
      · replace hF := zif_f hF c17
        refine j_iconst (v := (0 : Int32)) C dX3_find_35 (by decide) ?_
        exact j_iret C hr hF (Nat.le_of_ble_eq_true rfl) (Nat.le_of_ble_eq_true rfl) dX3_find_36
    · replace hF := zif_f hF c13
      refine j_iload_n C dX3_find_13 rfl 2 rfl ?_
      refine j_aload_n C dX3_find_14 rfl 0 rfl ?_
      refine m_get0 C in_X3_find_wsX30 2 (by decide) (by decide +kernel) rfl dX3_find_15 ?_
      refine j_iload_n C dX3_find_18 rfl 1 rfl ?_
      have b18 := zif_c hF hn
      replace hF := zif_t hF b18
      refine m_iald C (by decide) b18 dX3_find_19 ?_
      refine j_icmp_le (tgt := 27) C dX3_find_20 (by decide) (fun c19 => ?_) (fun c19 => ?_)
      · replace hF := zif_t hF c19
        refine j_iconst (v := (0 : Int32)) C dX3_find_27 (by decide) ?_
        refine j_iconst (v := (0 : Int32)) C dX3_find_28 (by decide) ?_
        refine j_callVi C hne mT_S hT (q0 := 0) (As := [.int (0 : Int32), .int (0 : Int32)]) (rest := []) (kX3_refuses hl n (0 : Int32) (0 : Int32) u1 (zb_n hF hn)) (cwV 2 C.1.2.2.2.2 gX3_find_X3_refuses rfl rfl rfl (by decide +kernel) ⟨(Nat.le_of_ble_eq_true rfl), (Nat.le_of_ble_eq_true rfl)⟩) (by decide) mce_0 rfl rfl rfl (Nat.le_of_ble_eq_true rfl) dX3_find_29 ⟨(Nat.le_of_ble_eq_true rfl), (Nat.le_of_ble_eq_true rfl)⟩ (fun _ _ h9 => zb_x hF h9) (Nat.le_of_ble_eq_true rfl) (Nat.le_of_ble_eq_true rfl) (fun v21 u20 h22 => ?_)
        replace hF := zb_l hF h22
        refine j_if_eq (tgt := 37) C dX3_find_32 (by decide) (fun c23 => ?_) (fun c23 => ?_)
        · replace hF := zif_t hF c23
          refine j_iload_n C dX3_find_37 rfl 2 rfl ?_
          refine j_istore (lv' := [(4, .int i2), (0, .ref (ad 0)), (1, .int i1), (2, .int i2), (3, .int i3)]) C dX3_find_38 (by decide) rfl ?_
          refine j_sub [1, 2, 4, 0] rfl ?_
          refine wX3_find_40 C hne hl hT hr hn n ?_ ?_ n i1 i3 i2 u20 hF
          · intro  st hF
            refine j_iconst (v := ((-1) : Int32)) C dX3_find_77 (by decide) ?_
            exact j_iret C hr hF (Nat.le_of_ble_eq_true rfl) (Nat.le_of_ble_eq_true rfl) dX3_find_78
          · intro i4 st hF
            refine j_iload C dX3_find_68 0 rfl ?_
            exact j_iret C hr hF (Nat.le_of_ble_eq_true rfl) (Nat.le_of_ble_eq_true rfl) dX3_find_70
        · replace hF := zif_f hF c23
          refine j_iconst (v := (0 : Int32)) C dX3_find_35 (by decide) ?_
          exact j_iret C hr hF (Nat.le_of_ble_eq_true rfl) (Nat.le_of_ble_eq_true rfl) dX3_find_36
      · replace hF := zif_f hF c19
        refine j_iconst (v := (1 : Int32)) C dX3_find_23 (by decide) ?_
        refine j_goto (tgt := 28) C dX3_find_24 (by decide) ?_
        refine j_iconst (v := (0 : Int32)) C dX3_find_28 (by decide) ?_
        refine j_callVi C hne mT_S hT (q0 := 0) (As := [.int (1 : Int32), .int (0 : Int32)]) (rest := []) (kX3_refuses hl n (1 : Int32) (0 : Int32) u1 (zb_n hF hn)) (cwV 2 C.1.2.2.2.2 gX3_find_X3_refuses rfl rfl rfl (by decide +kernel) ⟨(Nat.le_of_ble_eq_true rfl), (Nat.le_of_ble_eq_true rfl)⟩) (by decide) mce_0 rfl rfl rfl (Nat.le_of_ble_eq_true rfl) dX3_find_29 ⟨(Nat.le_of_ble_eq_true rfl), (Nat.le_of_ble_eq_true rfl)⟩ (fun _ _ h9 => zb_x hF h9) (Nat.le_of_ble_eq_true rfl) (Nat.le_of_ble_eq_true rfl) (fun v25 u24 h26 => ?_)
        replace hF := zb_l hF h26
        refine j_if_eq (tgt := 37) C dX3_find_32 (by decide) (fun c27 => ?_) (fun c27 => ?_)
        · replace hF := zif_t hF c27
          refine j_iload_n C dX3_find_37 rfl 2 rfl ?_
          refine j_istore (lv' := [(4, .int i2), (0, .ref (ad 0)), (1, .int i1), (2, .int i2), (3, .int i3)]) C dX3_find_38 (by decide) rfl ?_
          refine j_sub [1, 2, 4, 0] rfl ?_
          refine wX3_find_40 C hne hl hT hr hn n ?_ ?_ n i1 i3 i2 u24 hF
          · intro  st hF
            refine j_iconst (v := ((-1) : Int32)) C dX3_find_77 (by decide) ?_
            exact j_iret C hr hF (Nat.le_of_ble_eq_true rfl) (Nat.le_of_ble_eq_true rfl) dX3_find_78
          · intro i4 st hF
            refine j_iload C dX3_find_68 0 rfl ?_
            exact j_iret C hr hF (Nat.le_of_ble_eq_true rfl) (Nat.le_of_ble_eq_true rfl) dX3_find_70
        · replace hF := zif_f hF c27
          refine j_iconst (v := (0 : Int32)) C dX3_find_35 (by decide) ?_
          exact j_iret C hr hF (Nat.le_of_ble_eq_true rfl) (Nat.le_of_ble_eq_true rfl) dX3_find_36
end
/-! X3_difference -/
def rmX3_difference : Room := { frames := 11, cells := 0, slots := 0, locals := 160 }
theorem in_X3_difference_wsX30 : ∀ w ∈ wsX30, w ∈ wsX3_difference := by decide +kernel
section
variable {p : Program} {l : Launch} {e : Env} {s : State} {m : MethodId} {args : Array Value} {below : List Frame} {meth : Method} {c : Code} {D : va_G} {cI cZ : ClassId} {ad : Nat → Nat}
def fX3_difference_65 (n : Nat) (X_109 : Int32 → Int32 → Int32 → zS → zF Int32) (X_100 : Int32 → zS → zF Int32) : Nat → Int32 → Int32 → Int32 → Int32 → zS → zF Int32
  | 0, _, _, _, _, _ => none
  | k + 1, i1, i2, i3, i4, st => (if i3 ≤ i4 then X_109 i1 i2 i3 st else (if inb (((4096 : Int32) * i1) + i4) (ml 3) then (if inb (((4096 : Int32) * i2) + i4) (ml 3) then (if (st 3 ((((4096 : Int32) * i1) + i4)).toNatClampNeg) = (st 3 ((((4096 : Int32) * i2) + i4)).toNatClampNeg) then fX3_difference_65 n X_109 X_100 k i1 i2 i3 (i4 + (1 : Int32)) st else X_100 i4 st) else none) else none))
set_option maxHeartbeats 4000000 in
set_option maxRecDepth 100000 in
theorem wX3_difference_65 (C : zC p s m args meth c cX3_difference RX3 wsX3_difference D zcl (mty cI cZ) 7 ad 5) (hne : ∀ x ∈ c.exceptionTable.toList, False) (hl : l.stackTraces = false) (hT : mT s.heap.size s) (hr : meth.sig.returnType = (some .int)) {F : zF Int32} (hn : F ≠ none) (n : Nat) {X_109 : Int32 → Int32 → Int32 → zS → zF Int32} {X_100 : Int32 → zS → zF Int32} (hX_109 : ∀ (i1 : Int32) (i2 : Int32) (i3 : Int32) (st : zS), X_109 i1 i2 i3 st = F → mJ (fun v : Int32 => some (.int v)) F 0 0 p l e rmX3_difference s m args below meth c D cI cZ ad 5 st 0 0 109 [(0, .ref (ad 0)), (1, .int i1), (2, .int i2), (3, .int i3)] []) (hX_100 : ∀ (i4 : Int32) (st : zS), X_100 i4 st = F → mJ (fun v : Int32 => some (.int v)) F 0 0 p l e rmX3_difference s m args below meth c D cI cZ ad 5 st 0 0 100 [(4, .int i4)] []) : ∀ (k : Nat) (i1 : Int32) (i2 : Int32) (i3 : Int32) (i4 : Int32) (st : zS), fX3_difference_65 n X_109 X_100 k i1 i2 i3 i4 st = F → mJ (fun v : Int32 => some (.int v)) F 0 0 p l e rmX3_difference s m args below meth c D cI cZ ad 5 st 0 0 65 [(0, .ref (ad 0)), (1, .int i1), (2, .int i2), (3, .int i3), (4, .int i4)] [] := by
  intro k
  induction k with
  | zero =>
    intro i1 i2 i3 i4 st hF
    exact absurd hF.symm hn
  | succ k ih =>
    intro i1 i2 i3 i4 st hF
    rw [fX3_difference_65] at hF
    refine j_iload C dX3_difference_65 4 rfl ?_
    refine j_iload_n C dX3_difference_67 rfl 3 rfl ?_
    refine j_icmp_ge (tgt := 109) C dX3_difference_68 (by decide) (fun c13 => ?_) (fun c13 => ?_)
    · replace hF := zif_t hF c13
      refine j_sub [0, 1, 2, 3] rfl ?_
      exact hX_109 i1 i2 i3 st hF
    · replace hF := zif_f hF c13
      refine j_aload_n C dX3_difference_71 rfl 0 rfl ?_
      refine m_get0 C in_X3_difference_wsX30 3 (by decide) (by decide +kernel) rfl dX3_difference_72 ?_
      refine j_sipush (v := (4096 : Int32)) C dX3_difference_75 (by decide) ?_
      refine j_iload_n C dX3_difference_78 rfl 1 rfl ?_
      refine j_imul C dX3_difference_79 ?_
      refine j_iload C dX3_difference_80 4 rfl ?_
      refine j_iadd C dX3_difference_82 ?_
      have b14 := zif_c hF hn
      replace hF := zif_t hF b14
      refine m_iald C (by decide) b14 dX3_difference_83 ?_
      refine j_aload_n C dX3_difference_84 rfl 0 rfl ?_
      refine m_get0 C in_X3_difference_wsX30 3 (by decide) (by decide +kernel) rfl dX3_difference_85 ?_
      refine j_sipush (v := (4096 : Int32)) C dX3_difference_88 (by decide) ?_
      refine j_iload_n C dX3_difference_91 rfl 2 rfl ?_
      refine j_imul C dX3_difference_92 ?_
      refine j_iload C dX3_difference_93 4 rfl ?_
      refine j_iadd C dX3_difference_95 ?_
      have b15 := zif_c hF hn
      replace hF := zif_t hF b15
      refine m_iald C (by decide) b15 dX3_difference_96 ?_
      refine j_icmp_eq (tgt := 103) C dX3_difference_97 (by decide) (fun c16 => ?_) (fun c16 => ?_)
      · replace hF := zif_t hF c16
        refine j_iinc (lv' := [(4, .int (i4 + (1 : Int32))), (0, .ref (ad 0)), (1, .int i1), (2, .int i2), (3, .int i3)]) C dX3_difference_103 4 rfl rfl (by decide) rfl ?_
        refine j_goto (tgt := 65) C dX3_difference_106 (by decide) ?_
        refine j_sub [1, 2, 3, 4, 0] rfl ?_
        exact ih i1 i2 i3 (i4 + (1 : Int32)) st hF
      · replace hF := zif_f hF c16
        refine j_sub [4] rfl ?_
        exact hX_100 i4 st hF
def fX3_difference_22 (n : Nat)  (i1 : Int32) (i2 : Int32) (it0 : Int32) (st : zS) : zF Int32 := (zb (fX3_refuses n it0 (0 : Int32) st) (fun (v6 : Int32) (u5 : zS) => (if v6 = 0 then (if inb i1 (ml 2) then (if inb i2 (ml 2) then (if (u5 2 (i2).toNatClampNeg) ≤ (u5 2 (i1).toNatClampNeg) then (if inb i2 (ml 2) then fX3_difference_65 n (fun (i1 : Int32) (i2 : Int32) (i3 : Int32) (st : zS) => (if inb i1 (ml 2) then (if inb i2 (ml 2) then (if (st 2 (i1).toNatClampNeg) = (st 2 (i2).toNatClampNeg) then some (.inl ((-1) : Int32), st) else some (.inl i3, st)) else none) else none)) (fun (i4 : Int32) (st : zS) => some (.inl i4, st)) n i1 i2 (u5 2 (i2).toNatClampNeg) (0 : Int32) u5 else none) else (if inb i1 (ml 2) then fX3_difference_65 n (fun (i1 : Int32) (i2 : Int32) (i3 : Int32) (st : zS) => (if inb i1 (ml 2) then (if inb i2 (ml 2) then (if (st 2 (i1).toNatClampNeg) = (st 2 (i2).toNatClampNeg) then some (.inl ((-1) : Int32), st) else some (.inl i3, st)) else none) else none)) (fun (i4 : Int32) (st : zS) => some (.inl i4, st)) n i1 i2 (u5 2 (i1).toNatClampNeg) (0 : Int32) u5 else none)) else none) else none) else some (.inl (0 : Int32), u5))))
set_option maxHeartbeats 4000000 in
set_option maxRecDepth 100000 in
theorem wX3_difference_22 (C : zC p s m args meth c cX3_difference RX3 wsX3_difference D zcl (mty cI cZ) 7 ad 5) (hne : ∀ x ∈ c.exceptionTable.toList, False) (hl : l.stackTraces = false) (hT : mT s.heap.size s) (hr : meth.sig.returnType = (some .int)) {F : zF Int32} (hn : F ≠ none) (n : Nat)   : ∀ (i1 : Int32) (i2 : Int32) (it0 : Int32) (st : zS), fX3_difference_22 n  i1 i2 it0 st = F → mJ (fun v : Int32 => some (.int v)) F 0 0 p l e rmX3_difference s m args below meth c D cI cZ ad 5 st 0 0 22 [(0, .ref (ad 0)), (1, .int i1), (2, .int i2)] [.int it0, .ref (ad 0)] := by
  intro i1 i2 it0 st hF
  unfold fX3_difference_22 at hF
  refine j_iconst (v := (0 : Int32)) C dX3_difference_22 (by decide) ?_
  refine j_callVi C hne mT_S hT (q0 := 0) (As := [.int it0, .int (0 : Int32)]) (rest := []) (kX3_refuses hl n it0 (0 : Int32) st (zb_n hF hn)) (cwV 2 C.1.2.2.2.2 gX3_difference_X3_refuses rfl rfl rfl (by decide +kernel) ⟨(Nat.le_of_ble_eq_true rfl), (Nat.le_of_ble_eq_true rfl)⟩) (by decide) mce_0 rfl rfl rfl (Nat.le_of_ble_eq_true rfl) dX3_difference_23 ⟨(Nat.le_of_ble_eq_true rfl), (Nat.le_of_ble_eq_true rfl)⟩ (fun _ _ h9 => zb_x hF h9) (Nat.le_of_ble_eq_true rfl) (Nat.le_of_ble_eq_true rfl) (fun v6 u5 h7 => ?_)
  replace hF := zb_l hF h7
  refine j_if_eq (tgt := 31) C dX3_difference_26 (by decide) (fun c8 => ?_) (fun c8 => ?_)
  · replace hF := zif_t hF c8
    refine j_aload_n C dX3_difference_31 rfl 0 rfl ?_
    refine m_get0 C in_X3_difference_wsX30 2 (by decide) (by decide +kernel) rfl dX3_difference_32 ?_
    refine j_iload_n C dX3_difference_35 rfl 1 rfl ?_
    have b9 := zif_c hF hn
    replace hF := zif_t hF b9
    refine m_iald C (by decide) b9 dX3_difference_36 ?_
    refine j_aload_n C dX3_difference_37 rfl 0 rfl ?_
    refine m_get0 C in_X3_difference_wsX30 2 (by decide) (by decide +kernel) rfl dX3_difference_38 ?_
    refine j_iload_n C dX3_difference_41 rfl 2 rfl ?_
    have b10 := zif_c hF hn
    replace hF := zif_t hF b10
    refine m_iald C (by decide) b10 dX3_difference_42 ?_
    refine j_icmp_ge (tgt := 55) C dX3_difference_43 (by decide) (fun c11 => ?_) (fun c11 => ?_)
    · replace hF := zif_t hF c11
      refine j_aload_n C dX3_difference_55 rfl 0 rfl ?_
      refine m_get0 C in_X3_difference_wsX30 2 (by decide) (by decide +kernel) rfl dX3_difference_56 ?_
      refine j_iload_n C dX3_difference_59 rfl 2 rfl ?_
      have b12 := zif_c hF hn
      replace hF := zif_t hF b12
      refine m_iald C (by decide) b12 dX3_difference_60 ?_
      refine j_istore_n (lv' := [(3, .int (u5 2 (i2).toNatClampNeg)), (0, .ref (ad 0)), (1, .int i1), (2, .int i2)]) C dX3_difference_61 rfl (by decide) rfl ?_
      refine j_iconst (v := (0 : Int32)) C dX3_difference_62 (by decide) ?_
      refine j_istore (lv' := [(4, .int (0 : Int32)), (3, .int (u5 2 (i2).toNatClampNeg)), (0, .ref (ad 0)), (1, .int i1), (2, .int i2)]) C dX3_difference_63 (by decide) rfl ?_
      refine j_sub [2, 3, 4, 1, 0] rfl ?_
      refine wX3_difference_65 C hne hl hT hr hn n ?_ ?_ n i1 i2 (u5 2 (i2).toNatClampNeg) (0 : Int32) u5 hF
      · intro i1 i2 i3 st hF
        refine j_aload_n C dX3_difference_109 rfl 0 rfl ?_
        refine m_get0 C in_X3_difference_wsX30 2 (by decide) (by decide +kernel) rfl dX3_difference_110 ?_
        refine j_iload_n C dX3_difference_113 rfl 1 rfl ?_
        have b17 := zif_c hF hn
        replace hF := zif_t hF b17
        refine m_iald C (by decide) b17 dX3_difference_114 ?_
        refine j_aload_n C dX3_difference_115 rfl 0 rfl ?_
        refine m_get0 C in_X3_difference_wsX30 2 (by decide) (by decide +kernel) rfl dX3_difference_116 ?_
        refine j_iload_n C dX3_difference_119 rfl 2 rfl ?_
        have b18 := zif_c hF hn
        replace hF := zif_t hF b18
        refine m_iald C (by decide) b18 dX3_difference_120 ?_
        refine j_icmp_ne (tgt := 128) C dX3_difference_121 (by decide) (fun c19 => ?_) (fun c19 => ?_)
        · replace hF := zif_f hF c19
          refine j_iload_n C dX3_difference_128 rfl 3 rfl ?_
          exact j_iret C hr hF (Nat.le_of_ble_eq_true rfl) (Nat.le_of_ble_eq_true rfl) dX3_difference_129
        · replace hF := zif_t hF c19
          refine j_iconst (v := ((-1) : Int32)) C dX3_difference_124 (by decide) ?_
          refine j_goto (tgt := 129) C dX3_difference_125 (by decide) ?_
          exact j_iret C hr hF (Nat.le_of_ble_eq_true rfl) (Nat.le_of_ble_eq_true rfl) dX3_difference_129
      · intro i4 st hF
        refine j_iload C dX3_difference_100 0 rfl ?_
        exact j_iret C hr hF (Nat.le_of_ble_eq_true rfl) (Nat.le_of_ble_eq_true rfl) dX3_difference_102
    · replace hF := zif_f hF c11
      refine j_aload_n C dX3_difference_46 rfl 0 rfl ?_
      refine m_get0 C in_X3_difference_wsX30 2 (by decide) (by decide +kernel) rfl dX3_difference_47 ?_
      refine j_iload_n C dX3_difference_50 rfl 1 rfl ?_
      have b20 := zif_c hF hn
      replace hF := zif_t hF b20
      refine m_iald C (by decide) b20 dX3_difference_51 ?_
      refine j_goto (tgt := 61) C dX3_difference_52 (by decide) ?_
      refine j_istore_n (lv' := [(3, .int (u5 2 (i1).toNatClampNeg)), (0, .ref (ad 0)), (1, .int i1), (2, .int i2)]) C dX3_difference_61 rfl (by decide) rfl ?_
      refine j_iconst (v := (0 : Int32)) C dX3_difference_62 (by decide) ?_
      refine j_istore (lv' := [(4, .int (0 : Int32)), (3, .int (u5 2 (i1).toNatClampNeg)), (0, .ref (ad 0)), (1, .int i1), (2, .int i2)]) C dX3_difference_63 (by decide) rfl ?_
      refine j_sub [2, 3, 4, 1, 0] rfl ?_
      refine wX3_difference_65 C hne hl hT hr hn n ?_ ?_ n i1 i2 (u5 2 (i1).toNatClampNeg) (0 : Int32) u5 hF
      · intro i1 i2 i3 st hF
        refine j_aload_n C dX3_difference_109 rfl 0 rfl ?_
        refine m_get0 C in_X3_difference_wsX30 2 (by decide) (by decide +kernel) rfl dX3_difference_110 ?_
        refine j_iload_n C dX3_difference_113 rfl 1 rfl ?_
        have b21 := zif_c hF hn
        replace hF := zif_t hF b21
        refine m_iald C (by decide) b21 dX3_difference_114 ?_
        refine j_aload_n C dX3_difference_115 rfl 0 rfl ?_
        refine m_get0 C in_X3_difference_wsX30 2 (by decide) (by decide +kernel) rfl dX3_difference_116 ?_
        refine j_iload_n C dX3_difference_119 rfl 2 rfl ?_
        have b22 := zif_c hF hn
        replace hF := zif_t hF b22
        refine m_iald C (by decide) b22 dX3_difference_120 ?_
        refine j_icmp_ne (tgt := 128) C dX3_difference_121 (by decide) (fun c23 => ?_) (fun c23 => ?_)
        · replace hF := zif_f hF c23
          refine j_iload_n C dX3_difference_128 rfl 3 rfl ?_
          exact j_iret C hr hF (Nat.le_of_ble_eq_true rfl) (Nat.le_of_ble_eq_true rfl) dX3_difference_129
        · replace hF := zif_t hF c23
          refine j_iconst (v := ((-1) : Int32)) C dX3_difference_124 (by decide) ?_
          refine j_goto (tgt := 129) C dX3_difference_125 (by decide) ?_
          exact j_iret C hr hF (Nat.le_of_ble_eq_true rfl) (Nat.le_of_ble_eq_true rfl) dX3_difference_129
      · intro i4 st hF
        refine j_iload C dX3_difference_100 0 rfl ?_
        exact j_iret C hr hF (Nat.le_of_ble_eq_true rfl) (Nat.le_of_ble_eq_true rfl) dX3_difference_102
  · replace hF := zif_f hF c8
    refine j_iconst (v := (0 : Int32)) C dX3_difference_29 (by decide) ?_
    exact j_iret C hr hF (Nat.le_of_ble_eq_true rfl) (Nat.le_of_ble_eq_true rfl) dX3_difference_30
def fX3_difference_17 (n : Nat)  (i1 : Int32) (i2 : Int32) (st : zS) : zF Int32 := fX3_difference_22 n i1 i2 (1 : Int32) st
set_option maxHeartbeats 4000000 in
set_option maxRecDepth 100000 in
theorem wX3_difference_17 (C : zC p s m args meth c cX3_difference RX3 wsX3_difference D zcl (mty cI cZ) 7 ad 5) (hne : ∀ x ∈ c.exceptionTable.toList, False) (hl : l.stackTraces = false) (hT : mT s.heap.size s) (hr : meth.sig.returnType = (some .int)) {F : zF Int32} (hn : F ≠ none) (n : Nat)   : ∀ (i1 : Int32) (i2 : Int32) (st : zS), fX3_difference_17 n  i1 i2 st = F → mJ (fun v : Int32 => some (.int v)) F 0 0 p l e rmX3_difference s m args below meth c D cI cZ ad 5 st 0 0 17 [(0, .ref (ad 0)), (1, .int i1), (2, .int i2)] [.ref (ad 0)] := by
  intro i1 i2 st hF
  unfold fX3_difference_17 at hF
  refine j_iconst (v := (1 : Int32)) C dX3_difference_17 (by decide) ?_
  refine j_goto (tgt := 22) C dX3_difference_18 (by decide) ?_
  refine wX3_difference_22 C hne hl hT hr hn n  i1 i2 (1 : Int32) st hF
def fX3_difference (n : Nat) (i1 : Int32) (i2 : Int32) (st : zS) : zF Int32 := (zb (fX3_isArray n i1 st) (fun (v2 : Int32) (u1 : zS) => (if v2 = 0 then fX3_difference_17 n i1 i2 u1 else (zb (fX3_isArray n i2 u1) (fun (v25 : Int32) (u24 : zS) => (if v25 = 0 then fX3_difference_17 n i1 i2 u24 else fX3_difference_22 n i1 i2 (0 : Int32) u24))))))
set_option maxHeartbeats 4000000 in
set_option maxRecDepth 100000 in
theorem kX3_difference (hl : l.stackTraces = false) (n : Nat) (i1 : Int32) (i2 : Int32) (st : zS) (hn : fX3_difference n i1 i2 st ≠ none) : zM (fun v : Int32 => some (.int v)) l yX3_difference wsX3_difference rmX3_difference D zcl (mty cI cZ) 7 ad (mce cI cZ ad) mT 0 0 [.ref (ad 0), .int i1, .int i2] st (fX3_difference n i1 i2 st) := by
  refine z_ofJ (cc := cX3_difference) (maxL := 5) (ret := (some .int)) (lv := [(0, .ref (ad 0)), (1, .int i1), (2, .int i2)]) (by decide) rfl (Nat.le_of_ble_eq_true rfl) rfl ?_
  intro p e s m args below meth c C hne hT hr
  obtain ⟨F, hFe⟩ : ∃ F, F = fX3_difference n i1 i2 st := ⟨_, rfl⟩
  rw [← hFe] at hn ⊢
  have hF : fX3_difference n i1 i2 st = F := hFe.symm
  clear hFe
  unfold fX3_difference at hF
  have C : zC p s m args meth c cX3_difference RX3 wsX3_difference D zcl (mty cI cZ) 7 ad 5 := C
  refine j_aload_n C dX3_difference_0 rfl 0 rfl ?_
  refine j_aload_n C dX3_difference_1 rfl 0 rfl ?_
  refine j_iload_n C dX3_difference_2 rfl 1 rfl ?_
  refine j_callVi C hne mT_S hT (q0 := 0) (As := [.int i1]) (rest := [.ref (ad 0)]) (kX3_isArray hl n i1 st (zb_n hF hn)) (cwV 1 C.1.2.2.2.2 gX3_difference_X3_isArray rfl rfl rfl (by decide +kernel) ⟨(Nat.le_of_ble_eq_true rfl), (Nat.le_of_ble_eq_true rfl)⟩) (by decide) mce_0 rfl rfl rfl (Nat.le_of_ble_eq_true rfl) dX3_difference_3 ⟨(Nat.le_of_ble_eq_true rfl), (Nat.le_of_ble_eq_true rfl)⟩ (fun _ _ h9 => zb_x hF h9) (Nat.le_of_ble_eq_true rfl) (Nat.le_of_ble_eq_true rfl) (fun v2 u1 h3 => ?_)
  replace hF := zb_l hF h3
  refine j_if_eq (tgt := 17) C dX3_difference_6 (by decide) (fun c4 => ?_) (fun c4 => ?_)
  · replace hF := zif_t hF c4
    refine wX3_difference_17 C hne hl hT hr hn n  i1 i2 u1 hF
  · replace hF := zif_f hF c4
    refine j_aload_n C dX3_difference_9 rfl 0 rfl ?_
    refine j_iload_n C dX3_difference_10 rfl 2 rfl ?_
    refine j_callVi C hne mT_S hT (q0 := 0) (As := [.int i2]) (rest := [.ref (ad 0)]) (kX3_isArray hl n i2 u1 (zb_n hF hn)) (cwV 1 C.1.2.2.2.2 gX3_difference_X3_isArray rfl rfl rfl (by decide +kernel) ⟨(Nat.le_of_ble_eq_true rfl), (Nat.le_of_ble_eq_true rfl)⟩) (by decide) mce_0 rfl rfl rfl (Nat.le_of_ble_eq_true rfl) dX3_difference_11 ⟨(Nat.le_of_ble_eq_true rfl), (Nat.le_of_ble_eq_true rfl)⟩ (fun _ _ h9 => zb_x hF h9) (Nat.le_of_ble_eq_true rfl) (Nat.le_of_ble_eq_true rfl) (fun v25 u24 h26 => ?_)
    replace hF := zb_l hF h26
    refine j_if_ne (tgt := 21) C dX3_difference_14 (by decide) (fun c27 => ?_) (fun c27 => ?_)
    · replace hF := zif_f hF c27
      refine j_iconst (v := (0 : Int32)) C dX3_difference_21 (by decide) ?_
      refine wX3_difference_22 C hne hl hT hr hn n  i1 i2 (0 : Int32) u24 hF
    · replace hF := zif_t hF c27
      refine wX3_difference_17 C hne hl hT hr hn n  i1 i2 u24 hF
end
