/-! X3_set -/
def rmX3_set : Room := { frames := 13, cells := 0, slots := 0, locals := 240 }
theorem in_X3_set_wsX30 : ∀ w ∈ wsX30, w ∈ wsX3_set := by decide +kernel
section
variable {p : Program} {l : Launch} {e : Env} {s : State} {m : MethodId} {args : Array Value} {below : List Frame} {meth : Method} {c : Code} {D : va_G} {cI cZ : ClassId} {ad : Nat → Nat}
def fX3_set_28 (n : Nat)  (i1 : Int32) (i2 : Int32) (i3 : Int32) (it0 : Int32) (st : zS) : zF Unit := (zb (fX3_refuses n it0 (0 : Int32) st) (fun (v6 : Int32) (u5 : zS) => (if v6 = 0 then (zb (fX3_takeRow n i1 u5) (fun (v10 : Unit) (u9 : zS) => (if inb i2 (ml 6) then (zl (upA u9 6 (upd (u9 6) (i2).toNatClampNeg i3)) (fun (s13 : zS) => (zb (fX3_change n i1 s13) (fun (v15 : Unit) (u14 : zS) => some (.inl (), u14))))) else none))) else some (.inl (), u5))))
set_option maxHeartbeats 4000000 in
set_option maxRecDepth 100000 in
theorem wX3_set_28 (C : zC p s m args meth c cX3_set RX3 wsX3_set D zcl (mty cI cZ) 7 ad 4) (hne : ∀ x ∈ c.exceptionTable.toList, False) (hl : l.stackTraces = false) (hT : mT s.heap.size s) (hr : meth.sig.returnType = none) {F : zF Unit} (hn : F ≠ none) (n : Nat)   : ∀ (i1 : Int32) (i2 : Int32) (i3 : Int32) (it0 : Int32) (st : zS), fX3_set_28 n  i1 i2 i3 it0 st = F → mJ (fun _ : Unit => none) F 0 0 p l e rmX3_set s m args below meth c D cI cZ ad 4 st 0 0 28 [(0, .ref (ad 0)), (1, .int i1), (2, .int i2), (3, .int i3)] [.int it0, .ref (ad 0)] := by
  intro i1 i2 i3 it0 st hF
  unfold fX3_set_28 at hF
  refine j_iconst (v := (0 : Int32)) C dX3_set_28 (by decide) ?_
  refine j_callVi C hne mT_S hT (q0 := 0) (As := [.int it0, .int (0 : Int32)]) (rest := []) (kX3_refuses hl n it0 (0 : Int32) st (zb_n hF hn)) (cwV 2 C.1.2.2.2.2 gX3_set_X3_refuses rfl rfl rfl (by decide +kernel) ⟨(Nat.le_of_ble_eq_true rfl), (Nat.le_of_ble_eq_true rfl)⟩) (by decide) mce_0 rfl rfl rfl (Nat.le_of_ble_eq_true rfl) dX3_set_29 ⟨(Nat.le_of_ble_eq_true rfl), (Nat.le_of_ble_eq_true rfl)⟩ (fun _ _ h9 => zb_x hF h9) (Nat.le_of_ble_eq_true rfl) (Nat.le_of_ble_eq_true rfl) (fun v6 u5 h7 => ?_)
  replace hF := zb_l hF h7
  refine j_if_eq (tgt := 36) C dX3_set_32 (by decide) (fun c8 => ?_) (fun c8 => ?_)
  · replace hF := zif_t hF c8
    refine j_aload_n C dX3_set_36 rfl 0 rfl ?_
    refine j_iload_n C dX3_set_37 rfl 1 rfl ?_
    refine j_callVv C hne mT_S hT (q0 := 0) (As := [.int i1]) (rest := []) (kX3_takeRow hl n i1 u5 (zb_n hF hn)) (cwV 1 C.1.2.2.2.2 gX3_set_X3_takeRow rfl rfl rfl (by decide +kernel) ⟨(Nat.le_of_ble_eq_true rfl), (Nat.le_of_ble_eq_true rfl)⟩) (by decide) mce_0 rfl rfl rfl (Nat.le_of_ble_eq_true rfl) dX3_set_38 ⟨(Nat.le_of_ble_eq_true rfl), (Nat.le_of_ble_eq_true rfl)⟩ (fun _ _ h9 => zb_x hF h9) (Nat.le_of_ble_eq_true rfl) (Nat.le_of_ble_eq_true rfl) (fun v10 u9 h11 => ?_)
    replace hF := zb_l hF h11
    refine j_aload_n C dX3_set_41 rfl 0 rfl ?_
    refine m_get0 C in_X3_set_wsX30 7 (by decide) (by decide +kernel) rfl dX3_set_42 ?_
    refine j_iload_n C dX3_set_45 rfl 2 rfl ?_
    refine j_iload_n C dX3_set_46 rfl 3 rfl ?_
    have b12 := zif_c hF hn
    replace hF := zif_t hF b12
    refine m_iast C (by decide) b12 dX3_set_47 ?_
    obtain ⟨s13, es13, hF⟩ := zl_e hF
    rw [← es13]
    refine j_aload_n C dX3_set_48 rfl 0 rfl ?_
    refine j_iload_n C dX3_set_49 rfl 1 rfl ?_
    refine j_callVv C hne mT_S hT (q0 := 0) (As := [.int i1]) (rest := []) (kX3_change hl n i1 s13 (zb_n hF hn)) (cwV 1 C.1.2.2.2.2 gX3_set_X3_change rfl rfl rfl (by decide +kernel) ⟨(Nat.le_of_ble_eq_true rfl), (Nat.le_of_ble_eq_true rfl)⟩) (by decide) mce_0 rfl rfl rfl (Nat.le_of_ble_eq_true rfl) dX3_set_50 ⟨(Nat.le_of_ble_eq_true rfl), (Nat.le_of_ble_eq_true rfl)⟩ (fun _ _ h9 => zb_x hF h9) (Nat.le_of_ble_eq_true rfl) (Nat.le_of_ble_eq_true rfl) (fun v15 u14 h16 => ?_)
    replace hF := zb_l hF h16
    exact j_vret C hr hF (Nat.le_of_ble_eq_true rfl) (Nat.le_of_ble_eq_true rfl) dX3_set_53
  · replace hF := zif_f hF c8
    exact j_vret C hr hF (Nat.le_of_ble_eq_true rfl) (Nat.le_of_ble_eq_true rfl) dX3_set_35
def fX3_set_23 (n : Nat)  (i1 : Int32) (i2 : Int32) (i3 : Int32) (st : zS) : zF Unit := fX3_set_28 n i1 i2 i3 (1 : Int32) st
set_option maxHeartbeats 4000000 in
set_option maxRecDepth 100000 in
theorem wX3_set_23 (C : zC p s m args meth c cX3_set RX3 wsX3_set D zcl (mty cI cZ) 7 ad 4) (hne : ∀ x ∈ c.exceptionTable.toList, False) (hl : l.stackTraces = false) (hT : mT s.heap.size s) (hr : meth.sig.returnType = none) {F : zF Unit} (hn : F ≠ none) (n : Nat)   : ∀ (i1 : Int32) (i2 : Int32) (i3 : Int32) (st : zS), fX3_set_23 n  i1 i2 i3 st = F → mJ (fun _ : Unit => none) F 0 0 p l e rmX3_set s m args below meth c D cI cZ ad 4 st 0 0 23 [(0, .ref (ad 0)), (1, .int i1), (2, .int i2), (3, .int i3)] [.ref (ad 0)] := by
  intro i1 i2 i3 st hF
  unfold fX3_set_23 at hF
  refine j_iconst (v := (1 : Int32)) C dX3_set_23 (by decide) ?_
  refine j_goto (tgt := 28) C dX3_set_24 (by decide) ?_
  refine wX3_set_28 C hne hl hT hr hn n  i1 i2 i3 (1 : Int32) st hF
def fX3_set (n : Nat) (i1 : Int32) (i2 : Int32) (i3 : Int32) (st : zS) : zF Unit := (zb (fX3_isArray n i1 st) (fun (v2 : Int32) (u1 : zS) => (if v2 = 0 then fX3_set_23 n i1 i2 i3 u1 else (if i2 < 0 then fX3_set_23 n i1 i2 i3 u1 else (if inb i1 (ml 2) then (if i2 < (u1 2 (i1).toNatClampNeg) then fX3_set_28 n i1 i2 i3 (0 : Int32) u1 else fX3_set_23 n i1 i2 i3 u1) else none)))))
set_option maxHeartbeats 4000000 in
set_option maxRecDepth 100000 in
theorem kX3_set (hl : l.stackTraces = false) (n : Nat) (i1 : Int32) (i2 : Int32) (i3 : Int32) (st : zS) (hn : fX3_set n i1 i2 i3 st ≠ none) : zM (fun _ : Unit => none) l yX3_set wsX3_set rmX3_set D zcl (mty cI cZ) 7 ad (mce cI cZ ad) mT 0 0 [.ref (ad 0), .int i1, .int i2, .int i3] st (fX3_set n i1 i2 i3 st) := by
  refine z_ofJ (cc := cX3_set) (maxL := 4) (ret := none) (lv := [(0, .ref (ad 0)), (1, .int i1), (2, .int i2), (3, .int i3)]) (by decide) rfl (Nat.le_of_ble_eq_true rfl) rfl ?_
  intro p e s m args below meth c C hne hT hr
  obtain ⟨F, hFe⟩ : ∃ F, F = fX3_set n i1 i2 i3 st := ⟨_, rfl⟩
  rw [← hFe] at hn ⊢
  have hF : fX3_set n i1 i2 i3 st = F := hFe.symm
  clear hFe
  unfold fX3_set at hF
  have C : zC p s m args meth c cX3_set RX3 wsX3_set D zcl (mty cI cZ) 7 ad 4 := C
  refine j_aload_n C dX3_set_0 rfl 0 rfl ?_
  refine j_aload_n C dX3_set_1 rfl 0 rfl ?_
  refine j_iload_n C dX3_set_2 rfl 1 rfl ?_
  refine j_callVi C hne mT_S hT (q0 := 0) (As := [.int i1]) (rest := [.ref (ad 0)]) (kX3_isArray hl n i1 st (zb_n hF hn)) (cwV 1 C.1.2.2.2.2 gX3_set_X3_isArray rfl rfl rfl (by decide +kernel) ⟨(Nat.le_of_ble_eq_true rfl), (Nat.le_of_ble_eq_true rfl)⟩) (by decide) mce_0 rfl rfl rfl (Nat.le_of_ble_eq_true rfl) dX3_set_3 ⟨(Nat.le_of_ble_eq_true rfl), (Nat.le_of_ble_eq_true rfl)⟩ (fun _ _ h9 => zb_x hF h9) (Nat.le_of_ble_eq_true rfl) (Nat.le_of_ble_eq_true rfl) (fun v2 u1 h3 => ?_)
  replace hF := zb_l hF h3
  refine j_if_eq (tgt := 23) C dX3_set_6 (by decide) (fun c4 => ?_) (fun c4 => ?_)
  · replace hF := zif_t hF c4
    refine wX3_set_23 C hne hl hT hr hn n  i1 i2 i3 u1 hF
  · replace hF := zif_f hF c4
    refine j_iload_n C dX3_set_9 rfl 2 rfl ?_
    refine j_if_lt (tgt := 23) C dX3_set_10 (by decide) (fun c17 => ?_) (fun c17 => ?_)
    · replace hF := zif_t hF c17
      refine wX3_set_23 C hne hl hT hr hn n  i1 i2 i3 u1 hF
    · replace hF := zif_f hF c17
      refine j_iload_n C dX3_set_13 rfl 2 rfl ?_
      refine j_aload_n C dX3_set_14 rfl 0 rfl ?_
      refine m_get0 C in_X3_set_wsX30 2 (by decide) (by decide +kernel) rfl dX3_set_15 ?_
      refine j_iload_n C dX3_set_18 rfl 1 rfl ?_
      have b18 := zif_c hF hn
      replace hF := zif_t hF b18
      refine m_iald C (by decide) b18 dX3_set_19 ?_
      refine j_icmp_lt (tgt := 27) C dX3_set_20 (by decide) (fun c19 => ?_) (fun c19 => ?_)
      · replace hF := zif_t hF c19
        refine j_iconst (v := (0 : Int32)) C dX3_set_27 (by decide) ?_
        refine wX3_set_28 C hne hl hT hr hn n  i1 i2 i3 (0 : Int32) u1 hF
      · replace hF := zif_f hF c19
        refine wX3_set_23 C hne hl hT hr hn n  i1 i2 i3 u1 hF
end
/-! X3_fill -/
def rmX3_fill : Room := { frames := 13, cells := 0, slots := 0, locals := 240 }
theorem in_X3_fill_wsX30 : ∀ w ∈ wsX30, w ∈ wsX3_fill := by decide +kernel
section
variable {p : Program} {l : Launch} {e : Env} {s : State} {m : MethodId} {args : Array Value} {below : List Frame} {meth : Method} {c : Code} {D : va_G} {cI cZ : ClassId} {ad : Nat → Nat}
def fX3_fill_32 (n : Nat) (X_53 : Int32 → zS → zF Unit) : Nat → Int32 → Int32 → Int32 → Int32 → zS → zF Unit
  | 0, _, _, _, _, _ => none
  | k + 1, i1, i3, i4, i5, st => (if i3 ≤ i5 then X_53 i1 st else (if inb i5 (ml 6) then (zl (upA st 6 (upd (st 6) (i5).toNatClampNeg i4)) (fun (s14 : zS) => fX3_fill_32 n X_53 k i1 i3 i4 (i5 + (1 : Int32)) s14)) else none))
set_option maxHeartbeats 4000000 in
set_option maxRecDepth 100000 in
theorem wX3_fill_32 (C : zC p s m args meth c cX3_fill RX3 wsX3_fill D zcl (mty cI cZ) 7 ad 6) (hne : ∀ x ∈ c.exceptionTable.toList, False) (hl : l.stackTraces = false) (hT : mT s.heap.size s) (hr : meth.sig.returnType = none) {F : zF Unit} (hn : F ≠ none) (n : Nat) {X_53 : Int32 → zS → zF Unit} (hX_53 : ∀ (i1 : Int32) (st : zS), X_53 i1 st = F → mJ (fun _ : Unit => none) F 0 0 p l e rmX3_fill s m args below meth c D cI cZ ad 6 st 0 0 53 [(0, .ref (ad 0)), (1, .int i1)] []) : ∀ (k : Nat) (i1 : Int32) (i3 : Int32) (i4 : Int32) (i5 : Int32) (st : zS), fX3_fill_32 n X_53 k i1 i3 i4 i5 st = F → mJ (fun _ : Unit => none) F 0 0 p l e rmX3_fill s m args below meth c D cI cZ ad 6 st 0 0 32 [(0, .ref (ad 0)), (1, .int i1), (3, .int i3), (4, .int i4), (5, .int i5)] [] := by
  intro k
  induction k with
  | zero =>
    intro i1 i3 i4 i5 st hF
    exact absurd hF.symm hn
  | succ k ih =>
    intro i1 i3 i4 i5 st hF
    rw [fX3_fill_32] at hF
    refine j_iload C dX3_fill_32 4 rfl ?_
    refine j_iload_n C dX3_fill_34 rfl 2 rfl ?_
    refine j_icmp_ge (tgt := 53) C dX3_fill_35 (by decide) (fun c12 => ?_) (fun c12 => ?_)
    · replace hF := zif_t hF c12
      refine j_sub [0, 1] rfl ?_
      exact hX_53 i1 st hF
    · replace hF := zif_f hF c12
      refine j_aload_n C dX3_fill_38 rfl 0 rfl ?_
      refine m_get0 C in_X3_fill_wsX30 7 (by decide) (by decide +kernel) rfl dX3_fill_39 ?_
      refine j_iload C dX3_fill_42 4 rfl ?_
      refine j_iload C dX3_fill_44 3 rfl ?_
      have b13 := zif_c hF hn
      replace hF := zif_t hF b13
      refine m_iast C (by decide) b13 dX3_fill_46 ?_
      obtain ⟨s14, es14, hF⟩ := zl_e hF
      rw [← es14]
      refine j_iinc (lv' := [(5, .int (i5 + (1 : Int32))), (0, .ref (ad 0)), (1, .int i1), (3, .int i3), (4, .int i4)]) C dX3_fill_47 4 rfl rfl (by decide) rfl ?_
      refine j_goto (tgt := 32) C dX3_fill_50 (by decide) ?_
      refine j_sub [1, 2, 3, 4, 0] rfl ?_
      exact ih i1 i3 i4 (i5 + (1 : Int32)) s14 hF
def fX3_fill (n : Nat) (i1 : Int32) (i2 : Int32) (i3 : Int32) (i4 : Int32) (st : zS) : zF Unit := (zb (fX3_isPart n i1 i2 i3 st) (fun (v2 : Int32) (u1 : zS) => (if v2 = 0 then (zb (fX3_refuses n (1 : Int32) (0 : Int32) u1) (fun (v19 : Int32) (u18 : zS) => (if v19 = 0 then (zb (fX3_takeRow n i1 u18) (fun (v23 : Unit) (u22 : zS) => fX3_fill_32 n (fun (i1 : Int32) (st : zS) => (zb (fX3_change n i1 st) (fun (v26 : Unit) (u25 : zS) => some (.inl (), u25)))) n i1 i3 i4 i2 u22)) else some (.inl (), u18)))) else (zb (fX3_refuses n (0 : Int32) (0 : Int32) u1) (fun (v6 : Int32) (u5 : zS) => (if v6 = 0 then (zb (fX3_takeRow n i1 u5) (fun (v10 : Unit) (u9 : zS) => fX3_fill_32 n (fun (i1 : Int32) (st : zS) => (zb (fX3_change n i1 st) (fun (v16 : Unit) (u15 : zS) => some (.inl (), u15)))) n i1 i3 i4 i2 u9)) else some (.inl (), u5)))))))
set_option maxHeartbeats 4000000 in
set_option maxRecDepth 100000 in
theorem kX3_fill (hl : l.stackTraces = false) (n : Nat) (i1 : Int32) (i2 : Int32) (i3 : Int32) (i4 : Int32) (st : zS) (hn : fX3_fill n i1 i2 i3 i4 st ≠ none) : zM (fun _ : Unit => none) l yX3_fill wsX3_fill rmX3_fill D zcl (mty cI cZ) 7 ad (mce cI cZ ad) mT 0 0 [.ref (ad 0), .int i1, .int i2, .int i3, .int i4] st (fX3_fill n i1 i2 i3 i4 st) := by
  refine z_ofJ (cc := cX3_fill) (maxL := 6) (ret := none) (lv := [(0, .ref (ad 0)), (1, .int i1), (2, .int i2), (3, .int i3), (4, .int i4)]) (by decide) rfl (Nat.le_of_ble_eq_true rfl) rfl ?_
  intro p e s m args below meth c C hne hT hr
  obtain ⟨F, hFe⟩ : ∃ F, F = fX3_fill n i1 i2 i3 i4 st := ⟨_, rfl⟩
  rw [← hFe] at hn ⊢
  have hF : fX3_fill n i1 i2 i3 i4 st = F := hFe.symm
  clear hFe
  unfold fX3_fill at hF
  have C : zC p s m args meth c cX3_fill RX3 wsX3_fill D zcl (mty cI cZ) 7 ad 6 := C
  refine j_aload_n C dX3_fill_0 rfl 0 rfl ?_
  refine j_aload_n C dX3_fill_1 rfl 0 rfl ?_
  refine j_iload_n C dX3_fill_2 rfl 1 rfl ?_
  refine j_iload_n C dX3_fill_3 rfl 2 rfl ?_
  refine j_iload_n C dX3_fill_4 rfl 3 rfl ?_
  refine j_callVi C hne mT_S hT (q0 := 0) (As := [.int i1, .int i2, .int i3]) (rest := [.ref (ad 0)]) (kX3_isPart hl n i1 i2 i3 st (zb_n hF hn)) (cwV 3 C.1.2.2.2.2 gX3_fill_X3_isPart rfl rfl rfl (by decide +kernel) ⟨(Nat.le_of_ble_eq_true rfl), (Nat.le_of_ble_eq_true rfl)⟩) (by decide) mce_0 rfl rfl rfl (Nat.le_of_ble_eq_true rfl) dX3_fill_5 ⟨(Nat.le_of_ble_eq_true rfl), (Nat.le_of_ble_eq_true rfl)⟩ (fun _ _ h9 => zb_x hF h9) (Nat.le_of_ble_eq_true rfl) (Nat.le_of_ble_eq_true rfl) (fun v2 u1 h3 => ?_)
  replace hF := zb_l hF h3
  refine j_if_ne (tgt := 15) C dX3_fill_8 (by decide) (fun c4 => ?_) (fun c4 => ?_)
  · replace hF := zif_f hF c4
    refine j_iconst (v := (0 : Int32)) C dX3_fill_15 (by decide) ?_
    refine j_iconst (v := (0 : Int32)) C dX3_fill_16 (by decide) ?_
    refine j_callVi C hne mT_S hT (q0 := 0) (As := [.int (0 : Int32), .int (0 : Int32)]) (rest := []) (kX3_refuses hl n (0 : Int32) (0 : Int32) u1 (zb_n hF hn)) (cwV 2 C.1.2.2.2.2 gX3_fill_X3_refuses rfl rfl rfl (by decide +kernel) ⟨(Nat.le_of_ble_eq_true rfl), (Nat.le_of_ble_eq_true rfl)⟩) (by decide) mce_0 rfl rfl rfl (Nat.le_of_ble_eq_true rfl) dX3_fill_17 ⟨(Nat.le_of_ble_eq_true rfl), (Nat.le_of_ble_eq_true rfl)⟩ (fun _ _ h9 => zb_x hF h9) (Nat.le_of_ble_eq_true rfl) (Nat.le_of_ble_eq_true rfl) (fun v6 u5 h7 => ?_)
    replace hF := zb_l hF h7
    refine j_if_eq (tgt := 24) C dX3_fill_20 (by decide) (fun c8 => ?_) (fun c8 => ?_)
    · replace hF := zif_t hF c8
      refine j_aload_n C dX3_fill_24 rfl 0 rfl ?_
      refine j_iload_n C dX3_fill_25 rfl 1 rfl ?_
      refine j_callVv C hne mT_S hT (q0 := 0) (As := [.int i1]) (rest := []) (kX3_takeRow hl n i1 u5 (zb_n hF hn)) (cwV 1 C.1.2.2.2.2 gX3_fill_X3_takeRow rfl rfl rfl (by decide +kernel) ⟨(Nat.le_of_ble_eq_true rfl), (Nat.le_of_ble_eq_true rfl)⟩) (by decide) mce_0 rfl rfl rfl (Nat.le_of_ble_eq_true rfl) dX3_fill_26 ⟨(Nat.le_of_ble_eq_true rfl), (Nat.le_of_ble_eq_true rfl)⟩ (fun _ _ h9 => zb_x hF h9) (Nat.le_of_ble_eq_true rfl) (Nat.le_of_ble_eq_true rfl) (fun v10 u9 h11 => ?_)
      replace hF := zb_l hF h11
      refine j_iload_n C dX3_fill_29 rfl 2 rfl ?_
      refine j_istore (lv' := [(5, .int i2), (0, .ref (ad 0)), (1, .int i1), (2, .int i2), (3, .int i3), (4, .int i4)]) C dX3_fill_30 (by decide) rfl ?_
      refine j_sub [1, 2, 4, 5, 0] rfl ?_
      refine wX3_fill_32 C hne hl hT hr hn n ?_ n i1 i3 i4 i2 u9 hF
      · intro i1 st hF
        refine j_aload_n C dX3_fill_53 rfl 0 rfl ?_
        refine j_iload_n C dX3_fill_54 rfl 1 rfl ?_
        refine j_callVv C hne mT_S hT (q0 := 0) (As := [.int i1]) (rest := []) (kX3_change hl n i1 st (zb_n hF hn)) (cwV 1 C.1.2.2.2.2 gX3_fill_X3_change rfl rfl rfl (by decide +kernel) ⟨(Nat.le_of_ble_eq_true rfl), (Nat.le_of_ble_eq_true rfl)⟩) (by decide) mce_0 rfl rfl rfl (Nat.le_of_ble_eq_true rfl) dX3_fill_55 ⟨(Nat.le_of_ble_eq_true rfl), (Nat.le_of_ble_eq_true rfl)⟩ (fun _ _ h9 => zb_x hF h9) (Nat.le_of_ble_eq_true rfl) (Nat.le_of_ble_eq_true rfl) (fun v16 u15 h17 => ?_)
        replace hF := zb_l hF h17
        exact j_vret C hr hF (Nat.le_of_ble_eq_true rfl) (Nat.le_of_ble_eq_true rfl) dX3_fill_58
    · replace hF := zif_f hF c8
      exact j_vret C hr hF (Nat.le_of_ble_eq_true rfl) (Nat.le_of_ble_eq_true rfl) dX3_fill_23
  · replace hF := zif_t hF c4
    refine j_iconst (v := (1 : Int32)) C dX3_fill_11 (by decide) ?_
    refine j_goto (tgt := 16) C dX3_fill_12 (by decide) ?_
    refine j_iconst (v := (0 : Int32)) C dX3_fill_16 (by decide) ?_
    refine j_callVi C hne mT_S hT (q0 := 0) (As := [.int (1 : Int32), .int (0 : Int32)]) (rest := []) (kX3_refuses hl n (1 : Int32) (0 : Int32) u1 (zb_n hF hn)) (cwV 2 C.1.2.2.2.2 gX3_fill_X3_refuses rfl rfl rfl (by decide +kernel) ⟨(Nat.le_of_ble_eq_true rfl), (Nat.le_of_ble_eq_true rfl)⟩) (by decide) mce_0 rfl rfl rfl (Nat.le_of_ble_eq_true rfl) dX3_fill_17 ⟨(Nat.le_of_ble_eq_true rfl), (Nat.le_of_ble_eq_true rfl)⟩ (fun _ _ h9 => zb_x hF h9) (Nat.le_of_ble_eq_true rfl) (Nat.le_of_ble_eq_true rfl) (fun v19 u18 h20 => ?_)
    replace hF := zb_l hF h20
    refine j_if_eq (tgt := 24) C dX3_fill_20 (by decide) (fun c21 => ?_) (fun c21 => ?_)
    · replace hF := zif_t hF c21
      refine j_aload_n C dX3_fill_24 rfl 0 rfl ?_
      refine j_iload_n C dX3_fill_25 rfl 1 rfl ?_
      refine j_callVv C hne mT_S hT (q0 := 0) (As := [.int i1]) (rest := []) (kX3_takeRow hl n i1 u18 (zb_n hF hn)) (cwV 1 C.1.2.2.2.2 gX3_fill_X3_takeRow rfl rfl rfl (by decide +kernel) ⟨(Nat.le_of_ble_eq_true rfl), (Nat.le_of_ble_eq_true rfl)⟩) (by decide) mce_0 rfl rfl rfl (Nat.le_of_ble_eq_true rfl) dX3_fill_26 ⟨(Nat.le_of_ble_eq_true rfl), (Nat.le_of_ble_eq_true rfl)⟩ (fun _ _ h9 => zb_x hF h9) (Nat.le_of_ble_eq_true rfl) (Nat.le_of_ble_eq_true rfl) (fun v23 u22 h24 => ?_)
      replace hF := zb_l hF h24
      refine j_iload_n C dX3_fill_29 rfl 2 rfl ?_
      refine j_istore (lv' := [(5, .int i2), (0, .ref (ad 0)), (1, .int i1), (2, .int i2), (3, .int i3), (4, .int i4)]) C dX3_fill_30 (by decide) rfl ?_
      refine j_sub [1, 2, 4, 5, 0] rfl ?_
      refine wX3_fill_32 C hne hl hT hr hn n ?_ n i1 i3 i4 i2 u22 hF
      · intro i1 st hF
        refine j_aload_n C dX3_fill_53 rfl 0 rfl ?_
        refine j_iload_n C dX3_fill_54 rfl 1 rfl ?_
        refine j_callVv C hne mT_S hT (q0 := 0) (As := [.int i1]) (rest := []) (kX3_change hl n i1 st (zb_n hF hn)) (cwV 1 C.1.2.2.2.2 gX3_fill_X3_change rfl rfl rfl (by decide +kernel) ⟨(Nat.le_of_ble_eq_true rfl), (Nat.le_of_ble_eq_true rfl)⟩) (by decide) mce_0 rfl rfl rfl (Nat.le_of_ble_eq_true rfl) dX3_fill_55 ⟨(Nat.le_of_ble_eq_true rfl), (Nat.le_of_ble_eq_true rfl)⟩ (fun _ _ h9 => zb_x hF h9) (Nat.le_of_ble_eq_true rfl) (Nat.le_of_ble_eq_true rfl) (fun v26 u25 h27 => ?_)
        replace hF := zb_l hF h27
        exact j_vret C hr hF (Nat.le_of_ble_eq_true rfl) (Nat.le_of_ble_eq_true rfl) dX3_fill_58
    · replace hF := zif_f hF c21
      exact j_vret C hr hF (Nat.le_of_ble_eq_true rfl) (Nat.le_of_ble_eq_true rfl) dX3_fill_23
end
/-! X3_move -/
def rmX3_move : Room := { frames := 13, cells := 0, slots := 0, locals := 240 }
theorem in_X3_move_wsX30 : ∀ w ∈ wsX30, w ∈ wsX3_move := by decide +kernel
section
variable {p : Program} {l : Launch} {e : Env} {s : State} {m : MethodId} {args : Array Value} {below : List Frame} {meth : Method} {c : Code} {D : va_G} {cI cZ : ClassId} {ad : Nat → Nat}
def fX3_move_52 (n : Nat) (X_89 : Int32 → zS → zF Unit) : Nat → Int32 → Int32 → Int32 → Int32 → Int32 → zS → zF Unit
  | 0, _, _, _, _, _, _ => none
  | k + 1, i1, i2, i3, i4, i5, st => (if i3 ≤ i5 then X_89 i1 st else (if inb (((4096 : Int32) * i1) + i5) (ml 3) then (if inb ((i4 + i5) - i2) (ml 6) then (zl (upA st 6 (upd (st 6) (((i4 + i5) - i2)).toNatClampNeg (st 3 ((((4096 : Int32) * i1) + i5)).toNatClampNeg))) (fun (s15 : zS) => fX3_move_52 n X_89 k i1 i2 i3 i4 (i5 + (1 : Int32)) s15)) else none) else none))
set_option maxHeartbeats 4000000 in
set_option maxRecDepth 100000 in
theorem wX3_move_52 (C : zC p s m args meth c cX3_move RX3 wsX3_move D zcl (mty cI cZ) 7 ad 6) (hne : ∀ x ∈ c.exceptionTable.toList, False) (hl : l.stackTraces = false) (hT : mT s.heap.size s) (hr : meth.sig.returnType = none) {F : zF Unit} (hn : F ≠ none) (n : Nat) {X_89 : Int32 → zS → zF Unit} (hX_89 : ∀ (i1 : Int32) (st : zS), X_89 i1 st = F → mJ (fun _ : Unit => none) F 0 0 p l e rmX3_move s m args below meth c D cI cZ ad 6 st 0 0 89 [(0, .ref (ad 0)), (1, .int i1)] []) : ∀ (k : Nat) (i1 : Int32) (i2 : Int32) (i3 : Int32) (i4 : Int32) (i5 : Int32) (st : zS), fX3_move_52 n X_89 k i1 i2 i3 i4 i5 st = F → mJ (fun _ : Unit => none) F 0 0 p l e rmX3_move s m args below meth c D cI cZ ad 6 st 0 0 52 [(0, .ref (ad 0)), (1, .int i1), (2, .int i2), (3, .int i3), (4, .int i4), (5, .int i5)] [] := by
  intro k
  induction k with
  | zero =>
    intro i1 i2 i3 i4 i5 st hF
    exact absurd hF.symm hn
  | succ k ih =>
    intro i1 i2 i3 i4 i5 st hF
    rw [fX3_move_52] at hF
    refine j_iload C dX3_move_52 5 rfl ?_
    refine j_iload_n C dX3_move_54 rfl 3 rfl ?_
    refine j_icmp_ge (tgt := 89) C dX3_move_55 (by decide) (fun c12 => ?_) (fun c12 => ?_)
    · replace hF := zif_t hF c12
      refine j_sub [0, 1] rfl ?_
      exact hX_89 i1 st hF
    · replace hF := zif_f hF c12
      refine j_aload_n C dX3_move_58 rfl 0 rfl ?_
      refine m_get0 C in_X3_move_wsX30 7 (by decide) (by decide +kernel) rfl dX3_move_59 ?_
      refine j_iload C dX3_move_62 4 rfl ?_
      refine j_iload C dX3_move_64 5 rfl ?_
      refine j_iadd C dX3_move_66 ?_
      refine j_iload_n C dX3_move_67 rfl 2 rfl ?_
      refine j_isub C dX3_move_68 ?_
      refine j_aload_n C dX3_move_69 rfl 0 rfl ?_
      refine m_get0 C in_X3_move_wsX30 3 (by decide) (by decide +kernel) rfl dX3_move_70 ?_
      refine j_sipush (v := (4096 : Int32)) C dX3_move_73 (by decide) ?_
      refine j_iload_n C dX3_move_76 rfl 1 rfl ?_
      refine j_imul C dX3_move_77 ?_
      refine j_iload C dX3_move_78 5 rfl ?_
      refine j_iadd C dX3_move_80 ?_
      have b13 := zif_c hF hn
      replace hF := zif_t hF b13
      refine m_iald C (by decide) b13 dX3_move_81 ?_
      have b14 := zif_c hF hn
      replace hF := zif_t hF b14
      refine m_iast C (by decide) b14 dX3_move_82 ?_
      obtain ⟨s15, es15, hF⟩ := zl_e hF
      rw [← es15]
      refine j_iinc (lv' := [(5, .int (i5 + (1 : Int32))), (0, .ref (ad 0)), (1, .int i1), (2, .int i2), (3, .int i3), (4, .int i4)]) C dX3_move_83 5 rfl rfl (by decide) rfl ?_
      refine j_goto (tgt := 52) C dX3_move_86 (by decide) ?_
      refine j_sub [1, 2, 3, 4, 5, 0] rfl ?_
      exact ih i1 i2 i3 i4 (i5 + (1 : Int32)) s15 hF
def fX3_move_31 (n : Nat)  (i1 : Int32) (i2 : Int32) (i3 : Int32) (i4 : Int32) (st : zS) : zF Unit := (zb (fX3_refuses n (1 : Int32) (0 : Int32) st) (fun (v6 : Int32) (u5 : zS) => (if v6 = 0 then (zb (fX3_takeRow n i1 u5) (fun (v10 : Unit) (u9 : zS) => fX3_move_52 n (fun (i1 : Int32) (st : zS) => (zb (fX3_change n i1 st) (fun (v17 : Unit) (u16 : zS) => some (.inl (), u16)))) n i1 i2 i3 i4 i2 u9)) else some (.inl (), u5))))
set_option maxHeartbeats 4000000 in
set_option maxRecDepth 100000 in
theorem wX3_move_31 (C : zC p s m args meth c cX3_move RX3 wsX3_move D zcl (mty cI cZ) 7 ad 6) (hne : ∀ x ∈ c.exceptionTable.toList, False) (hl : l.stackTraces = false) (hT : mT s.heap.size s) (hr : meth.sig.returnType = none) {F : zF Unit} (hn : F ≠ none) (n : Nat)   : ∀ (i1 : Int32) (i2 : Int32) (i3 : Int32) (i4 : Int32) (st : zS), fX3_move_31 n  i1 i2 i3 i4 st = F → mJ (fun _ : Unit => none) F 0 0 p l e rmX3_move s m args below meth c D cI cZ ad 6 st 0 0 31 [(0, .ref (ad 0)), (1, .int i1), (2, .int i2), (3, .int i3), (4, .int i4)] [.ref (ad 0)] := by
  intro i1 i2 i3 i4 st hF
  unfold fX3_move_31 at hF
  refine j_iconst (v := (1 : Int32)) C dX3_move_31 (by decide) ?_
  refine j_goto (tgt := 36) C dX3_move_32 (by decide) ?_
  refine j_iconst (v := (0 : Int32)) C dX3_move_36 (by decide) ?_
  refine j_callVi C hne mT_S hT (q0 := 0) (As := [.int (1 : Int32), .int (0 : Int32)]) (rest := []) (kX3_refuses hl n (1 : Int32) (0 : Int32) st (zb_n hF hn)) (cwV 2 C.1.2.2.2.2 gX3_move_X3_refuses rfl rfl rfl (by decide +kernel) ⟨(Nat.le_of_ble_eq_true rfl), (Nat.le_of_ble_eq_true rfl)⟩) (by decide) mce_0 rfl rfl rfl (Nat.le_of_ble_eq_true rfl) dX3_move_37 ⟨(Nat.le_of_ble_eq_true rfl), (Nat.le_of_ble_eq_true rfl)⟩ (fun _ _ h9 => zb_x hF h9) (Nat.le_of_ble_eq_true rfl) (Nat.le_of_ble_eq_true rfl) (fun v6 u5 h7 => ?_)
  replace hF := zb_l hF h7
  refine j_if_eq (tgt := 44) C dX3_move_40 (by decide) (fun c8 => ?_) (fun c8 => ?_)
  · replace hF := zif_t hF c8
    refine j_aload_n C dX3_move_44 rfl 0 rfl ?_
    refine j_iload_n C dX3_move_45 rfl 1 rfl ?_
    refine j_callVv C hne mT_S hT (q0 := 0) (As := [.int i1]) (rest := []) (kX3_takeRow hl n i1 u5 (zb_n hF hn)) (cwV 1 C.1.2.2.2.2 gX3_move_X3_takeRow rfl rfl rfl (by decide +kernel) ⟨(Nat.le_of_ble_eq_true rfl), (Nat.le_of_ble_eq_true rfl)⟩) (by decide) mce_0 rfl rfl rfl (Nat.le_of_ble_eq_true rfl) dX3_move_46 ⟨(Nat.le_of_ble_eq_true rfl), (Nat.le_of_ble_eq_true rfl)⟩ (fun _ _ h9 => zb_x hF h9) (Nat.le_of_ble_eq_true rfl) (Nat.le_of_ble_eq_true rfl) (fun v10 u9 h11 => ?_)
    replace hF := zb_l hF h11
    refine j_iload_n C dX3_move_49 rfl 2 rfl ?_
    refine j_istore (lv' := [(5, .int i2), (0, .ref (ad 0)), (1, .int i1), (2, .int i2), (3, .int i3), (4, .int i4)]) C dX3_move_50 (by decide) rfl ?_
    refine j_sub [1, 2, 3, 4, 5, 0] rfl ?_
    refine wX3_move_52 C hne hl hT hr hn n ?_ n i1 i2 i3 i4 i2 u9 hF
    · intro i1 st hF
      refine j_aload_n C dX3_move_89 rfl 0 rfl ?_
      refine j_iload_n C dX3_move_90 rfl 1 rfl ?_
      refine j_callVv C hne mT_S hT (q0 := 0) (As := [.int i1]) (rest := []) (kX3_change hl n i1 st (zb_n hF hn)) (cwV 1 C.1.2.2.2.2 gX3_move_X3_change rfl rfl rfl (by decide +kernel) ⟨(Nat.le_of_ble_eq_true rfl), (Nat.le_of_ble_eq_true rfl)⟩) (by decide) mce_0 rfl rfl rfl (Nat.le_of_ble_eq_true rfl) dX3_move_91 ⟨(Nat.le_of_ble_eq_true rfl), (Nat.le_of_ble_eq_true rfl)⟩ (fun _ _ h9 => zb_x hF h9) (Nat.le_of_ble_eq_true rfl) (Nat.le_of_ble_eq_true rfl) (fun v17 u16 h18 => ?_)
      replace hF := zb_l hF h18
      exact j_vret C hr hF (Nat.le_of_ble_eq_true rfl) (Nat.le_of_ble_eq_true rfl) dX3_move_94
  · replace hF := zif_f hF c8
    exact j_vret C hr hF (Nat.le_of_ble_eq_true rfl) (Nat.le_of_ble_eq_true rfl) dX3_move_43
def fX3_move (n : Nat) (i1 : Int32) (i2 : Int32) (i3 : Int32) (i4 : Int32) (st : zS) : zF Unit := (zb (fX3_isPart n i1 i2 i3 st) (fun (v2 : Int32) (u1 : zS) => (if v2 = 0 then fX3_move_31 n i1 i2 i3 i4 u1 else (if i4 < 0 then fX3_move_31 n i1 i2 i3 i4 u1 else (if inb i1 (ml 2) then (if i4 ≤ ((u1 2 (i1).toNatClampNeg) - (i3 - i2)) then (zb (fX3_refuses n (0 : Int32) (0 : Int32) u1) (fun (v23 : Int32) (u22 : zS) => (if v23 = 0 then (zb (fX3_takeRow n i1 u22) (fun (v27 : Unit) (u26 : zS) => fX3_move_52 n (fun (i1 : Int32) (st : zS) => (zb (fX3_change n i1 st) (fun (v30 : Unit) (u29 : zS) => some (.inl (), u29)))) n i1 i2 i3 i4 i2 u26)) else some (.inl (), u22)))) else fX3_move_31 n i1 i2 i3 i4 u1) else none)))))
set_option maxHeartbeats 4000000 in
set_option maxRecDepth 100000 in
theorem kX3_move (hl : l.stackTraces = false) (n : Nat) (i1 : Int32) (i2 : Int32) (i3 : Int32) (i4 : Int32) (st : zS) (hn : fX3_move n i1 i2 i3 i4 st ≠ none) : zM (fun _ : Unit => none) l yX3_move wsX3_move rmX3_move D zcl (mty cI cZ) 7 ad (mce cI cZ ad) mT 0 0 [.ref (ad 0), .int i1, .int i2, .int i3, .int i4] st (fX3_move n i1 i2 i3 i4 st) := by
  refine z_ofJ (cc := cX3_move) (maxL := 6) (ret := none) (lv := [(0, .ref (ad 0)), (1, .int i1), (2, .int i2), (3, .int i3), (4, .int i4)]) (by decide) rfl (Nat.le_of_ble_eq_true rfl) rfl ?_
  intro p e s m args below meth c C hne hT hr
  obtain ⟨F, hFe⟩ : ∃ F, F = fX3_move n i1 i2 i3 i4 st := ⟨_, rfl⟩
  rw [← hFe] at hn ⊢
  have hF : fX3_move n i1 i2 i3 i4 st = F := hFe.symm
  clear hFe
  unfold fX3_move at hF
  have C : zC p s m args meth c cX3_move RX3 wsX3_move D zcl (mty cI cZ) 7 ad 6 := C
  refine j_aload_n C dX3_move_0 rfl 0 rfl ?_
  refine j_aload_n C dX3_move_1 rfl 0 rfl ?_
  refine j_iload_n C dX3_move_2 rfl 1 rfl ?_
  refine j_iload_n C dX3_move_3 rfl 2 rfl ?_
  refine j_iload_n C dX3_move_4 rfl 3 rfl ?_
  refine j_callVi C hne mT_S hT (q0 := 0) (As := [.int i1, .int i2, .int i3]) (rest := [.ref (ad 0)]) (kX3_isPart hl n i1 i2 i3 st (zb_n hF hn)) (cwV 3 C.1.2.2.2.2 gX3_move_X3_isPart rfl rfl rfl (by decide +kernel) ⟨(Nat.le_of_ble_eq_true rfl), (Nat.le_of_ble_eq_true rfl)⟩) (by decide) mce_0 rfl rfl rfl (Nat.le_of_ble_eq_true rfl) dX3_move_5 ⟨(Nat.le_of_ble_eq_true rfl), (Nat.le_of_ble_eq_true rfl)⟩ (fun _ _ h9 => zb_x hF h9) (Nat.le_of_ble_eq_true rfl) (Nat.le_of_ble_eq_true rfl) (fun v2 u1 h3 => ?_)
  replace hF := zb_l hF h3
  refine j_if_eq (tgt := 31) C dX3_move_8 (by decide) (fun c4 => ?_) (fun c4 => ?_)
  · replace hF := zif_t hF c4
    refine wX3_move_31 C hne hl hT hr hn n  i1 i2 i3 i4 u1 hF
  · replace hF := zif_f hF c4
    refine j_iload C dX3_move_11 4 rfl ?_
    refine j_if_lt (tgt := 31) C dX3_move_13 (by decide) (fun c19 => ?_) (fun c19 => ?_)
    · replace hF := zif_t hF c19
      refine wX3_move_31 C hne hl hT hr hn n  i1 i2 i3 i4 u1 hF
    · replace hF := zif_f hF c19
      refine j_iload C dX3_move_16 4 rfl ?_
      refine j_aload_n C dX3_move_18 rfl 0 rfl ?_
      refine m_get0 C in_X3_move_wsX30 2 (by decide) (by decide +kernel) rfl dX3_move_19 ?_
      refine j_iload_n C dX3_move_22 rfl 1 rfl ?_
      have b20 := zif_c hF hn
      replace hF := zif_t hF b20
      refine m_iald C (by decide) b20 dX3_move_23 ?_
      refine j_iload_n C dX3_move_24 rfl 3 rfl ?_
      refine j_iload_n C dX3_move_25 rfl 2 rfl ?_
      refine j_isub C dX3_move_26 ?_
      refine j_isub C dX3_move_27 ?_
      refine j_icmp_le (tgt := 35) C dX3_move_28 (by decide) (fun c21 => ?_) (fun c21 => ?_)
      · replace hF := zif_t hF c21
        refine j_iconst (v := (0 : Int32)) C dX3_move_35 (by decide) ?_
        refine j_iconst (v := (0 : Int32)) C dX3_move_36 (by decide) ?_
        refine j_callVi C hne mT_S hT (q0 := 0) (As := [.int (0 : Int32), .int (0 : Int32)]) (rest := []) (kX3_refuses hl n (0 : Int32) (0 : Int32) u1 (zb_n hF hn)) (cwV 2 C.1.2.2.2.2 gX3_move_X3_refuses rfl rfl rfl (by decide +kernel) ⟨(Nat.le_of_ble_eq_true rfl), (Nat.le_of_ble_eq_true rfl)⟩) (by decide) mce_0 rfl rfl rfl (Nat.le_of_ble_eq_true rfl) dX3_move_37 ⟨(Nat.le_of_ble_eq_true rfl), (Nat.le_of_ble_eq_true rfl)⟩ (fun _ _ h9 => zb_x hF h9) (Nat.le_of_ble_eq_true rfl) (Nat.le_of_ble_eq_true rfl) (fun v23 u22 h24 => ?_)
        replace hF := zb_l hF h24
        refine j_if_eq (tgt := 44) C dX3_move_40 (by decide) (fun c25 => ?_) (fun c25 => ?_)
        · replace hF := zif_t hF c25
          refine j_aload_n C dX3_move_44 rfl 0 rfl ?_
          refine j_iload_n C dX3_move_45 rfl 1 rfl ?_
          refine j_callVv C hne mT_S hT (q0 := 0) (As := [.int i1]) (rest := []) (kX3_takeRow hl n i1 u22 (zb_n hF hn)) (cwV 1 C.1.2.2.2.2 gX3_move_X3_takeRow rfl rfl rfl (by decide +kernel) ⟨(Nat.le_of_ble_eq_true rfl), (Nat.le_of_ble_eq_true rfl)⟩) (by decide) mce_0 rfl rfl rfl (Nat.le_of_ble_eq_true rfl) dX3_move_46 ⟨(Nat.le_of_ble_eq_true rfl), (Nat.le_of_ble_eq_true rfl)⟩ (fun _ _ h9 => zb_x hF h9) (Nat.le_of_ble_eq_true rfl) (Nat.le_of_ble_eq_true rfl) (fun v27 u26 h28 => ?_)
          replace hF := zb_l hF h28
          refine j_iload_n C dX3_move_49 rfl 2 rfl ?_
          refine j_istore (lv' := [(5, .int i2), (0, .ref (ad 0)), (1, .int i1), (2, .int i2), (3, .int i3), (4, .int i4)]) C dX3_move_50 (by decide) rfl ?_
          refine j_sub [1, 2, 3, 4, 5, 0] rfl ?_
          refine wX3_move_52 C hne hl hT hr hn n ?_ n i1 i2 i3 i4 i2 u26 hF
          · intro i1 st hF
            refine j_aload_n C dX3_move_89 rfl 0 rfl ?_
            refine j_iload_n C dX3_move_90 rfl 1 rfl ?_
            refine j_callVv C hne mT_S hT (q0 := 0) (As := [.int i1]) (rest := []) (kX3_change hl n i1 st (zb_n hF hn)) (cwV 1 C.1.2.2.2.2 gX3_move_X3_change rfl rfl rfl (by decide +kernel) ⟨(Nat.le_of_ble_eq_true rfl), (Nat.le_of_ble_eq_true rfl)⟩) (by decide) mce_0 rfl rfl rfl (Nat.le_of_ble_eq_true rfl) dX3_move_91 ⟨(Nat.le_of_ble_eq_true rfl), (Nat.le_of_ble_eq_true rfl)⟩ (fun _ _ h9 => zb_x hF h9) (Nat.le_of_ble_eq_true rfl) (Nat.le_of_ble_eq_true rfl) (fun v30 u29 h31 => ?_)
            replace hF := zb_l hF h31
            exact j_vret C hr hF (Nat.le_of_ble_eq_true rfl) (Nat.le_of_ble_eq_true rfl) dX3_move_94
        · replace hF := zif_f hF c25
          exact j_vret C hr hF (Nat.le_of_ble_eq_true rfl) (Nat.le_of_ble_eq_true rfl) dX3_move_43
      · replace hF := zif_f hF c21
        refine wX3_move_31 C hne hl hT hr hn n  i1 i2 i3 i4 u1 hF
end
/-! X3_sort -/
def rmX3_sort : Room := { frames := 13, cells := 0, slots := 0, locals := 240 }
theorem in_X3_sort_wsX30 : ∀ w ∈ wsX30, w ∈ wsX3_sort := by decide +kernel
section
variable {p : Program} {l : Launch} {e : Env} {s : State} {m : MethodId} {args : Array Value} {below : List Frame} {meth : Method} {c : Code} {D : va_G} {cI cZ : ClassId} {ad : Nat → Nat}
def fX3_sort_58 (n : Nat) (X_103 : Int32 → Int32 → Int32 → Int32 → Int32 → zS → zF Unit) : Nat → Int32 → Int32 → Int32 → Int32 → Int32 → zS → zF Unit
  | 0, _, _, _, _, _, _ => none
  | k + 1, i1, i2, i3, i4, i5, st => (if i5 < i2 then X_103 i1 i2 i3 i4 i5 st else (if inb (i5 - i2) (ml 6) then (if (st 6 ((i5 - i2)).toNatClampNeg) ≤ i4 then X_103 i1 i2 i3 i4 i5 st else (if inb (i5 - i2) (ml 6) then (if inb i5 (ml 6) then (zl (upA st 6 (upd (st 6) (i5).toNatClampNeg (st 6 ((i5 - i2)).toNatClampNeg))) (fun (s21 : zS) => fX3_sort_58 n X_103 k i1 i2 i3 i4 (i5 - i2) s21)) else none) else none)) else none))
set_option maxHeartbeats 4000000 in
set_option maxRecDepth 100000 in
theorem wX3_sort_58 (C : zC p s m args meth c cX3_sort RX3 wsX3_sort D zcl (mty cI cZ) 7 ad 6) (hne : ∀ x ∈ c.exceptionTable.toList, False) (hl : l.stackTraces = false) (hT : mT s.heap.size s) (hr : meth.sig.returnType = none) {F : zF Unit} (hn : F ≠ none) (n : Nat) {X_103 : Int32 → Int32 → Int32 → Int32 → Int32 → zS → zF Unit} (hX_103 : ∀ (i1 : Int32) (i2 : Int32) (i3 : Int32) (i4 : Int32) (i5 : Int32) (st : zS), X_103 i1 i2 i3 i4 i5 st = F → mJ (fun _ : Unit => none) F 0 0 p l e rmX3_sort s m args below meth c D cI cZ ad 6 st 0 0 103 [(0, .ref (ad 0)), (1, .int i1), (2, .int i2), (3, .int i3), (4, .int i4), (5, .int i5)] []) : ∀ (k : Nat) (i1 : Int32) (i2 : Int32) (i3 : Int32) (i4 : Int32) (i5 : Int32) (st : zS), fX3_sort_58 n X_103 k i1 i2 i3 i4 i5 st = F → mJ (fun _ : Unit => none) F 0 0 p l e rmX3_sort s m args below meth c D cI cZ ad 6 st 0 0 58 [(0, .ref (ad 0)), (1, .int i1), (2, .int i2), (3, .int i3), (4, .int i4), (5, .int i5)] [] := by
  intro k
  induction k with
  | zero =>
    intro i1 i2 i3 i4 i5 st hF
    exact absurd hF.symm hn
  | succ k ih =>
    intro i1 i2 i3 i4 i5 st hF
    rw [fX3_sort_58] at hF
    refine j_iload C dX3_sort_58 5 rfl ?_
    refine j_iload_n C dX3_sort_60 rfl 2 rfl ?_
    refine j_icmp_lt (tgt := 103) C dX3_sort_61 (by decide) (fun c16 => ?_) (fun c16 => ?_)
    · replace hF := zif_t hF c16
      exact hX_103 i1 i2 i3 i4 i5 st hF
    · replace hF := zif_f hF c16
      refine j_aload_n C dX3_sort_64 rfl 0 rfl ?_
      refine m_get0 C in_X3_sort_wsX30 7 (by decide) (by decide +kernel) rfl dX3_sort_65 ?_
      refine j_iload C dX3_sort_68 5 rfl ?_
      refine j_iload_n C dX3_sort_70 rfl 2 rfl ?_
      refine j_isub C dX3_sort_71 ?_
      have b17 := zif_c hF hn
      replace hF := zif_t hF b17
      refine m_iald C (by decide) b17 dX3_sort_72 ?_
      refine j_iload C dX3_sort_73 4 rfl ?_
      refine j_icmp_le (tgt := 103) C dX3_sort_75 (by decide) (fun c18 => ?_) (fun c18 => ?_)
      · replace hF := zif_t hF c18
        exact hX_103 i1 i2 i3 i4 i5 st hF
      · replace hF := zif_f hF c18
        refine j_aload_n C dX3_sort_78 rfl 0 rfl ?_
        refine m_get0 C in_X3_sort_wsX30 7 (by decide) (by decide +kernel) rfl dX3_sort_79 ?_
        refine j_iload C dX3_sort_82 5 rfl ?_
        refine j_aload_n C dX3_sort_84 rfl 0 rfl ?_
        refine m_get0 C in_X3_sort_wsX30 7 (by decide) (by decide +kernel) rfl dX3_sort_85 ?_
        refine j_iload C dX3_sort_88 5 rfl ?_
        refine j_iload_n C dX3_sort_90 rfl 2 rfl ?_
        refine j_isub C dX3_sort_91 ?_
        have b19 := zif_c hF hn
        replace hF := zif_t hF b19
        refine m_iald C (by decide) b19 dX3_sort_92 ?_
        have b20 := zif_c hF hn
        replace hF := zif_t hF b20
        refine m_iast C (by decide) b20 dX3_sort_93 ?_
        obtain ⟨s21, es21, hF⟩ := zl_e hF
        rw [← es21]
        refine j_iload C dX3_sort_94 5 rfl ?_
        refine j_iload_n C dX3_sort_96 rfl 2 rfl ?_
        refine j_isub C dX3_sort_97 ?_
        refine j_istore (lv' := [(5, .int (i5 - i2)), (0, .ref (ad 0)), (1, .int i1), (2, .int i2), (3, .int i3), (4, .int i4)]) C dX3_sort_98 (by decide) rfl ?_
        refine j_goto (tgt := 58) C dX3_sort_100 (by decide) ?_
        refine j_sub [1, 2, 3, 4, 5, 0] rfl ?_
        exact ih i1 i2 i3 i4 (i5 - i2) s21 hF
def fX3_sort_37 (n : Nat) (X_118 : Int32 → Int32 → zS → zF Unit) : Nat → Int32 → Int32 → Int32 → zS → zF Unit
  | 0, _, _, _, _ => none
  | k + 1, i1, i2, i3, st => (if inb i1 (ml 2) then (if (st 2 (i1).toNatClampNeg) ≤ i3 then X_118 i1 i2 st else (if inb i3 (ml 6) then fX3_sort_58 n (fun (i1 : Int32) (i2 : Int32) (i3 : Int32) (i4 : Int32) (i5 : Int32) (st : zS) => (if inb i5 (ml 6) then (zl (upA st 6 (upd (st 6) (i5).toNatClampNeg i4)) (fun (s23 : zS) => fX3_sort_37 n X_118 k i1 i2 (i3 + (1 : Int32)) s23)) else none)) n i1 i2 i3 (st 6 (i3).toNatClampNeg) i3 st else none)) else none)
set_option maxHeartbeats 4000000 in
set_option maxRecDepth 100000 in
theorem wX3_sort_37 (C : zC p s m args meth c cX3_sort RX3 wsX3_sort D zcl (mty cI cZ) 7 ad 6) (hne : ∀ x ∈ c.exceptionTable.toList, False) (hl : l.stackTraces = false) (hT : mT s.heap.size s) (hr : meth.sig.returnType = none) {F : zF Unit} (hn : F ≠ none) (n : Nat) {X_118 : Int32 → Int32 → zS → zF Unit} (hX_118 : ∀ (i1 : Int32) (i2 : Int32) (st : zS), X_118 i1 i2 st = F → mJ (fun _ : Unit => none) F 0 0 p l e rmX3_sort s m args below meth c D cI cZ ad 6 st 0 0 118 [(0, .ref (ad 0)), (1, .int i1), (2, .int i2)] []) : ∀ (k : Nat) (i1 : Int32) (i2 : Int32) (i3 : Int32) (st : zS), fX3_sort_37 n X_118 k i1 i2 i3 st = F → mJ (fun _ : Unit => none) F 0 0 p l e rmX3_sort s m args below meth c D cI cZ ad 6 st 0 0 37 [(0, .ref (ad 0)), (1, .int i1), (2, .int i2), (3, .int i3)] [] := by
  intro k
  induction k with
  | zero =>
    intro i1 i2 i3 st hF
    exact absurd hF.symm hn
  | succ k ih =>
    intro i1 i2 i3 st hF
    rw [fX3_sort_37] at hF
    refine j_iload_n C dX3_sort_37 rfl 3 rfl ?_
    refine j_aload_n C dX3_sort_38 rfl 0 rfl ?_
    refine m_get0 C in_X3_sort_wsX30 2 (by decide) (by decide +kernel) rfl dX3_sort_39 ?_
    refine j_iload_n C dX3_sort_42 rfl 1 rfl ?_
    have b13 := zif_c hF hn
    replace hF := zif_t hF b13
    refine m_iald C (by decide) b13 dX3_sort_43 ?_
    refine j_icmp_ge (tgt := 118) C dX3_sort_44 (by decide) (fun c14 => ?_) (fun c14 => ?_)
    · replace hF := zif_t hF c14
      refine j_sub [0, 1, 2] rfl ?_
      exact hX_118 i1 i2 st hF
    · replace hF := zif_f hF c14
      refine j_aload_n C dX3_sort_47 rfl 0 rfl ?_
      refine m_get0 C in_X3_sort_wsX30 7 (by decide) (by decide +kernel) rfl dX3_sort_48 ?_
      refine j_iload_n C dX3_sort_51 rfl 3 rfl ?_
      have b15 := zif_c hF hn
      replace hF := zif_t hF b15
      refine m_iald C (by decide) b15 dX3_sort_52 ?_
      refine j_istore (lv' := [(4, .int (st 6 (i3).toNatClampNeg)), (0, .ref (ad 0)), (1, .int i1), (2, .int i2), (3, .int i3)]) C dX3_sort_53 (by decide) rfl ?_
      refine j_iload_n C dX3_sort_55 rfl 4 rfl ?_
      refine j_istore (lv' := [(5, .int i3), (4, .int (st 6 (i3).toNatClampNeg)), (0, .ref (ad 0)), (1, .int i1), (2, .int i2), (3, .int i3)]) C dX3_sort_56 (by decide) rfl ?_
      refine j_sub [2, 3, 4, 5, 1, 0] rfl ?_
      refine wX3_sort_58 C hne hl hT hr hn n ?_ n i1 i2 i3 (st 6 (i3).toNatClampNeg) i3 st hF
      · intro i1 i2 i3 i4 i5 st hF
        refine j_aload_n C dX3_sort_103 rfl 0 rfl ?_
        refine m_get0 C in_X3_sort_wsX30 7 (by decide) (by decide +kernel) rfl dX3_sort_104 ?_
        refine j_iload C dX3_sort_107 5 rfl ?_
        refine j_iload C dX3_sort_109 4 rfl ?_
        have b22 := zif_c hF hn
        replace hF := zif_t hF b22
        refine m_iast C (by decide) b22 dX3_sort_111 ?_
        obtain ⟨s23, es23, hF⟩ := zl_e hF
        rw [← es23]
        refine j_iinc (lv' := [(3, .int (i3 + (1 : Int32))), (0, .ref (ad 0)), (1, .int i1), (2, .int i2), (4, .int i4), (5, .int i5)]) C dX3_sort_112 3 rfl rfl (by decide) rfl ?_
        refine j_goto (tgt := 37) C dX3_sort_115 (by decide) ?_
        refine j_sub [1, 2, 3, 0] rfl ?_
        exact ih i1 i2 (i3 + (1 : Int32)) s23 hF
def fX3_sort_31 (n : Nat) (X_125 : Int32 → zS → zF Unit) : Nat → Int32 → Int32 → zS → zF Unit
  | 0, _, _, _ => none
  | k + 1, i1, i2, st => (if i2 ≤ 0 then X_125 i1 st else fX3_sort_37 n (fun (i1 : Int32) (i2 : Int32) (st : zS) => fX3_sort_31 n X_125 k i1 (i2 / (2 : Int32)) st) n i1 i2 i2 st)
set_option maxHeartbeats 4000000 in
set_option maxRecDepth 100000 in
theorem wX3_sort_31 (C : zC p s m args meth c cX3_sort RX3 wsX3_sort D zcl (mty cI cZ) 7 ad 6) (hne : ∀ x ∈ c.exceptionTable.toList, False) (hl : l.stackTraces = false) (hT : mT s.heap.size s) (hr : meth.sig.returnType = none) {F : zF Unit} (hn : F ≠ none) (n : Nat) {X_125 : Int32 → zS → zF Unit} (hX_125 : ∀ (i1 : Int32) (st : zS), X_125 i1 st = F → mJ (fun _ : Unit => none) F 0 0 p l e rmX3_sort s m args below meth c D cI cZ ad 6 st 0 0 125 [(0, .ref (ad 0)), (1, .int i1)] []) : ∀ (k : Nat) (i1 : Int32) (i2 : Int32) (st : zS), fX3_sort_31 n X_125 k i1 i2 st = F → mJ (fun _ : Unit => none) F 0 0 p l e rmX3_sort s m args below meth c D cI cZ ad 6 st 0 0 31 [(0, .ref (ad 0)), (1, .int i1), (2, .int i2)] [] := by
  intro k
  induction k with
  | zero =>
    intro i1 i2 st hF
    exact absurd hF.symm hn
  | succ k ih =>
    intro i1 i2 st hF
    rw [fX3_sort_31] at hF
    refine j_iload_n C dX3_sort_31 rfl 2 rfl ?_
    refine j_if_le (tgt := 125) C dX3_sort_32 (by decide) (fun c12 => ?_) (fun c12 => ?_)
    · replace hF := zif_t hF c12
      refine j_sub [0, 1] rfl ?_
      exact hX_125 i1 st hF
    · replace hF := zif_f hF c12
      refine j_iload_n C dX3_sort_35 rfl 2 rfl ?_
      refine j_istore_n (lv' := [(3, .int i2), (0, .ref (ad 0)), (1, .int i1), (2, .int i2)]) C dX3_sort_36 rfl (by decide) rfl ?_
      refine j_sub [1, 2, 3, 0] rfl ?_
      refine wX3_sort_37 C hne hl hT hr hn n ?_ n i1 i2 i2 st hF
      · intro i1 i2 st hF
        refine j_iload_n C dX3_sort_118 rfl 2 rfl ?_
        refine j_iconst (v := (2 : Int32)) C dX3_sort_119 (by decide) ?_
        refine j_idiv C dX3_sort_120 (by decide) ?_
        refine j_istore_n (lv' := [(2, .int (i2 / (2 : Int32))), (0, .ref (ad 0)), (1, .int i1)]) C dX3_sort_121 rfl (by decide) rfl ?_
        refine j_goto (tgt := 31) C dX3_sort_122 (by decide) ?_
        refine j_sub [1, 2, 0] rfl ?_
        exact ih i1 (i2 / (2 : Int32)) st hF
def fX3_sort (n : Nat) (i1 : Int32) (st : zS) : zF Unit := (zb (fX3_isArray n i1 st) (fun (v2 : Int32) (u1 : zS) => (if v2 = 0 then (zb (fX3_refuses n (1 : Int32) (0 : Int32) u1) (fun (v28 : Int32) (u27 : zS) => (if v28 = 0 then (zb (fX3_takeRow n i1 u27) (fun (v32 : Unit) (u31 : zS) => fX3_sort_31 n (fun (i1 : Int32) (st : zS) => (zb (fX3_change n i1 st) (fun (v35 : Unit) (u34 : zS) => some (.inl (), u34)))) n i1 (2048 : Int32) u31)) else some (.inl (), u27)))) else (zb (fX3_refuses n (0 : Int32) (0 : Int32) u1) (fun (v6 : Int32) (u5 : zS) => (if v6 = 0 then (zb (fX3_takeRow n i1 u5) (fun (v10 : Unit) (u9 : zS) => fX3_sort_31 n (fun (i1 : Int32) (st : zS) => (zb (fX3_change n i1 st) (fun (v25 : Unit) (u24 : zS) => some (.inl (), u24)))) n i1 (2048 : Int32) u9)) else some (.inl (), u5)))))))
set_option maxHeartbeats 4000000 in
set_option maxRecDepth 100000 in
theorem kX3_sort (hl : l.stackTraces = false) (n : Nat) (i1 : Int32) (st : zS) (hn : fX3_sort n i1 st ≠ none) : zM (fun _ : Unit => none) l yX3_sort wsX3_sort rmX3_sort D zcl (mty cI cZ) 7 ad (mce cI cZ ad) mT 0 0 [.ref (ad 0), .int i1] st (fX3_sort n i1 st) := by
  refine z_ofJ (cc := cX3_sort) (maxL := 6) (ret := none) (lv := [(0, .ref (ad 0)), (1, .int i1)]) (by decide) rfl (Nat.le_of_ble_eq_true rfl) rfl ?_
  intro p e s m args below meth c C hne hT hr
  obtain ⟨F, hFe⟩ : ∃ F, F = fX3_sort n i1 st := ⟨_, rfl⟩
  rw [← hFe] at hn ⊢
  have hF : fX3_sort n i1 st = F := hFe.symm
  clear hFe
  unfold fX3_sort at hF
  have C : zC p s m args meth c cX3_sort RX3 wsX3_sort D zcl (mty cI cZ) 7 ad 6 := C
  refine j_aload_n C dX3_sort_0 rfl 0 rfl ?_
  refine j_aload_n C dX3_sort_1 rfl 0 rfl ?_
  refine j_iload_n C dX3_sort_2 rfl 1 rfl ?_
  refine j_callVi C hne mT_S hT (q0 := 0) (As := [.int i1]) (rest := [.ref (ad 0)]) (kX3_isArray hl n i1 st (zb_n hF hn)) (cwV 1 C.1.2.2.2.2 gX3_sort_X3_isArray rfl rfl rfl (by decide +kernel) ⟨(Nat.le_of_ble_eq_true rfl), (Nat.le_of_ble_eq_true rfl)⟩) (by decide) mce_0 rfl rfl rfl (Nat.le_of_ble_eq_true rfl) dX3_sort_3 ⟨(Nat.le_of_ble_eq_true rfl), (Nat.le_of_ble_eq_true rfl)⟩ (fun _ _ h9 => zb_x hF h9) (Nat.le_of_ble_eq_true rfl) (Nat.le_of_ble_eq_true rfl) (fun v2 u1 h3 => ?_)
  replace hF := zb_l hF h3
  refine j_if_ne (tgt := 13) C dX3_sort_6 (by decide) (fun c4 => ?_) (fun c4 => ?_)
  · replace hF := zif_f hF c4
    refine j_iconst (v := (0 : Int32)) C dX3_sort_13 (by decide) ?_
    refine j_iconst (v := (0 : Int32)) C dX3_sort_14 (by decide) ?_
    refine j_callVi C hne mT_S hT (q0 := 0) (As := [.int (0 : Int32), .int (0 : Int32)]) (rest := []) (kX3_refuses hl n (0 : Int32) (0 : Int32) u1 (zb_n hF hn)) (cwV 2 C.1.2.2.2.2 gX3_sort_X3_refuses rfl rfl rfl (by decide +kernel) ⟨(Nat.le_of_ble_eq_true rfl), (Nat.le_of_ble_eq_true rfl)⟩) (by decide) mce_0 rfl rfl rfl (Nat.le_of_ble_eq_true rfl) dX3_sort_15 ⟨(Nat.le_of_ble_eq_true rfl), (Nat.le_of_ble_eq_true rfl)⟩ (fun _ _ h9 => zb_x hF h9) (Nat.le_of_ble_eq_true rfl) (Nat.le_of_ble_eq_true rfl) (fun v6 u5 h7 => ?_)
    replace hF := zb_l hF h7
    refine j_if_eq (tgt := 22) C dX3_sort_18 (by decide) (fun c8 => ?_) (fun c8 => ?_)
    · replace hF := zif_t hF c8
      refine j_aload_n C dX3_sort_22 rfl 0 rfl ?_
      refine j_iload_n C dX3_sort_23 rfl 1 rfl ?_
      refine j_callVv C hne mT_S hT (q0 := 0) (As := [.int i1]) (rest := []) (kX3_takeRow hl n i1 u5 (zb_n hF hn)) (cwV 1 C.1.2.2.2.2 gX3_sort_X3_takeRow rfl rfl rfl (by decide +kernel) ⟨(Nat.le_of_ble_eq_true rfl), (Nat.le_of_ble_eq_true rfl)⟩) (by decide) mce_0 rfl rfl rfl (Nat.le_of_ble_eq_true rfl) dX3_sort_24 ⟨(Nat.le_of_ble_eq_true rfl), (Nat.le_of_ble_eq_true rfl)⟩ (fun _ _ h9 => zb_x hF h9) (Nat.le_of_ble_eq_true rfl) (Nat.le_of_ble_eq_true rfl) (fun v10 u9 h11 => ?_)
      replace hF := zb_l hF h11
      refine j_sipush (v := (2048 : Int32)) C dX3_sort_27 (by decide) ?_
      refine j_istore_n (lv' := [(2, .int (2048 : Int32)), (0, .ref (ad 0)), (1, .int i1)]) C dX3_sort_30 rfl (by decide) rfl ?_
      refine j_sub [1, 2, 0] rfl ?_
      refine wX3_sort_31 C hne hl hT hr hn n ?_ n i1 (2048 : Int32) u9 hF
      · intro i1 st hF
        refine j_aload_n C dX3_sort_125 rfl 0 rfl ?_
        refine j_iload_n C dX3_sort_126 rfl 1 rfl ?_
        refine j_callVv C hne mT_S hT (q0 := 0) (As := [.int i1]) (rest := []) (kX3_change hl n i1 st (zb_n hF hn)) (cwV 1 C.1.2.2.2.2 gX3_sort_X3_change rfl rfl rfl (by decide +kernel) ⟨(Nat.le_of_ble_eq_true rfl), (Nat.le_of_ble_eq_true rfl)⟩) (by decide) mce_0 rfl rfl rfl (Nat.le_of_ble_eq_true rfl) dX3_sort_127 ⟨(Nat.le_of_ble_eq_true rfl), (Nat.le_of_ble_eq_true rfl)⟩ (fun _ _ h9 => zb_x hF h9) (Nat.le_of_ble_eq_true rfl) (Nat.le_of_ble_eq_true rfl) (fun v25 u24 h26 => ?_)
        replace hF := zb_l hF h26
        exact j_vret C hr hF (Nat.le_of_ble_eq_true rfl) (Nat.le_of_ble_eq_true rfl) dX3_sort_130
    · replace hF := zif_f hF c8
      exact j_vret C hr hF (Nat.le_of_ble_eq_true rfl) (Nat.le_of_ble_eq_true rfl) dX3_sort_21
  · replace hF := zif_t hF c4
    refine j_iconst (v := (1 : Int32)) C dX3_sort_9 (by decide) ?_
    refine j_goto (tgt := 14) C dX3_sort_10 (by decide) ?_
    refine j_iconst (v := (0 : Int32)) C dX3_sort_14 (by decide) ?_
    refine j_callVi C hne mT_S hT (q0 := 0) (As := [.int (1 : Int32), .int (0 : Int32)]) (rest := []) (kX3_refuses hl n (1 : Int32) (0 : Int32) u1 (zb_n hF hn)) (cwV 2 C.1.2.2.2.2 gX3_sort_X3_refuses rfl rfl rfl (by decide +kernel) ⟨(Nat.le_of_ble_eq_true rfl), (Nat.le_of_ble_eq_true rfl)⟩) (by decide) mce_0 rfl rfl rfl (Nat.le_of_ble_eq_true rfl) dX3_sort_15 ⟨(Nat.le_of_ble_eq_true rfl), (Nat.le_of_ble_eq_true rfl)⟩ (fun _ _ h9 => zb_x hF h9) (Nat.le_of_ble_eq_true rfl) (Nat.le_of_ble_eq_true rfl) (fun v28 u27 h29 => ?_)
    replace hF := zb_l hF h29
    refine j_if_eq (tgt := 22) C dX3_sort_18 (by decide) (fun c30 => ?_) (fun c30 => ?_)
    · replace hF := zif_t hF c30
      refine j_aload_n C dX3_sort_22 rfl 0 rfl ?_
      refine j_iload_n C dX3_sort_23 rfl 1 rfl ?_
      refine j_callVv C hne mT_S hT (q0 := 0) (As := [.int i1]) (rest := []) (kX3_takeRow hl n i1 u27 (zb_n hF hn)) (cwV 1 C.1.2.2.2.2 gX3_sort_X3_takeRow rfl rfl rfl (by decide +kernel) ⟨(Nat.le_of_ble_eq_true rfl), (Nat.le_of_ble_eq_true rfl)⟩) (by decide) mce_0 rfl rfl rfl (Nat.le_of_ble_eq_true rfl) dX3_sort_24 ⟨(Nat.le_of_ble_eq_true rfl), (Nat.le_of_ble_eq_true rfl)⟩ (fun _ _ h9 => zb_x hF h9) (Nat.le_of_ble_eq_true rfl) (Nat.le_of_ble_eq_true rfl) (fun v32 u31 h33 => ?_)
      replace hF := zb_l hF h33
      refine j_sipush (v := (2048 : Int32)) C dX3_sort_27 (by decide) ?_
      refine j_istore_n (lv' := [(2, .int (2048 : Int32)), (0, .ref (ad 0)), (1, .int i1)]) C dX3_sort_30 rfl (by decide) rfl ?_
      refine j_sub [1, 2, 0] rfl ?_
      refine wX3_sort_31 C hne hl hT hr hn n ?_ n i1 (2048 : Int32) u31 hF
      · intro i1 st hF
        refine j_aload_n C dX3_sort_125 rfl 0 rfl ?_
        refine j_iload_n C dX3_sort_126 rfl 1 rfl ?_
        refine j_callVv C hne mT_S hT (q0 := 0) (As := [.int i1]) (rest := []) (kX3_change hl n i1 st (zb_n hF hn)) (cwV 1 C.1.2.2.2.2 gX3_sort_X3_change rfl rfl rfl (by decide +kernel) ⟨(Nat.le_of_ble_eq_true rfl), (Nat.le_of_ble_eq_true rfl)⟩) (by decide) mce_0 rfl rfl rfl (Nat.le_of_ble_eq_true rfl) dX3_sort_127 ⟨(Nat.le_of_ble_eq_true rfl), (Nat.le_of_ble_eq_true rfl)⟩ (fun _ _ h9 => zb_x hF h9) (Nat.le_of_ble_eq_true rfl) (Nat.le_of_ble_eq_true rfl) (fun v35 u34 h36 => ?_)
        replace hF := zb_l hF h36
        exact j_vret C hr hF (Nat.le_of_ble_eq_true rfl) (Nat.le_of_ble_eq_true rfl) dX3_sort_130
    · replace hF := zif_f hF c30
      exact j_vret C hr hF (Nat.le_of_ble_eq_true rfl) (Nat.le_of_ble_eq_true rfl) dX3_sort_21
end
/-! X3_reverse -/
def rmX3_reverse : Room := { frames := 13, cells := 0, slots := 0, locals := 240 }
theorem in_X3_reverse_wsX30 : ∀ w ∈ wsX30, w ∈ wsX3_reverse := by decide +kernel
section
variable {p : Program} {l : Launch} {e : Env} {s : State} {m : MethodId} {args : Array Value} {below : List Frame} {meth : Method} {c : Code} {D : va_G} {cI cZ : ClassId} {ad : Nat → Nat}
def fX3_reverse_24 (n : Nat) (X_67 : Int32 → zS → zF Unit) : Nat → Int32 → Int32 → zS → zF Unit
  | 0, _, _, _ => none
  | k + 1, i1, i2, st => (if inb i1 (ml 2) then (if (st 2 (i1).toNatClampNeg) ≤ i2 then X_67 i1 st else (if inb i1 (ml 2) then (if inb (((((4096 : Int32) * i1) + (st 2 (i1).toNatClampNeg)) - (1 : Int32)) - i2) (ml 3) then (if inb i2 (ml 6) then (zl (upA st 6 (upd (st 6) (i2).toNatClampNeg (st 3 ((((((4096 : Int32) * i1) + (st 2 (i1).toNatClampNeg)) - (1 : Int32)) - i2)).toNatClampNeg))) (fun (s14 : zS) => fX3_reverse_24 n X_67 k i1 (i2 + (1 : Int32)) s14)) else none) else none) else none)) else none)
set_option maxHeartbeats 4000000 in
set_option maxRecDepth 100000 in
theorem wX3_reverse_24 (C : zC p s m args meth c cX3_reverse RX3 wsX3_reverse D zcl (mty cI cZ) 7 ad 3) (hne : ∀ x ∈ c.exceptionTable.toList, False) (hl : l.stackTraces = false) (hT : mT s.heap.size s) (hr : meth.sig.returnType = none) {F : zF Unit} (hn : F ≠ none) (n : Nat) {X_67 : Int32 → zS → zF Unit} (hX_67 : ∀ (i1 : Int32) (st : zS), X_67 i1 st = F → mJ (fun _ : Unit => none) F 0 0 p l e rmX3_reverse s m args below meth c D cI cZ ad 3 st 0 0 67 [(0, .ref (ad 0)), (1, .int i1)] []) : ∀ (k : Nat) (i1 : Int32) (i2 : Int32) (st : zS), fX3_reverse_24 n X_67 k i1 i2 st = F → mJ (fun _ : Unit => none) F 0 0 p l e rmX3_reverse s m args below meth c D cI cZ ad 3 st 0 0 24 [(0, .ref (ad 0)), (1, .int i1), (2, .int i2)] [] := by
  intro k
  induction k with
  | zero =>
    intro i1 i2 st hF
    exact absurd hF.symm hn
  | succ k ih =>
    intro i1 i2 st hF
    rw [fX3_reverse_24] at hF
    refine j_iload_n C dX3_reverse_24 rfl 2 rfl ?_
    refine j_aload_n C dX3_reverse_25 rfl 0 rfl ?_
    refine m_get0 C in_X3_reverse_wsX30 2 (by decide) (by decide +kernel) rfl dX3_reverse_26 ?_
    refine j_iload_n C dX3_reverse_29 rfl 1 rfl ?_
    have b9 := zif_c hF hn
    replace hF := zif_t hF b9
    refine m_iald C (by decide) b9 dX3_reverse_30 ?_
    refine j_icmp_ge (tgt := 67) C dX3_reverse_31 (by decide) (fun c10 => ?_) (fun c10 => ?_)
    · replace hF := zif_t hF c10
      refine j_sub [0, 1] rfl ?_
      exact hX_67 i1 st hF
    · replace hF := zif_f hF c10
      refine j_aload_n C dX3_reverse_34 rfl 0 rfl ?_
      refine m_get0 C in_X3_reverse_wsX30 7 (by decide) (by decide +kernel) rfl dX3_reverse_35 ?_
      refine j_iload_n C dX3_reverse_38 rfl 2 rfl ?_
      refine j_aload_n C dX3_reverse_39 rfl 0 rfl ?_
      refine m_get0 C in_X3_reverse_wsX30 3 (by decide) (by decide +kernel) rfl dX3_reverse_40 ?_
      refine j_sipush (v := (4096 : Int32)) C dX3_reverse_43 (by decide) ?_
      refine j_iload_n C dX3_reverse_46 rfl 1 rfl ?_
      refine j_imul C dX3_reverse_47 ?_
      refine j_aload_n C dX3_reverse_48 rfl 0 rfl ?_
      refine m_get0 C in_X3_reverse_wsX30 2 (by decide) (by decide +kernel) rfl dX3_reverse_49 ?_
      refine j_iload_n C dX3_reverse_52 rfl 1 rfl ?_
      have b11 := zif_c hF hn
      replace hF := zif_t hF b11
      refine m_iald C (by decide) b11 dX3_reverse_53 ?_
      refine j_iadd C dX3_reverse_54 ?_
      refine j_iconst (v := (1 : Int32)) C dX3_reverse_55 (by decide) ?_
      refine j_isub C dX3_reverse_56 ?_
      refine j_iload_n C dX3_reverse_57 rfl 2 rfl ?_
      refine j_isub C dX3_reverse_58 ?_
      have b12 := zif_c hF hn
      replace hF := zif_t hF b12
      refine m_iald C (by decide) b12 dX3_reverse_59 ?_
      have b13 := zif_c hF hn
      replace hF := zif_t hF b13
      refine m_iast C (by decide) b13 dX3_reverse_60 ?_
      obtain ⟨s14, es14, hF⟩ := zl_e hF
      rw [← es14]
      refine j_iinc (lv' := [(2, .int (i2 + (1 : Int32))), (0, .ref (ad 0)), (1, .int i1)]) C dX3_reverse_61 2 rfl rfl (by decide) rfl ?_
      refine j_goto (tgt := 24) C dX3_reverse_64 (by decide) ?_
      refine j_sub [1, 2, 0] rfl ?_
      exact ih i1 (i2 + (1 : Int32)) s14 hF
def fX3_reverse (n : Nat) (i1 : Int32) (st : zS) : zF Unit := (zb (fX3_isArray n i1 st) (fun (v2 : Int32) (u1 : zS) => (if v2 = 0 then (zb (fX3_refuses n (1 : Int32) (0 : Int32) u1) (fun (v19 : Int32) (u18 : zS) => (if v19 = 0 then fX3_reverse_24 n (fun (i1 : Int32) (st : zS) => (zb (fX3_change n i1 st) (fun (v23 : Unit) (u22 : zS) => some (.inl (), u22)))) n i1 (0 : Int32) u18 else some (.inl (), u18)))) else (zb (fX3_refuses n (0 : Int32) (0 : Int32) u1) (fun (v6 : Int32) (u5 : zS) => (if v6 = 0 then fX3_reverse_24 n (fun (i1 : Int32) (st : zS) => (zb (fX3_change n i1 st) (fun (v16 : Unit) (u15 : zS) => some (.inl (), u15)))) n i1 (0 : Int32) u5 else some (.inl (), u5)))))))
set_option maxHeartbeats 4000000 in
set_option maxRecDepth 100000 in
theorem kX3_reverse (hl : l.stackTraces = false) (n : Nat) (i1 : Int32) (st : zS) (hn : fX3_reverse n i1 st ≠ none) : zM (fun _ : Unit => none) l yX3_reverse wsX3_reverse rmX3_reverse D zcl (mty cI cZ) 7 ad (mce cI cZ ad) mT 0 0 [.ref (ad 0), .int i1] st (fX3_reverse n i1 st) := by
  refine z_ofJ (cc := cX3_reverse) (maxL := 3) (ret := none) (lv := [(0, .ref (ad 0)), (1, .int i1)]) (by decide) rfl (Nat.le_of_ble_eq_true rfl) rfl ?_
  intro p e s m args below meth c C hne hT hr
  obtain ⟨F, hFe⟩ : ∃ F, F = fX3_reverse n i1 st := ⟨_, rfl⟩
  rw [← hFe] at hn ⊢
  have hF : fX3_reverse n i1 st = F := hFe.symm
  clear hFe
  unfold fX3_reverse at hF
  have C : zC p s m args meth c cX3_reverse RX3 wsX3_reverse D zcl (mty cI cZ) 7 ad 3 := C
  refine j_aload_n C dX3_reverse_0 rfl 0 rfl ?_
  refine j_aload_n C dX3_reverse_1 rfl 0 rfl ?_
  refine j_iload_n C dX3_reverse_2 rfl 1 rfl ?_
  refine j_callVi C hne mT_S hT (q0 := 0) (As := [.int i1]) (rest := [.ref (ad 0)]) (kX3_isArray hl n i1 st (zb_n hF hn)) (cwV 1 C.1.2.2.2.2 gX3_reverse_X3_isArray rfl rfl rfl (by decide +kernel) ⟨(Nat.le_of_ble_eq_true rfl), (Nat.le_of_ble_eq_true rfl)⟩) (by decide) mce_0 rfl rfl rfl (Nat.le_of_ble_eq_true rfl) dX3_reverse_3 ⟨(Nat.le_of_ble_eq_true rfl), (Nat.le_of_ble_eq_true rfl)⟩ (fun _ _ h9 => zb_x hF h9) (Nat.le_of_ble_eq_true rfl) (Nat.le_of_ble_eq_true rfl) (fun v2 u1 h3 => ?_)
  replace hF := zb_l hF h3
  refine j_if_ne (tgt := 13) C dX3_reverse_6 (by decide) (fun c4 => ?_) (fun c4 => ?_)
  · replace hF := zif_f hF c4
    refine j_iconst (v := (0 : Int32)) C dX3_reverse_13 (by decide) ?_
    refine j_iconst (v := (0 : Int32)) C dX3_reverse_14 (by decide) ?_
    refine j_callVi C hne mT_S hT (q0 := 0) (As := [.int (0 : Int32), .int (0 : Int32)]) (rest := []) (kX3_refuses hl n (0 : Int32) (0 : Int32) u1 (zb_n hF hn)) (cwV 2 C.1.2.2.2.2 gX3_reverse_X3_refuses rfl rfl rfl (by decide +kernel) ⟨(Nat.le_of_ble_eq_true rfl), (Nat.le_of_ble_eq_true rfl)⟩) (by decide) mce_0 rfl rfl rfl (Nat.le_of_ble_eq_true rfl) dX3_reverse_15 ⟨(Nat.le_of_ble_eq_true rfl), (Nat.le_of_ble_eq_true rfl)⟩ (fun _ _ h9 => zb_x hF h9) (Nat.le_of_ble_eq_true rfl) (Nat.le_of_ble_eq_true rfl) (fun v6 u5 h7 => ?_)
    replace hF := zb_l hF h7
    refine j_if_eq (tgt := 22) C dX3_reverse_18 (by decide) (fun c8 => ?_) (fun c8 => ?_)
    · replace hF := zif_t hF c8
      refine j_iconst (v := (0 : Int32)) C dX3_reverse_22 (by decide) ?_
      refine j_istore_n (lv' := [(2, .int (0 : Int32)), (0, .ref (ad 0)), (1, .int i1)]) C dX3_reverse_23 rfl (by decide) rfl ?_
      refine j_sub [1, 2, 0] rfl ?_
      refine wX3_reverse_24 C hne hl hT hr hn n ?_ n i1 (0 : Int32) u5 hF
      · intro i1 st hF
        refine j_aload_n C dX3_reverse_67 rfl 0 rfl ?_
        refine j_iload_n C dX3_reverse_68 rfl 1 rfl ?_
        refine j_callVv C hne mT_S hT (q0 := 0) (As := [.int i1]) (rest := []) (kX3_change hl n i1 st (zb_n hF hn)) (cwV 1 C.1.2.2.2.2 gX3_reverse_X3_change rfl rfl rfl (by decide +kernel) ⟨(Nat.le_of_ble_eq_true rfl), (Nat.le_of_ble_eq_true rfl)⟩) (by decide) mce_0 rfl rfl rfl (Nat.le_of_ble_eq_true rfl) dX3_reverse_69 ⟨(Nat.le_of_ble_eq_true rfl), (Nat.le_of_ble_eq_true rfl)⟩ (fun _ _ h9 => zb_x hF h9) (Nat.le_of_ble_eq_true rfl) (Nat.le_of_ble_eq_true rfl) (fun v16 u15 h17 => ?_)
        replace hF := zb_l hF h17
        exact j_vret C hr hF (Nat.le_of_ble_eq_true rfl) (Nat.le_of_ble_eq_true rfl) dX3_reverse_72
    · replace hF := zif_f hF c8
      exact j_vret C hr hF (Nat.le_of_ble_eq_true rfl) (Nat.le_of_ble_eq_true rfl) dX3_reverse_21
  · replace hF := zif_t hF c4
    refine j_iconst (v := (1 : Int32)) C dX3_reverse_9 (by decide) ?_
    refine j_goto (tgt := 14) C dX3_reverse_10 (by decide) ?_
    refine j_iconst (v := (0 : Int32)) C dX3_reverse_14 (by decide) ?_
    refine j_callVi C hne mT_S hT (q0 := 0) (As := [.int (1 : Int32), .int (0 : Int32)]) (rest := []) (kX3_refuses hl n (1 : Int32) (0 : Int32) u1 (zb_n hF hn)) (cwV 2 C.1.2.2.2.2 gX3_reverse_X3_refuses rfl rfl rfl (by decide +kernel) ⟨(Nat.le_of_ble_eq_true rfl), (Nat.le_of_ble_eq_true rfl)⟩) (by decide) mce_0 rfl rfl rfl (Nat.le_of_ble_eq_true rfl) dX3_reverse_15 ⟨(Nat.le_of_ble_eq_true rfl), (Nat.le_of_ble_eq_true rfl)⟩ (fun _ _ h9 => zb_x hF h9) (Nat.le_of_ble_eq_true rfl) (Nat.le_of_ble_eq_true rfl) (fun v19 u18 h20 => ?_)
    replace hF := zb_l hF h20
    refine j_if_eq (tgt := 22) C dX3_reverse_18 (by decide) (fun c21 => ?_) (fun c21 => ?_)
    · replace hF := zif_t hF c21
      refine j_iconst (v := (0 : Int32)) C dX3_reverse_22 (by decide) ?_
      refine j_istore_n (lv' := [(2, .int (0 : Int32)), (0, .ref (ad 0)), (1, .int i1)]) C dX3_reverse_23 rfl (by decide) rfl ?_
      refine j_sub [1, 2, 0] rfl ?_
      refine wX3_reverse_24 C hne hl hT hr hn n ?_ n i1 (0 : Int32) u18 hF
      · intro i1 st hF
        refine j_aload_n C dX3_reverse_67 rfl 0 rfl ?_
        refine j_iload_n C dX3_reverse_68 rfl 1 rfl ?_
        refine j_callVv C hne mT_S hT (q0 := 0) (As := [.int i1]) (rest := []) (kX3_change hl n i1 st (zb_n hF hn)) (cwV 1 C.1.2.2.2.2 gX3_reverse_X3_change rfl rfl rfl (by decide +kernel) ⟨(Nat.le_of_ble_eq_true rfl), (Nat.le_of_ble_eq_true rfl)⟩) (by decide) mce_0 rfl rfl rfl (Nat.le_of_ble_eq_true rfl) dX3_reverse_69 ⟨(Nat.le_of_ble_eq_true rfl), (Nat.le_of_ble_eq_true rfl)⟩ (fun _ _ h9 => zb_x hF h9) (Nat.le_of_ble_eq_true rfl) (Nat.le_of_ble_eq_true rfl) (fun v23 u22 h24 => ?_)
        replace hF := zb_l hF h24
        exact j_vret C hr hF (Nat.le_of_ble_eq_true rfl) (Nat.le_of_ble_eq_true rfl) dX3_reverse_72
    · replace hF := zif_f hF c21
      exact j_vret C hr hF (Nat.le_of_ble_eq_true rfl) (Nat.le_of_ble_eq_true rfl) dX3_reverse_21
end
