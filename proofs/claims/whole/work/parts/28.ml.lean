/-! X3_used -/
def rmX3_used : Room := { frames := 12, cells := 0, slots := 0, locals := 200 }
theorem in_X3_used_wsX30 : ∀ w ∈ wsX30, w ∈ wsX3_used := by decide +kernel
section
variable {p : Program} {l : Launch} {e : Env} {s : State} {m : MethodId} {args : Array Value} {below : List Frame} {meth : Method} {c : Code} {D : va_G} {cI cZ : ClassId} {ad : Nat → Nat}
def fX3_used (n : Nat)  (st : zS) : zF Int32 := (zl (upA st 0 (upd (st 0) 0 (0 : Int32))) (fun (s1 : zS) => (zb (fX3_countAll n  s1) (fun (v3 : Int32) (u2 : zS) => some (.inl v3, u2)))))
set_option maxHeartbeats 4000000 in
set_option maxRecDepth 100000 in
theorem kX3_used (hl : l.stackTraces = false) (n : Nat)  (st : zS) (hn : fX3_used n  st ≠ none) : zM (fun v : Int32 => some (.int v)) l yX3_used wsX3_used rmX3_used D zcl (mty cI cZ) 7 ad (mce cI cZ ad) mT 0 0 [.ref (ad 0)] st (fX3_used n  st) := by
  refine z_ofJ (cc := cX3_used) (maxL := 1) (ret := (some .int)) (lv := [(0, .ref (ad 0))]) (by decide) rfl (Nat.le_of_ble_eq_true rfl) rfl ?_
  intro p e s m args below meth c C hne hT hr
  obtain ⟨F, hFe⟩ : ∃ F, F = fX3_used n  st := ⟨_, rfl⟩
  rw [← hFe] at hn ⊢
  have hF : fX3_used n  st = F := hFe.symm
  clear hFe
  unfold fX3_used at hF
  have C : zC p s m args meth c cX3_used RX3 wsX3_used D zcl (mty cI cZ) 7 ad 1 := C
  refine j_aload_n C dX3_used_0 rfl 0 rfl ?_
  refine j_iconst (v := (0 : Int32)) C dX3_used_1 (by decide) ?_
  refine m_put0 C in_X3_used_wsX30 0 (by decide) (by decide +kernel) dX3_used_2 ?_
  obtain ⟨s1, es1, hF⟩ := zl_e hF
  rw [← es1]
  refine j_aload_n C dX3_used_5 rfl 0 rfl ?_
  refine j_callVi C hne mT_S hT (q0 := 0) (As := []) (rest := []) (kX3_countAll hl n  s1 (zb_n hF hn)) (cwV 0 C.1.2.2.2.2 gX3_used_X3_countAll rfl rfl rfl (by decide +kernel) ⟨(Nat.le_of_ble_eq_true rfl), (Nat.le_of_ble_eq_true rfl)⟩) (by decide) mce_0 rfl rfl rfl (Nat.le_of_ble_eq_true rfl) dX3_used_6 ⟨(Nat.le_of_ble_eq_true rfl), (Nat.le_of_ble_eq_true rfl)⟩ (fun _ _ h9 => zb_x hF h9) (Nat.le_of_ble_eq_true rfl) (Nat.le_of_ble_eq_true rfl) (fun v3 u2 h4 => ?_)
  replace hF := zb_l hF h4
  exact j_iret C hr hF (Nat.le_of_ble_eq_true rfl) (Nat.le_of_ble_eq_true rfl) dX3_used_9
end
/-! X3_made -/
def rmX3_made : Room := { frames := 10, cells := 0, slots := 0, locals := 120 }
theorem in_X3_made_wsX30 : ∀ w ∈ wsX30, w ∈ wsX3_made := by decide +kernel
section
variable {p : Program} {l : Launch} {e : Env} {s : State} {m : MethodId} {args : Array Value} {below : List Frame} {meth : Method} {c : Code} {D : va_G} {cI cZ : ClassId} {ad : Nat → Nat}
def fX3_made (n : Nat)  (st : zS) : zF Int32 := (zl (upA st 0 (upd (st 0) 0 (0 : Int32))) (fun (s1 : zS) => some (.inl (s1 0 6), s1)))
set_option maxHeartbeats 4000000 in
set_option maxRecDepth 100000 in
theorem kX3_made (hl : l.stackTraces = false) (n : Nat)  (st : zS) (hn : fX3_made n  st ≠ none) : zM (fun v : Int32 => some (.int v)) l yX3_made wsX3_made rmX3_made D zcl (mty cI cZ) 7 ad (mce cI cZ ad) mT 0 0 [.ref (ad 0)] st (fX3_made n  st) := by
  refine z_ofJ (cc := cX3_made) (maxL := 1) (ret := (some .int)) (lv := [(0, .ref (ad 0))]) (by decide) rfl (Nat.le_of_ble_eq_true rfl) rfl ?_
  intro p e s m args below meth c C hne hT hr
  obtain ⟨F, hFe⟩ : ∃ F, F = fX3_made n  st := ⟨_, rfl⟩
  rw [← hFe] at hn ⊢
  have hF : fX3_made n  st = F := hFe.symm
  clear hFe
  unfold fX3_made at hF
  have C : zC p s m args meth c cX3_made RX3 wsX3_made D zcl (mty cI cZ) 7 ad 1 := C
  refine j_aload_n C dX3_made_0 rfl 0 rfl ?_
  refine j_iconst (v := (0 : Int32)) C dX3_made_1 (by decide) ?_
  refine m_put0 C in_X3_made_wsX30 0 (by decide) (by decide +kernel) dX3_made_2 ?_
  obtain ⟨s1, es1, hF⟩ := zl_e hF
  rw [← es1]
  refine j_aload_n C dX3_made_5 rfl 0 rfl ?_
  refine m_get0 C in_X3_made_wsX30 6 (by decide) (by decide +kernel) rfl dX3_made_6 ?_
  exact j_iret C hr hF (Nat.le_of_ble_eq_true rfl) (Nat.le_of_ble_eq_true rfl) dX3_made_9
end
/-! X3_leaf -/
def rmX3_leaf : Room := { frames := 12, cells := 0, slots := 0, locals := 200 }
theorem in_X3_leaf_wsX30 : ∀ w ∈ wsX30, w ∈ wsX3_leaf := by decide +kernel
section
variable {p : Program} {l : Launch} {e : Env} {s : State} {m : MethodId} {args : Array Value} {below : List Frame} {meth : Method} {c : Code} {D : va_G} {cI cZ : ClassId} {ad : Nat → Nat}
def fX3_leaf (n : Nat) (i1 : Int32) (i2 : Int32) (st : zS) : zF Int32 := (zl (upA st 0 (upd (st 0) 0 (0 : Int32))) (fun (s1 : zS) => (zb (fX3_isLeaf n i1 i2 s1) (fun (v3 : Int32) (u2 : zS) => (if v3 = 0 then some (.inl ((-1) : Int32), u2) else (zb (fX3_countAll n  u2) (fun (v7 : Int32) (u6 : zS) => (if inb (((256 : Int32) * i1) + i2) (ml 4) then (if (u6 4 ((((256 : Int32) * i1) + i2)).toNatClampNeg) = ((-1) : Int32) then some (.inl (0 : Int32), u6) else (if inb (u6 4 ((((256 : Int32) * i1) + i2)).toNatClampNeg) (ml 5) then (if (u6 5 ((u6 4 ((((256 : Int32) * i1) + i2)).toNatClampNeg)).toNatClampNeg) ≤ (1 : Int32) then some (.inl (1 : Int32), u6) else some (.inl (2 : Int32), u6)) else none)) else none))))))))
set_option maxHeartbeats 4000000 in
set_option maxRecDepth 100000 in
theorem kX3_leaf (hl : l.stackTraces = false) (n : Nat) (i1 : Int32) (i2 : Int32) (st : zS) (hn : fX3_leaf n i1 i2 st ≠ none) : zM (fun v : Int32 => some (.int v)) l yX3_leaf wsX3_leaf rmX3_leaf D zcl (mty cI cZ) 7 ad (mce cI cZ ad) mT 0 0 [.ref (ad 0), .int i1, .int i2] st (fX3_leaf n i1 i2 st) := by
  refine z_ofJ (cc := cX3_leaf) (maxL := 4) (ret := (some .int)) (lv := [(0, .ref (ad 0)), (1, .int i1), (2, .int i2)]) (by decide) rfl (Nat.le_of_ble_eq_true rfl) rfl ?_
  intro p e s m args below meth c C hne hT hr
  obtain ⟨F, hFe⟩ : ∃ F, F = fX3_leaf n i1 i2 st := ⟨_, rfl⟩
  rw [← hFe] at hn ⊢
  have hF : fX3_leaf n i1 i2 st = F := hFe.symm
  clear hFe
  unfold fX3_leaf at hF
  have C : zC p s m args meth c cX3_leaf RX3 wsX3_leaf D zcl (mty cI cZ) 7 ad 4 := C
  refine j_aload_n C dX3_leaf_0 rfl 0 rfl ?_
  refine j_iconst (v := (0 : Int32)) C dX3_leaf_1 (by decide) ?_
  refine m_put0 C in_X3_leaf_wsX30 0 (by decide) (by decide +kernel) dX3_leaf_2 ?_
  obtain ⟨s1, es1, hF⟩ := zl_e hF
  rw [← es1]
  refine j_aload_n C dX3_leaf_5 rfl 0 rfl ?_
  refine j_iload_n C dX3_leaf_6 rfl 1 rfl ?_
  refine j_iload_n C dX3_leaf_7 rfl 2 rfl ?_
  refine j_callVi C hne mT_S hT (q0 := 0) (As := [.int i1, .int i2]) (rest := []) (kX3_isLeaf hl n i1 i2 s1 (zb_n hF hn)) (cwV 2 C.1.2.2.2.2 gX3_leaf_X3_isLeaf rfl rfl rfl (by decide +kernel) ⟨(Nat.le_of_ble_eq_true rfl), (Nat.le_of_ble_eq_true rfl)⟩) (by decide) mce_0 rfl rfl rfl (Nat.le_of_ble_eq_true rfl) dX3_leaf_8 ⟨(Nat.le_of_ble_eq_true rfl), (Nat.le_of_ble_eq_true rfl)⟩ (fun _ _ h9 => zb_x hF h9) (Nat.le_of_ble_eq_true rfl) (Nat.le_of_ble_eq_true rfl) (fun v3 u2 h4 => ?_)
  replace hF := zb_l hF h4
  refine j_if_ne (tgt := 16) C dX3_leaf_11 (by decide) (fun c5 => ?_) (fun c5 => ?_)
  · replace hF := zif_f hF c5
    refine j_aload_n C dX3_leaf_16 rfl 0 rfl ?_
    refine j_callVi C hne mT_S hT (q0 := 0) (As := []) (rest := []) (kX3_countAll hl n  u2 (zb_n hF hn)) (cwV 0 C.1.2.2.2.2 gX3_leaf_X3_countAll rfl rfl rfl (by decide +kernel) ⟨(Nat.le_of_ble_eq_true rfl), (Nat.le_of_ble_eq_true rfl)⟩) (by decide) mce_0 rfl rfl rfl (Nat.le_of_ble_eq_true rfl) dX3_leaf_17 ⟨(Nat.le_of_ble_eq_true rfl), (Nat.le_of_ble_eq_true rfl)⟩ (fun _ _ h9 => zb_x hF h9) (Nat.le_of_ble_eq_true rfl) (Nat.le_of_ble_eq_true rfl) (fun v7 u6 h8 => ?_)
    replace hF := zb_l hF h8
    refine j_pop C dX3_leaf_20 rfl ?_
    refine j_aload_n C dX3_leaf_21 rfl 0 rfl ?_
    refine m_get0 C in_X3_leaf_wsX30 4 (by decide) (by decide +kernel) rfl dX3_leaf_22 ?_
    refine j_sipush (v := (256 : Int32)) C dX3_leaf_25 (by decide) ?_
    refine j_iload_n C dX3_leaf_28 rfl 1 rfl ?_
    refine j_imul C dX3_leaf_29 ?_
    refine j_iload_n C dX3_leaf_30 rfl 2 rfl ?_
    refine j_iadd C dX3_leaf_31 ?_
    have b9 := zif_c hF hn
    replace hF := zif_t hF b9
    refine m_iald C (by decide) b9 dX3_leaf_32 ?_
    refine j_istore_n (lv' := [(3, .int (u6 4 ((((256 : Int32) * i1) + i2)).toNatClampNeg)), (0, .ref (ad 0)), (1, .int i1), (2, .int i2)]) C dX3_leaf_33 rfl (by decide) rfl ?_
    refine j_iload_n C dX3_leaf_34 rfl 0 rfl ?_
    refine j_iconst (v := ((-1) : Int32)) C dX3_leaf_35 (by decide) ?_
    refine j_icmp_ne (tgt := 43) C dX3_leaf_36 (by decide) (fun c10 => ?_) (fun c10 => ?_)
    · replace hF := zif_f hF c10
      refine j_aload_n C dX3_leaf_43 rfl 1 rfl ?_
      refine m_get0 C in_X3_leaf_wsX30 5 (by decide) (by decide +kernel) rfl dX3_leaf_44 ?_
      refine j_iload_n C dX3_leaf_47 rfl 0 rfl ?_
      have b11 := zif_c hF hn
      replace hF := zif_t hF b11
      refine m_iald C (by decide) b11 dX3_leaf_48 ?_
      refine j_iconst (v := (1 : Int32)) C dX3_leaf_49 (by decide) ?_
      refine j_icmp_le (tgt := 57) C dX3_leaf_50 (by decide) (fun c12 => ?_) (fun c12 => ?_)
      · replace hF := zif_t hF c12
        refine j_iconst (v := (1 : Int32)) C dX3_leaf_57 (by decide) ?_
        exact j_iret C hr hF (Nat.le_of_ble_eq_true rfl) (Nat.le_of_ble_eq_true rfl) dX3_leaf_58
      · replace hF := zif_f hF c12
        refine j_iconst (v := (2 : Int32)) C dX3_leaf_53 (by decide) ?_
        refine j_goto (tgt := 58) C dX3_leaf_54 (by decide) ?_
        exact j_iret C hr hF (Nat.le_of_ble_eq_true rfl) (Nat.le_of_ble_eq_true rfl) dX3_leaf_58
    · replace hF := zif_t hF c10
      refine j_iconst (v := (0 : Int32)) C dX3_leaf_39 (by decide) ?_
      refine j_goto (tgt := 58) C dX3_leaf_40 (by decide) ?_
      exact j_iret C hr hF (Nat.le_of_ble_eq_true rfl) (Nat.le_of_ble_eq_true rfl) dX3_leaf_58
  · replace hF := zif_t hF c5
    refine j_iconst (v := ((-1) : Int32)) C dX3_leaf_14 (by decide) ?_
    exact j_iret C hr hF (Nat.le_of_ble_eq_true rfl) (Nat.le_of_ble_eq_true rfl) dX3_leaf_15
end
/-! X3_alike -/
def rmX3_alike : Room := { frames := 12, cells := 0, slots := 0, locals := 200 }
theorem in_X3_alike_wsX30 : ∀ w ∈ wsX30, w ∈ wsX3_alike := by decide +kernel
section
variable {p : Program} {l : Launch} {e : Env} {s : State} {m : MethodId} {args : Array Value} {below : List Frame} {meth : Method} {c : Code} {D : va_G} {cI cZ : ClassId} {ad : Nat → Nat}
def fX3_alike (n : Nat) (i1 : Int32) (i2 : Int32) (i3 : Int32) (i4 : Int32) (st : zS) : zF Int32 := (zl (upA st 0 (upd (st 0) 0 (0 : Int32))) (fun (s1 : zS) => (zb (fX3_isLeaf n i1 i2 s1) (fun (v3 : Int32) (u2 : zS) => (if v3 = 0 then some (.inl (0 : Int32), u2) else (zb (fX3_isLeaf n i3 i4 u2) (fun (v7 : Int32) (u6 : zS) => (if v7 = 0 then some (.inl (0 : Int32), u6) else (if inb (((256 : Int32) * i1) + i2) (ml 4) then (if (u6 4 ((((256 : Int32) * i1) + i2)).toNatClampNeg) = ((-1) : Int32) then some (.inl (0 : Int32), u6) else (if inb (((256 : Int32) * i1) + i2) (ml 4) then (if inb (((256 : Int32) * i3) + i4) (ml 4) then (if (u6 4 ((((256 : Int32) * i1) + i2)).toNatClampNeg) = (u6 4 ((((256 : Int32) * i3) + i4)).toNatClampNeg) then some (.inl (1 : Int32), u6) else some (.inl (0 : Int32), u6)) else none) else none)) else none)))))))))
set_option maxHeartbeats 4000000 in
set_option maxRecDepth 100000 in
theorem kX3_alike (hl : l.stackTraces = false) (n : Nat) (i1 : Int32) (i2 : Int32) (i3 : Int32) (i4 : Int32) (st : zS) (hn : fX3_alike n i1 i2 i3 i4 st ≠ none) : zM (fun v : Int32 => some (.int v)) l yX3_alike wsX3_alike rmX3_alike D zcl (mty cI cZ) 7 ad (mce cI cZ ad) mT 0 0 [.ref (ad 0), .int i1, .int i2, .int i3, .int i4] st (fX3_alike n i1 i2 i3 i4 st) := by
  refine z_ofJ (cc := cX3_alike) (maxL := 5) (ret := (some .boolean)) (lv := [(0, .ref (ad 0)), (1, .int i1), (2, .int i2), (3, .int i3), (4, .int i4)]) (by decide) rfl (Nat.le_of_ble_eq_true rfl) rfl ?_
  intro p e s m args below meth c C hne hT hr
  obtain ⟨F, hFe⟩ : ∃ F, F = fX3_alike n i1 i2 i3 i4 st := ⟨_, rfl⟩
  rw [← hFe] at hn ⊢
  have hF : fX3_alike n i1 i2 i3 i4 st = F := hFe.symm
  clear hFe
  unfold fX3_alike at hF
  have C : zC p s m args meth c cX3_alike RX3 wsX3_alike D zcl (mty cI cZ) 7 ad 5 := C
  refine j_aload_n C dX3_alike_0 rfl 0 rfl ?_
  refine j_iconst (v := (0 : Int32)) C dX3_alike_1 (by decide) ?_
  refine m_put0 C in_X3_alike_wsX30 0 (by decide) (by decide +kernel) dX3_alike_2 ?_
  obtain ⟨s1, es1, hF⟩ := zl_e hF
  rw [← es1]
  refine j_aload_n C dX3_alike_5 rfl 0 rfl ?_
  refine j_iload_n C dX3_alike_6 rfl 1 rfl ?_
  refine j_iload_n C dX3_alike_7 rfl 2 rfl ?_
  refine j_callVi C hne mT_S hT (q0 := 0) (As := [.int i1, .int i2]) (rest := []) (kX3_isLeaf hl n i1 i2 s1 (zb_n hF hn)) (cwV 2 C.1.2.2.2.2 gX3_alike_X3_isLeaf rfl rfl rfl (by decide +kernel) ⟨(Nat.le_of_ble_eq_true rfl), (Nat.le_of_ble_eq_true rfl)⟩) (by decide) mce_0 rfl rfl rfl (Nat.le_of_ble_eq_true rfl) dX3_alike_8 ⟨(Nat.le_of_ble_eq_true rfl), (Nat.le_of_ble_eq_true rfl)⟩ (fun _ _ h9 => zb_x hF h9) (Nat.le_of_ble_eq_true rfl) (Nat.le_of_ble_eq_true rfl) (fun v3 u2 h4 => ?_)
  replace hF := zb_l hF h4
  refine j_if_eq (tgt := 72) C dX3_alike_11 (by decide) (fun c5 => ?_) (fun c5 => ?_)
  · replace hF := zif_t hF c5
    refine j_iconst (v := (0 : Int32)) C dX3_alike_72 (by decide) ?_
    exact j_zret C hr rfl hF (Nat.le_of_ble_eq_true rfl) (Nat.le_of_ble_eq_true rfl) dX3_alike_73
  · replace hF := zif_f hF c5
    refine j_aload_n C dX3_alike_14 rfl 0 rfl ?_
    refine j_iload_n C dX3_alike_15 rfl 3 rfl ?_
    refine j_iload C dX3_alike_16 4 rfl ?_
    refine j_callVi C hne mT_S hT (q0 := 0) (As := [.int i3, .int i4]) (rest := []) (kX3_isLeaf hl n i3 i4 u2 (zb_n hF hn)) (cwV 2 C.1.2.2.2.2 gX3_alike_X3_isLeaf rfl rfl rfl (by decide +kernel) ⟨(Nat.le_of_ble_eq_true rfl), (Nat.le_of_ble_eq_true rfl)⟩) (by decide) mce_0 rfl rfl rfl (Nat.le_of_ble_eq_true rfl) dX3_alike_18 ⟨(Nat.le_of_ble_eq_true rfl), (Nat.le_of_ble_eq_true rfl)⟩ (fun _ _ h9 => zb_x hF h9) (Nat.le_of_ble_eq_true rfl) (Nat.le_of_ble_eq_true rfl) (fun v7 u6 h8 => ?_)
    replace hF := zb_l hF h8
    refine j_if_eq (tgt := 72) C dX3_alike_21 (by decide) (fun c9 => ?_) (fun c9 => ?_)
    · replace hF := zif_t hF c9
      refine j_iconst (v := (0 : Int32)) C dX3_alike_72 (by decide) ?_
      exact j_zret C hr rfl hF (Nat.le_of_ble_eq_true rfl) (Nat.le_of_ble_eq_true rfl) dX3_alike_73
    · replace hF := zif_f hF c9
      refine j_aload_n C dX3_alike_24 rfl 0 rfl ?_
      refine m_get0 C in_X3_alike_wsX30 4 (by decide) (by decide +kernel) rfl dX3_alike_25 ?_
      refine j_sipush (v := (256 : Int32)) C dX3_alike_28 (by decide) ?_
      refine j_iload_n C dX3_alike_31 rfl 1 rfl ?_
      refine j_imul C dX3_alike_32 ?_
      refine j_iload_n C dX3_alike_33 rfl 2 rfl ?_
      refine j_iadd C dX3_alike_34 ?_
      have b10 := zif_c hF hn
      replace hF := zif_t hF b10
      refine m_iald C (by decide) b10 dX3_alike_35 ?_
      refine j_iconst (v := ((-1) : Int32)) C dX3_alike_36 (by decide) ?_
      refine j_icmp_eq (tgt := 72) C dX3_alike_37 (by decide) (fun c11 => ?_) (fun c11 => ?_)
      · replace hF := zif_t hF c11
        refine j_iconst (v := (0 : Int32)) C dX3_alike_72 (by decide) ?_
        exact j_zret C hr rfl hF (Nat.le_of_ble_eq_true rfl) (Nat.le_of_ble_eq_true rfl) dX3_alike_73
      · replace hF := zif_f hF c11
        refine j_aload_n C dX3_alike_40 rfl 0 rfl ?_
        refine m_get0 C in_X3_alike_wsX30 4 (by decide) (by decide +kernel) rfl dX3_alike_41 ?_
        refine j_sipush (v := (256 : Int32)) C dX3_alike_44 (by decide) ?_
        refine j_iload_n C dX3_alike_47 rfl 1 rfl ?_
        refine j_imul C dX3_alike_48 ?_
        refine j_iload_n C dX3_alike_49 rfl 2 rfl ?_
        refine j_iadd C dX3_alike_50 ?_
        have b12 := zif_c hF hn
        replace hF := zif_t hF b12
        refine m_iald C (by decide) b12 dX3_alike_51 ?_
        refine j_aload_n C dX3_alike_52 rfl 0 rfl ?_
        refine m_get0 C in_X3_alike_wsX30 4 (by decide) (by decide +kernel) rfl dX3_alike_53 ?_
        refine j_sipush (v := (256 : Int32)) C dX3_alike_56 (by decide) ?_
        refine j_iload_n C dX3_alike_59 rfl 3 rfl ?_
        refine j_imul C dX3_alike_60 ?_
        refine j_iload C dX3_alike_61 4 rfl ?_
        refine j_iadd C dX3_alike_63 ?_
        have b13 := zif_c hF hn
        replace hF := zif_t hF b13
        refine m_iald C (by decide) b13 dX3_alike_64 ?_
        refine j_icmp_ne (tgt := 72) C dX3_alike_65 (by decide) (fun c14 => ?_) (fun c14 => ?_)
        · replace hF := zif_f hF c14
          refine j_iconst (v := (0 : Int32)) C dX3_alike_72 (by decide) ?_
          exact j_zret C hr rfl hF (Nat.le_of_ble_eq_true rfl) (Nat.le_of_ble_eq_true rfl) dX3_alike_73
        · replace hF := zif_t hF c14
          refine j_iconst (v := (1 : Int32)) C dX3_alike_68 (by decide) ?_
          refine j_goto (tgt := 73) C dX3_alike_69 (by decide) ?_
          exact j_zret C hr rfl hF (Nat.le_of_ble_eq_true rfl) (Nat.le_of_ble_eq_true rfl) dX3_alike_73
end
