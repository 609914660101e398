/-! X2_fillValues -/
def rmX2_fillValues : Room := { frames := 15, cells := 1, slots := 6, locals := 320 }
theorem in_X2_fillValues_wsX20 : ∀ w ∈ wsX20, w ∈ wsX2_fillValues := by decide +kernel
section
variable {p : Program} {l : Launch} {e : Env} {s : State} {m : MethodId} {args : Array Value} {below : List Frame} {meth : Method} {c : Code} {D : va_G} {cI cR : ClassId} {ad : Nat → Nat}
def fX2_fillValues (n : Nat) (r1 : Nat) (i2 : Int32) (i3 : Int32) (i4 : Int32) (st : zS) : zF Unit := (zb (fX2_leavesFor n i3 st) (fun (v2 : Int32) (u1 : zS) => (zb (fX2_readLeaves n r1 (i2 / (16 : Int32)) v2 u1) (fun (v5 : Unit) (u4 : zS) => (zb (fJ7_fill_fda19 n 6 i2 i3 i4 u4) (fun (v8 : Unit) (u7 : zS) => (zb (fX2_changeLeaves n r1 (i2 / (16 : Int32)) v2 u7) (fun (v11 : Unit) (u10 : zS) => some (.inl (), u10)))))))))
set_option maxHeartbeats 4000000 in
set_option maxRecDepth 100000 in
theorem kX2_fillValues (hl : l.stackTraces = false) (n : Nat) (r1 : Nat) (hr1 : isRow r1) (i2 : Int32) (i3 : Int32) (i4 : Int32) (st : zS) (hn : fX2_fillValues n r1 i2 i3 i4 st ≠ none) : zM (fun _ : Unit => none) l yX2_fillValues wsX2_fillValues rmX2_fillValues D zcl (zty cI cR) 57 ad (sce cI cR ad) (sT ad) 1 6 [.ref (ad 0), .ref (ad r1), .int i2, .int i3, .int i4] st (fX2_fillValues n r1 i2 i3 i4 st) := by
  refine z_ofJ (cc := cX2_fillValues) (maxL := 7) (ret := none) (lv := [(0, .ref (ad 0)), (1, .ref (ad r1)), (2, .int i2), (3, .int i3), (4, .int i4)]) (by decide) rfl (Nat.le_of_ble_eq_true rfl) rfl ?_
  intro p e s m args below meth c C hne hT hr
  obtain ⟨F, hFe⟩ : ∃ F, F = fX2_fillValues n r1 i2 i3 i4 st := ⟨_, rfl⟩
  rw [← hFe] at hn ⊢
  have hF : fX2_fillValues n r1 i2 i3 i4 st = F := hFe.symm
  clear hFe
  unfold fX2_fillValues at hF
  have C : zC p s m args meth c cX2_fillValues RX2 wsX2_fillValues D zcl (zty cI cR) 57 ad 7 := C
  refine j_iload_n C dX2_fillValues_0 rfl 2 rfl ?_
  refine j_bipush (v := (16 : Int32)) C dX2_fillValues_1 (by decide) ?_
  refine j_idiv C dX2_fillValues_3 (by decide) ?_
  refine j_istore (lv' := [(5, .int (i2 / (16 : Int32))), (0, .ref (ad 0)), (1, .ref (ad r1)), (2, .int i2), (3, .int i3), (4, .int i4)]) C dX2_fillValues_4 (by decide) rfl ?_
  refine j_iload_n C dX2_fillValues_6 rfl 4 rfl ?_
  refine j_callSi C hne sT_S hT (As := [.int i3]) (rest := []) (kX2_leavesFor hl n i3 st (zb_n hF hn)) (va_cwS 1 C.1.2.2.2.2 gX2_fillValues_X2_leavesFor rfl rfl rfl (by decide +kernel) ⟨(Nat.le_of_ble_eq_true rfl), (Nat.le_of_ble_eq_true rfl)⟩) rfl rfl (Nat.le_of_ble_eq_true rfl) dX2_fillValues_7 ⟨(Nat.le_of_ble_eq_true rfl), (Nat.le_of_ble_eq_true rfl)⟩ (fun _ _ h9 => zb_x hF h9) (Nat.le_of_ble_eq_true rfl) (Nat.le_of_ble_eq_true rfl) (fun v2 u1 h3 => ?_)
  replace hF := zb_l hF h3
  refine j_istore (lv' := [(6, .int v2), (5, .int (i2 / (16 : Int32))), (0, .ref (ad 0)), (1, .ref (ad r1)), (2, .int i2), (3, .int i3), (4, .int i4)]) C dX2_fillValues_10 (by decide) rfl ?_
  refine j_aload_n C dX2_fillValues_12 rfl 2 rfl ?_
  refine j_aload_n C dX2_fillValues_13 rfl 3 rfl ?_
  refine j_iload C dX2_fillValues_14 1 rfl ?_
  refine j_iload C dX2_fillValues_16 0 rfl ?_
  refine j_callVv C hne sT_S hT (q0 := 0) (As := [.ref (ad r1), .int (i2 / (16 : Int32)), .int v2]) (rest := []) (kX2_readLeaves hl n r1 hr1 (i2 / (16 : Int32)) v2 u1 (zb_n hF hn)) (cwV 3 C.1.2.2.2.2 gX2_fillValues_X2_readLeaves rfl rfl rfl (by decide +kernel) ⟨(Nat.le_of_ble_eq_true rfl), (Nat.le_of_ble_eq_true rfl)⟩) (by decide) sce_0 rfl rfl rfl (Nat.le_of_ble_eq_true rfl) dX2_fillValues_18 ⟨(Nat.le_of_ble_eq_true rfl), (Nat.le_of_ble_eq_true rfl)⟩ (fun _ _ h9 => zb_x hF h9) (Nat.le_of_ble_eq_true rfl) (Nat.le_of_ble_eq_true rfl) (fun v5 u4 h6 => ?_)
  replace hF := zb_l hF h6
  refine j_aload_n C dX2_fillValues_21 rfl 2 rfl ?_
  refine s_get0 C in_X2_fillValues_wsX20 2 (by decide) (by decide +kernel) 6 rfl dX2_fillValues_22 ?_
  refine j_iload_n C dX2_fillValues_25 rfl 4 rfl ?_
  refine j_iload_n C dX2_fillValues_26 rfl 5 rfl ?_
  refine j_iload C dX2_fillValues_27 6 rfl ?_
  refine j_callSv C hne sT_S hT (As := [.ref (ad 6), .int i2, .int i3, .int i4]) (rest := []) (kJ7_fill_fda19 hl n 6 (by decide) i2 i3 i4 u4 (zb_n hF hn)) (va_cwS 4 C.1.2.2.2.2 gX2_fillValues_J7_fill_fda19 rfl rfl rfl (by decide +kernel) ⟨(Nat.le_of_ble_eq_true rfl), (Nat.le_of_ble_eq_true rfl)⟩) rfl rfl (Nat.le_of_ble_eq_true rfl) dX2_fillValues_29 ⟨(Nat.le_of_ble_eq_true rfl), (Nat.le_of_ble_eq_true rfl)⟩ (fun _ _ h9 => zb_x hF h9) (Nat.le_of_ble_eq_true rfl) (Nat.le_of_ble_eq_true rfl) (fun v8 u7 h9 => ?_)
  replace hF := zb_l hF h9
  refine j_aload_n C dX2_fillValues_32 rfl 2 rfl ?_
  refine j_aload_n C dX2_fillValues_33 rfl 3 rfl ?_
  refine j_iload C dX2_fillValues_34 1 rfl ?_
  refine j_iload C dX2_fillValues_36 0 rfl ?_
  refine j_callVv C hne sT_S hT (q0 := 0) (As := [.ref (ad r1), .int (i2 / (16 : Int32)), .int v2]) (rest := []) (kX2_changeLeaves hl n r1 hr1 (i2 / (16 : Int32)) v2 u7 (zb_n hF hn)) (cwV 3 C.1.2.2.2.2 gX2_fillValues_X2_changeLeaves rfl rfl rfl (by decide +kernel) ⟨(Nat.le_of_ble_eq_true rfl), (Nat.le_of_ble_eq_true rfl)⟩) (by decide) sce_0 rfl rfl rfl (Nat.le_of_ble_eq_true rfl) dX2_fillValues_38 ⟨(Nat.le_of_ble_eq_true rfl), (Nat.le_of_ble_eq_true rfl)⟩ (fun _ _ h9 => zb_x hF h9) (Nat.le_of_ble_eq_true rfl) (Nat.le_of_ble_eq_true rfl) (fun v11 u10 h12 => ?_)
  replace hF := zb_l hF h12
  exact j_vret C hr hF (Nat.le_of_ble_eq_true rfl) (Nat.le_of_ble_eq_true rfl) dX2_fillValues_41
end
/-! X2_mergeInNext -/
def rmX2_mergeInNext : Room := { frames := 10, cells := 0, slots := 0, locals := 120 }
theorem in_X2_mergeInNext_wsX20 : ∀ w ∈ wsX20, w ∈ wsX2_mergeInNext := by decide +kernel
section
variable {p : Program} {l : Launch} {e : Env} {s : State} {m : MethodId} {args : Array Value} {below : List Frame} {meth : Method} {c : Code} {D : va_G} {cI cR : ClassId} {ad : Nat → Nat}
def fX2_mergeInNext_98 (n : Nat) (B_43 : Int32 → Int32 → Int32 → Int32 → Int32 → zS → zF Unit) (i2 : Int32) (i3 : Int32) (i4 : Int32) (i5 : Int32) (i6 : Int32) (st : zS) : zF Unit := (if inb i4 (al 7) then (if inb i6 (al 6) then (zl (upA st 6 (upd (st 6) (i6).toNatClampNeg (st 7 (i4).toNatClampNeg))) (fun (s11 : zS) => B_43 i2 i3 (i4 + (1 : Int32)) i5 (i6 + (1 : Int32)) s11)) else none) else none)
set_option maxHeartbeats 4000000 in
set_option maxRecDepth 100000 in
theorem wX2_mergeInNext_98 (C : zC p s m args meth c cX2_mergeInNext RX2 wsX2_mergeInNext D zcl (zty cI cR) 57 ad 7) (hne : ∀ x ∈ c.exceptionTable.toList, False) (hl : l.stackTraces = false) (hT : (sT ad) s.heap.size s) (hr : meth.sig.returnType = none) {F : zF Unit} (hn : F ≠ none) (n : Nat) {B_43 : Int32 → Int32 → Int32 → Int32 → Int32 → zS → zF Unit} (hB_43 : ∀ (i2 : Int32) (i3 : Int32) (i4 : Int32) (i5 : Int32) (i6 : Int32) (st : zS), B_43 i2 i3 i4 i5 i6 st = F → sJ (fun _ : Unit => none) F 0 0 p l e rmX2_mergeInNext s m args below meth c D cI cR ad 7 st 0 0 43 [(0, .ref (ad 0)), (2, .int i2), (3, .int i3), (4, .int i4), (5, .int i5), (6, .int i6)] []) : ∀ (i2 : Int32) (i3 : Int32) (i4 : Int32) (i5 : Int32) (i6 : Int32) (st : zS), fX2_mergeInNext_98 n B_43 i2 i3 i4 i5 i6 st = F → sJ (fun _ : Unit => none) F 0 0 p l e rmX2_mergeInNext s m args below meth c D cI cR ad 7 st 0 0 98 [(0, .ref (ad 0)), (2, .int i2), (3, .int i3), (4, .int i4), (5, .int i5), (6, .int i6)] [] := by
  intro i2 i3 i4 i5 i6 st hF
  unfold fX2_mergeInNext_98 at hF
  refine j_aload_n C dX2_mergeInNext_98 rfl 0 rfl ?_
  refine s_get0 C in_X2_mergeInNext_wsX20 2 (by decide) (by decide +kernel) 6 rfl dX2_mergeInNext_99 ?_
  refine j_iload C dX2_mergeInNext_102 5 rfl ?_
  refine j_aload_n C dX2_mergeInNext_104 rfl 0 rfl ?_
  refine s_get0 C in_X2_mergeInNext_wsX20 3 (by decide) (by decide +kernel) 7 rfl dX2_mergeInNext_105 ?_
  refine j_iload C dX2_mergeInNext_108 3 rfl ?_
  have b9 := zif_c hF hn
  replace hF := zif_t hF b9
  refine s_iald C (by decide) b9 dX2_mergeInNext_110 ?_
  have b10 := zif_c hF hn
  replace hF := zif_t hF b10
  refine s_iast C (by decide) b10 dX2_mergeInNext_111 ?_
  obtain ⟨s11, es11, hF⟩ := zl_e hF
  rw [← es11]
  refine j_iinc (lv' := [(4, .int (i4 + (1 : Int32))), (0, .ref (ad 0)), (2, .int i2), (3, .int i3), (5, .int i5), (6, .int i6)]) C dX2_mergeInNext_112 3 rfl rfl (by decide) rfl ?_
  refine j_iinc (lv' := [(6, .int (i6 + (1 : Int32))), (4, .int (i4 + (1 : Int32))), (0, .ref (ad 0)), (2, .int i2), (3, .int i3), (5, .int i5)]) C dX2_mergeInNext_115 5 rfl rfl (by decide) rfl ?_
  refine j_goto (tgt := 43) C dX2_mergeInNext_118 (by decide) ?_
  refine j_sub [2, 3, 4, 1, 5, 0] rfl ?_
  exact hB_43 i2 i3 (i4 + (1 : Int32)) i5 (i6 + (1 : Int32)) s11 hF
def fX2_mergeInNext_43 (n : Nat) (X_121 : zS → zF Unit) : Nat → Int32 → Int32 → Int32 → Int32 → Int32 → zS → zF Unit
  | 0, _, _, _, _, _, _ => none
  | k + 1, i2, i3, i4, i5, i6, st => (if i3 ≤ i6 then X_121 st else (if i2 ≤ i4 then X_121 st else (if i3 ≤ i5 then fX2_mergeInNext_98 n (fun (i2 : Int32) (i3 : Int32) (i4 : Int32) (i5 : Int32) (i6 : Int32) (st : zS) => fX2_mergeInNext_43 n X_121 k i2 i3 i4 i5 i6 st) i2 i3 i4 i5 i6 st else (if inb i5 (al 6) then (if inb i4 (al 7) then (if (st 7 (i4).toNatClampNeg) ≤ (st 6 (i5).toNatClampNeg) then fX2_mergeInNext_98 n (fun (i2 : Int32) (i3 : Int32) (i4 : Int32) (i5 : Int32) (i6 : Int32) (st : zS) => fX2_mergeInNext_43 n X_121 k i2 i3 i4 i5 i6 st) i2 i3 i4 i5 i6 st else (if inb i5 (al 6) then (if inb i6 (al 6) then (zl (upA st 6 (upd (st 6) (i6).toNatClampNeg (st 6 (i5).toNatClampNeg))) (fun (s17 : zS) => fX2_mergeInNext_43 n X_121 k i2 i3 i4 (i5 + (1 : Int32)) (i6 + (1 : Int32)) s17)) else none) else none)) else none) else none))))
set_option maxHeartbeats 4000000 in
set_option maxRecDepth 100000 in
theorem wX2_mergeInNext_43 (C : zC p s m args meth c cX2_mergeInNext RX2 wsX2_mergeInNext D zcl (zty cI cR) 57 ad 7) (hne : ∀ x ∈ c.exceptionTable.toList, False) (hl : l.stackTraces = false) (hT : (sT ad) s.heap.size s) (hr : meth.sig.returnType = none) {F : zF Unit} (hn : F ≠ none) (n : Nat) {X_121 : zS → zF Unit} (hX_121 : ∀  (st : zS), X_121 st = F → sJ (fun _ : Unit => none) F 0 0 p l e rmX2_mergeInNext s m args below meth c D cI cR ad 7 st 0 0 121 [] []) : ∀ (k : Nat) (i2 : Int32) (i3 : Int32) (i4 : Int32) (i5 : Int32) (i6 : Int32) (st : zS), fX2_mergeInNext_43 n X_121 k i2 i3 i4 i5 i6 st = F → sJ (fun _ : Unit => none) F 0 0 p l e rmX2_mergeInNext s m args below meth c D cI cR ad 7 st 0 0 43 [(0, .ref (ad 0)), (2, .int i2), (3, .int i3), (4, .int i4), (5, .int i5), (6, .int i6)] [] := by
  intro k
  induction k with
  | zero =>
    intro i2 i3 i4 i5 i6 st hF
    exact absurd hF.symm hn
  | succ k ih =>
    intro i2 i3 i4 i5 i6 st hF
    rw [fX2_mergeInNext_43] at hF
    refine j_iload C dX2_mergeInNext_43 5 rfl ?_
    refine j_iload_n C dX2_mergeInNext_45 rfl 2 rfl ?_
    refine j_icmp_ge (tgt := 121) C dX2_mergeInNext_46 (by decide) (fun c6 => ?_) (fun c6 => ?_)
    · replace hF := zif_t hF c6
      refine j_sub [] rfl ?_
      exact hX_121 st hF
    · replace hF := zif_f hF c6
      refine j_iload C dX2_mergeInNext_49 3 rfl ?_
      refine j_iload_n C dX2_mergeInNext_51 rfl 1 rfl ?_
      refine j_icmp_ge (tgt := 121) C dX2_mergeInNext_52 (by decide) (fun c7 => ?_) (fun c7 => ?_)
      · replace hF := zif_t hF c7
        refine j_sub [] rfl ?_
        exact hX_121 st hF
      · replace hF := zif_f hF c7
        refine j_iload C dX2_mergeInNext_55 4 rfl ?_
        refine j_iload_n C dX2_mergeInNext_57 rfl 2 rfl ?_
        refine j_icmp_ge (tgt := 98) C dX2_mergeInNext_58 (by decide) (fun c8 => ?_) (fun c8 => ?_)
        · replace hF := zif_t hF c8
          refine wX2_mergeInNext_98 C hne hl hT hr hn n ?_ i2 i3 i4 i5 i6 st hF
          · intro i2 i3 i4 i5 i6 st hF
            exact ih i2 i3 i4 i5 i6 st hF
        · replace hF := zif_f hF c8
          refine j_aload_n C dX2_mergeInNext_61 rfl 0 rfl ?_
          refine s_get0 C in_X2_mergeInNext_wsX20 2 (by decide) (by decide +kernel) 6 rfl dX2_mergeInNext_62 ?_
          refine j_iload C dX2_mergeInNext_65 4 rfl ?_
          have b12 := zif_c hF hn
          replace hF := zif_t hF b12
          refine s_iald C (by decide) b12 dX2_mergeInNext_67 ?_
          refine j_aload_n C dX2_mergeInNext_68 rfl 0 rfl ?_
          refine s_get0 C in_X2_mergeInNext_wsX20 3 (by decide) (by decide +kernel) 7 rfl dX2_mergeInNext_69 ?_
          refine j_iload C dX2_mergeInNext_72 3 rfl ?_
          have b13 := zif_c hF hn
          replace hF := zif_t hF b13
          refine s_iald C (by decide) b13 dX2_mergeInNext_74 ?_
          refine j_icmp_ge (tgt := 98) C dX2_mergeInNext_75 (by decide) (fun c14 => ?_) (fun c14 => ?_)
          · replace hF := zif_t hF c14
            refine wX2_mergeInNext_98 C hne hl hT hr hn n ?_ i2 i3 i4 i5 i6 st hF
            · intro i2 i3 i4 i5 i6 st hF
              exact ih i2 i3 i4 i5 i6 st hF
          · replace hF := zif_f hF c14
            refine j_aload_n C dX2_mergeInNext_78 rfl 0 rfl ?_
            refine s_get0 C in_X2_mergeInNext_wsX20 2 (by decide) (by decide +kernel) 6 rfl dX2_mergeInNext_79 ?_
            refine j_iload C dX2_mergeInNext_82 5 rfl ?_
            refine j_aload_n C dX2_mergeInNext_84 rfl 0 rfl ?_
            refine s_get0 C in_X2_mergeInNext_wsX20 2 (by decide) (by decide +kernel) 6 rfl dX2_mergeInNext_85 ?_
            refine j_iload C dX2_mergeInNext_88 4 rfl ?_
            have b15 := zif_c hF hn
            replace hF := zif_t hF b15
            refine s_iald C (by decide) b15 dX2_mergeInNext_90 ?_
            have b16 := zif_c hF hn
            replace hF := zif_t hF b16
            refine s_iast C (by decide) b16 dX2_mergeInNext_91 ?_
            obtain ⟨s17, es17, hF⟩ := zl_e hF
            rw [← es17]
            refine j_iinc (lv' := [(5, .int (i5 + (1 : Int32))), (0, .ref (ad 0)), (2, .int i2), (3, .int i3), (4, .int i4), (6, .int i6)]) C dX2_mergeInNext_92 4 rfl rfl (by decide) rfl ?_
            refine j_goto (tgt := 115) C dX2_mergeInNext_95 (by decide) ?_
            refine j_iinc (lv' := [(6, .int (i6 + (1 : Int32))), (5, .int (i5 + (1 : Int32))), (0, .ref (ad 0)), (2, .int i2), (3, .int i3), (4, .int i4)]) C dX2_mergeInNext_115 5 rfl rfl (by decide) rfl ?_
            refine j_goto (tgt := 43) C dX2_mergeInNext_118 (by decide) ?_
            refine j_sub [2, 3, 4, 5, 1, 0] rfl ?_
            exact ih i2 i3 i4 (i5 + (1 : Int32)) (i6 + (1 : Int32)) s17 hF
def fX2_mergeInNext (n : Nat) (i1 : Int32) (i2 : Int32) (i3 : Int32) (st : zS) : zF Unit := (if inb (i2 - (1 : Int32)) (al 6) then (if inb i2 (al 6) then (if (st 6 (i2).toNatClampNeg) < (st 6 ((i2 - (1 : Int32))).toNatClampNeg) then (if cpok i1 i1 (i2 - i1) (al 6) (al 7) then (zl (upA st 7 (va_cpy (st 6) (st 7) (i1).toNatClampNeg (i1).toNatClampNeg ((i2 - i1)).toNatClampNeg)) (fun (s5 : zS) => fX2_mergeInNext_43 n (fun  (st : zS) => some (.inl (), st)) n i2 i3 i1 i2 i1 s5)) else none) else some (.inl (), st)) else none) else none)
set_option maxHeartbeats 4000000 in
set_option maxRecDepth 100000 in
theorem kX2_mergeInNext (hl : l.stackTraces = false) (n : Nat) (i1 : Int32) (i2 : Int32) (i3 : Int32) (st : zS) (hn : fX2_mergeInNext n i1 i2 i3 st ≠ none) : zM (fun _ : Unit => none) l yX2_mergeInNext wsX2_mergeInNext rmX2_mergeInNext D zcl (zty cI cR) 57 ad (sce cI cR ad) (sT ad) 0 0 [.ref (ad 0), .int i1, .int i2, .int i3] st (fX2_mergeInNext n i1 i2 i3 st) := by
  refine z_ofJ (cc := cX2_mergeInNext) (maxL := 7) (ret := none) (lv := [(0, .ref (ad 0)), (1, .int i1), (2, .int i2), (3, .int i3)]) (by decide) rfl (Nat.le_of_ble_eq_true rfl) rfl ?_
  intro p e s m args below meth c C hne hT hr
  obtain ⟨F, hFe⟩ : ∃ F, F = fX2_mergeInNext n i1 i2 i3 st := ⟨_, rfl⟩
  rw [← hFe] at hn ⊢
  have hF : fX2_mergeInNext n i1 i2 i3 st = F := hFe.symm
  clear hFe
  unfold fX2_mergeInNext at hF
  have C : zC p s m args meth c cX2_mergeInNext RX2 wsX2_mergeInNext D zcl (zty cI cR) 57 ad 7 := C
  refine j_aload_n C dX2_mergeInNext_0 rfl 0 rfl ?_
  refine s_get0 C in_X2_mergeInNext_wsX20 2 (by decide) (by decide +kernel) 6 rfl dX2_mergeInNext_1 ?_
  refine j_iload_n C dX2_mergeInNext_4 rfl 2 rfl ?_
  refine j_iconst (v := (1 : Int32)) C dX2_mergeInNext_5 (by decide) ?_
  refine j_isub C dX2_mergeInNext_6 ?_
  have b1 := zif_c hF hn
  replace hF := zif_t hF b1
  refine s_iald C (by decide) b1 dX2_mergeInNext_7 ?_
  refine j_aload_n C dX2_mergeInNext_8 rfl 0 rfl ?_
  refine s_get0 C in_X2_mergeInNext_wsX20 2 (by decide) (by decide +kernel) 6 rfl dX2_mergeInNext_9 ?_
  refine j_iload_n C dX2_mergeInNext_12 rfl 2 rfl ?_
  have b2 := zif_c hF hn
  replace hF := zif_t hF b2
  refine s_iald C (by decide) b2 dX2_mergeInNext_13 ?_
  refine j_icmp_gt (tgt := 18) C dX2_mergeInNext_14 (by decide) (fun c3 => ?_) (fun c3 => ?_)
  · replace hF := zif_t hF c3
    refine j_aload_n C dX2_mergeInNext_18 rfl 0 rfl ?_
    refine s_get0 C in_X2_mergeInNext_wsX20 2 (by decide) (by decide +kernel) 6 rfl dX2_mergeInNext_19 ?_
    refine j_iload_n C dX2_mergeInNext_22 rfl 1 rfl ?_
    refine j_aload_n C dX2_mergeInNext_23 rfl 0 rfl ?_
    refine s_get0 C in_X2_mergeInNext_wsX20 3 (by decide) (by decide +kernel) 7 rfl dX2_mergeInNext_24 ?_
    refine j_iload_n C dX2_mergeInNext_27 rfl 1 rfl ?_
    refine j_iload_n C dX2_mergeInNext_28 rfl 2 rfl ?_
    refine j_iload_n C dX2_mergeInNext_29 rfl 1 rfl ?_
    refine j_isub C dX2_mergeInNext_30 ?_
    have b4 := zif_c hF hn
    replace hF := zif_t hF b4
    refine s_copy C (by decide +kernel) (by decide +kernel) (by decide +kernel) (by decide +kernel) (by decide) (by decide) b4 (Nat.le_of_ble_eq_true rfl) (Nat.le_of_ble_eq_true rfl) dX2_mergeInNext_31 ?_
    obtain ⟨s5, es5, hF⟩ := zl_e hF
    rw [← es5]
    refine j_iload_n C dX2_mergeInNext_34 rfl 1 rfl ?_
    refine j_istore (lv' := [(4, .int i1), (0, .ref (ad 0)), (1, .int i1), (2, .int i2), (3, .int i3)]) C dX2_mergeInNext_35 (by decide) rfl ?_
    refine j_iload_n C dX2_mergeInNext_37 rfl 3 rfl ?_
    refine j_istore (lv' := [(5, .int i2), (4, .int i1), (0, .ref (ad 0)), (1, .int i1), (2, .int i2), (3, .int i3)]) C dX2_mergeInNext_38 (by decide) rfl ?_
    refine j_iload_n C dX2_mergeInNext_40 rfl 3 rfl ?_
    refine j_istore (lv' := [(6, .int i1), (5, .int i2), (4, .int i1), (0, .ref (ad 0)), (1, .int i1), (2, .int i2), (3, .int i3)]) C dX2_mergeInNext_41 (by decide) rfl ?_
    refine j_sub [3, 5, 6, 2, 1, 0] rfl ?_
    refine wX2_mergeInNext_43 C hne hl hT hr hn n ?_ n i2 i3 i1 i2 i1 s5 hF
    · intro  st hF
      exact j_vret C hr hF (Nat.le_of_ble_eq_true rfl) (Nat.le_of_ble_eq_true rfl) dX2_mergeInNext_121
  · replace hF := zif_f hF c3
    exact j_vret C hr hF (Nat.le_of_ble_eq_true rfl) (Nat.le_of_ble_eq_true rfl) dX2_mergeInNext_17
end
/-! X2_sortNext -/
def rmX2_sortNext : Room := { frames := 11, cells := 0, slots := 0, locals := 160 }
section
variable {p : Program} {l : Launch} {e : Env} {s : State} {m : MethodId} {args : Array Value} {below : List Frame} {meth : Method} {c : Code} {D : va_G} {cI cR : ClassId} {ad : Nat → Nat}
def fX2_sortNext_9 (n : Nat) (X_42 : Int32 → Int32 → zS → zF Unit) : Nat → Int32 → Int32 → Int32 → zS → zF Unit
  | 0, _, _, _, _ => none
  | k + 1, i1, i2, i3, st => (if i1 ≤ (i3 + i2) then X_42 i1 i2 st else (zb (fX2_mergeInNext n i3 (i3 + i2) (if i1 < (i3 + ((2 : Int32) * i2)) then i1 else (i3 + ((2 : Int32) * i2))) st) (fun (v4 : Unit) (u3 : zS) => fX2_sortNext_9 n X_42 k i1 i2 (i3 + ((2 : Int32) * i2)) u3)))
set_option maxHeartbeats 4000000 in
set_option maxRecDepth 100000 in
theorem wX2_sortNext_9 (C : zC p s m args meth c cX2_sortNext RX2 wsX2_sortNext D zcl (zty cI cR) 57 ad 4) (hne : ∀ x ∈ c.exceptionTable.toList, False) (hl : l.stackTraces = false) (hT : (sT ad) s.heap.size s) (hr : meth.sig.returnType = none) {F : zF Unit} (hn : F ≠ none) (n : Nat) {X_42 : Int32 → Int32 → zS → zF Unit} (hX_42 : ∀ (i1 : Int32) (i2 : Int32) (st : zS), X_42 i1 i2 st = F → sJ (fun _ : Unit => none) F 0 0 p l e rmX2_sortNext s m args below meth c D cI cR ad 4 st 0 0 42 [(0, .ref (ad 0)), (1, .int i1), (2, .int i2)] []) : ∀ (k : Nat) (i1 : Int32) (i2 : Int32) (i3 : Int32) (st : zS), fX2_sortNext_9 n X_42 k i1 i2 i3 st = F → sJ (fun _ : Unit => none) F 0 0 p l e rmX2_sortNext s m args below meth c D cI cR ad 4 st 0 0 9 [(0, .ref (ad 0)), (1, .int i1), (2, .int i2), (3, .int i3)] [] := by
  intro k
  induction k with
  | zero =>
    intro i1 i2 i3 st hF
    exact absurd hF.symm hn
  | succ k ih =>
    intro i1 i2 i3 st hF
    rw [fX2_sortNext_9] at hF
    refine j_iload_n C dX2_sortNext_9 rfl 3 rfl ?_
    refine j_iload_n C dX2_sortNext_10 rfl 2 rfl ?_
    refine j_iadd C dX2_sortNext_11 ?_
    refine j_iload_n C dX2_sortNext_12 rfl 1 rfl ?_
    refine j_icmp_ge (tgt := 42) C dX2_sortNext_13 (by decide) (fun c2 => ?_) (fun c2 => ?_)
    · replace hF := zif_t hF c2
      refine j_sub [0, 1, 2] rfl ?_
      exact hX_42 i1 i2 st hF
    · replace hF := zif_f hF c2
      refine j_aload_n C dX2_sortNext_16 rfl 0 rfl ?_
      refine j_iload_n C dX2_sortNext_17 rfl 3 rfl ?_
      refine j_iload_n C dX2_sortNext_18 rfl 3 rfl ?_
      refine j_iload_n C dX2_sortNext_19 rfl 2 rfl ?_
      refine j_iadd C dX2_sortNext_20 ?_
      refine j_iload_n C dX2_sortNext_21 rfl 3 rfl ?_
      refine j_iconst (v := (2 : Int32)) C dX2_sortNext_22 (by decide) ?_
      refine j_iload_n C dX2_sortNext_23 rfl 2 rfl ?_
      refine j_imul C dX2_sortNext_24 ?_
      refine j_iadd C dX2_sortNext_25 ?_
      refine j_iload_n C dX2_sortNext_26 rfl 1 rfl ?_
      refine j_mmin C (by decide +kernel) (by decide +kernel) (by decide +kernel) (by decide +kernel) (Nat.le_of_ble_eq_true rfl) (Nat.le_of_ble_eq_true rfl) (Nat.le_of_ble_eq_true rfl) (Nat.le_of_ble_eq_true rfl) dX2_sortNext_27 ?_
      refine j_callVv C hne sT_S hT (q0 := 0) (As := [.int i3, .int (i3 + i2), .int (if i1 < (i3 + ((2 : Int32) * i2)) then i1 else (i3 + ((2 : Int32) * i2)))]) (rest := []) (kX2_mergeInNext hl n i3 (i3 + i2) (if i1 < (i3 + ((2 : Int32) * i2)) then i1 else (i3 + ((2 : Int32) * i2))) st (zb_n hF hn)) (cwV 3 C.1.2.2.2.2 gX2_sortNext_X2_mergeInNext rfl rfl rfl (by decide +kernel) ⟨(Nat.le_of_ble_eq_true rfl), (Nat.le_of_ble_eq_true rfl)⟩) (by decide) sce_0 rfl rfl rfl (Nat.le_of_ble_eq_true rfl) dX2_sortNext_30 ⟨(Nat.le_of_ble_eq_true rfl), (Nat.le_of_ble_eq_true rfl)⟩ (fun _ _ h9 => zb_x hF h9) (Nat.le_of_ble_eq_true rfl) (Nat.le_of_ble_eq_true rfl) (fun v4 u3 h5 => ?_)
      replace hF := zb_l hF h5
      refine j_iload_n C dX2_sortNext_33 rfl 3 rfl ?_
      refine j_iconst (v := (2 : Int32)) C dX2_sortNext_34 (by decide) ?_
      refine j_iload_n C dX2_sortNext_35 rfl 2 rfl ?_
      refine j_imul C dX2_sortNext_36 ?_
      refine j_iadd C dX2_sortNext_37 ?_
      refine j_istore_n (lv' := [(3, .int (i3 + ((2 : Int32) * i2))), (0, .ref (ad 0)), (1, .int i1), (2, .int i2)]) C dX2_sortNext_38 rfl (by decide) rfl ?_
      refine j_goto (tgt := 9) C dX2_sortNext_39 (by decide) ?_
      refine j_sub [1, 2, 3, 0] rfl ?_
      exact ih i1 i2 (i3 + ((2 : Int32) * i2)) u3 hF
def fX2_sortNext_2 (n : Nat) (X_49 : zS → zF Unit) : Nat → Int32 → Int32 → zS → zF Unit
  | 0, _, _, _ => none
  | k + 1, i1, i2, st => (if i1 ≤ i2 then X_49 st else fX2_sortNext_9 n (fun (i1 : Int32) (i2 : Int32) (st : zS) => fX2_sortNext_2 n X_49 k i1 ((2 : Int32) * i2) st) n i1 i2 (0 : Int32) st)
set_option maxHeartbeats 4000000 in
set_option maxRecDepth 100000 in
theorem wX2_sortNext_2 (C : zC p s m args meth c cX2_sortNext RX2 wsX2_sortNext D zcl (zty cI cR) 57 ad 4) (hne : ∀ x ∈ c.exceptionTable.toList, False) (hl : l.stackTraces = false) (hT : (sT ad) s.heap.size s) (hr : meth.sig.returnType = none) {F : zF Unit} (hn : F ≠ none) (n : Nat) {X_49 : zS → zF Unit} (hX_49 : ∀  (st : zS), X_49 st = F → sJ (fun _ : Unit => none) F 0 0 p l e rmX2_sortNext s m args below meth c D cI cR ad 4 st 0 0 49 [] []) : ∀ (k : Nat) (i1 : Int32) (i2 : Int32) (st : zS), fX2_sortNext_2 n X_49 k i1 i2 st = F → sJ (fun _ : Unit => none) F 0 0 p l e rmX2_sortNext s m args below meth c D cI cR ad 4 st 0 0 2 [(0, .ref (ad 0)), (1, .int i1), (2, .int i2)] [] := by
  intro k
  induction k with
  | zero =>
    intro i1 i2 st hF
    exact absurd hF.symm hn
  | succ k ih =>
    intro i1 i2 st hF
    rw [fX2_sortNext_2] at hF
    refine j_iload_n C dX2_sortNext_2 rfl 2 rfl ?_
    refine j_iload_n C dX2_sortNext_3 rfl 1 rfl ?_
    refine j_icmp_ge (tgt := 49) C dX2_sortNext_4 (by decide) (fun c1 => ?_) (fun c1 => ?_)
    · replace hF := zif_t hF c1
      refine j_sub [] rfl ?_
      exact hX_49 st hF
    · replace hF := zif_f hF c1
      refine j_iconst (v := (0 : Int32)) C dX2_sortNext_7 (by decide) ?_
      refine j_istore_n (lv' := [(3, .int (0 : Int32)), (0, .ref (ad 0)), (1, .int i1), (2, .int i2)]) C dX2_sortNext_8 rfl (by decide) rfl ?_
      refine j_sub [1, 2, 3, 0] rfl ?_
      refine wX2_sortNext_9 C hne hl hT hr hn n ?_ n i1 i2 (0 : Int32) st hF
      · intro i1 i2 st hF
        refine j_iconst (v := (2 : Int32)) C dX2_sortNext_42 (by decide) ?_
        refine j_iload_n C dX2_sortNext_43 rfl 2 rfl ?_
        refine j_imul C dX2_sortNext_44 ?_
        refine j_istore_n (lv' := [(2, .int ((2 : Int32) * i2)), (0, .ref (ad 0)), (1, .int i1)]) C dX2_sortNext_45 rfl (by decide) rfl ?_
        refine j_goto (tgt := 2) C dX2_sortNext_46 (by decide) ?_
        refine j_sub [1, 2, 0] rfl ?_
        exact ih i1 ((2 : Int32) * i2) st hF
def fX2_sortNext (n : Nat) (i1 : Int32) (st : zS) : zF Unit := fX2_sortNext_2 n (fun  (st : zS) => some (.inl (), st)) n i1 (1 : Int32) st
set_option maxHeartbeats 4000000 in
set_option maxRecDepth 100000 in
theorem kX2_sortNext (hl : l.stackTraces = false) (n : Nat) (i1 : Int32) (st : zS) (hn : fX2_sortNext n i1 st ≠ none) : zM (fun _ : Unit => none) l yX2_sortNext wsX2_sortNext rmX2_sortNext D zcl (zty cI cR) 57 ad (sce cI cR ad) (sT ad) 0 0 [.ref (ad 0), .int i1] st (fX2_sortNext n i1 st) := by
  refine z_ofJ (cc := cX2_sortNext) (maxL := 4) (ret := none) (lv := [(0, .ref (ad 0)), (1, .int i1)]) (by decide) rfl (Nat.le_of_ble_eq_true rfl) rfl ?_
  intro p e s m args below meth c C hne hT hr
  obtain ⟨F, hFe⟩ : ∃ F, F = fX2_sortNext n i1 st := ⟨_, rfl⟩
  rw [← hFe] at hn ⊢
  have hF : fX2_sortNext n i1 st = F := hFe.symm
  clear hFe
  unfold fX2_sortNext at hF
  have C : zC p s m args meth c cX2_sortNext RX2 wsX2_sortNext D zcl (zty cI cR) 57 ad 4 := C
  refine j_iconst (v := (1 : Int32)) C dX2_sortNext_0 (by decide) ?_
  refine j_istore_n (lv' := [(2, .int (1 : Int32)), (0, .ref (ad 0)), (1, .int i1)]) C dX2_sortNext_1 rfl (by decide) rfl ?_
  refine j_sub [1, 2, 0] rfl ?_
  refine wX2_sortNext_2 C hne hl hT hr hn n ?_ n i1 (1 : Int32) st hF
  · intro  st hF
    exact j_vret C hr hF (Nat.le_of_ble_eq_true rfl) (Nat.le_of_ble_eq_true rfl) dX2_sortNext_49
end
