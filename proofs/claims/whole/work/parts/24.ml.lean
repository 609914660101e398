/-! X3_slice -/
def rmX3_slice : Room := { frames := 13, cells := 0, slots := 0, locals := 240 }
theorem in_X3_slice_wsX30 : ∀ w ∈ wsX30, w ∈ wsX3_slice := by decide +kernel
section
variable {p : Program} {l : Launch} {e : Env} {s : State} {m : MethodId} {args : Array Value} {below : List Frame} {meth : Method} {c : Code} {D : va_G} {cI cZ : ClassId} {ad : Nat → Nat}
def fX3_slice_46 (n : Nat) (X_84 : Int32 → Int32 → Int32 → zS → zF Int32) : Nat → Int32 → Int32 → Int32 → Int32 → zS → zF Int32
  | 0, _, _, _, _, _ => none
  | k + 1, i1, i2, i4, i5, st => (if i4 ≤ i5 then X_84 i1 i2 i4 st else (if inb ((((4096 : Int32) * i1) + i2) + i5) (ml 3) then (if inb (((65536) : Int32) + i5) (ml 3) then (zl (upA st 3 (upd (st 3) ((((65536) : Int32) + i5)).toNatClampNeg (st 3 (((((4096 : Int32) * i1) + i2) + i5)).toNatClampNeg))) (fun (s16 : zS) => fX3_slice_46 n X_84 k i1 i2 i4 (i5 + (1 : Int32)) s16)) else none) else none))
set_option maxHeartbeats 4000000 in
set_option maxRecDepth 100000 in
theorem wX3_slice_46 (C : zC p s m args meth c cX3_slice RX3 wsX3_slice D zcl (mty cI cZ) 7 ad 6) (hne : ∀ x ∈ c.exceptionTable.toList, False) (hl : l.stackTraces = false) (hT : mT s.heap.size s) (hr : meth.sig.returnType = (some .int)) {F : zF Int32} (hn : F ≠ none) (n : Nat) {X_84 : Int32 → Int32 → Int32 → zS → zF Int32} (hX_84 : ∀ (i1 : Int32) (i2 : Int32) (i4 : Int32) (st : zS), X_84 i1 i2 i4 st = F → mJ (fun v : Int32 => some (.int v)) F 0 0 p l e rmX3_slice s m args below meth c D cI cZ ad 6 st 0 0 84 [(0, .ref (ad 0)), (1, .int i1), (2, .int i2), (4, .int i4)] []) : ∀ (k : Nat) (i1 : Int32) (i2 : Int32) (i4 : Int32) (i5 : Int32) (st : zS), fX3_slice_46 n X_84 k i1 i2 i4 i5 st = F → mJ (fun v : Int32 => some (.int v)) F 0 0 p l e rmX3_slice s m args below meth c D cI cZ ad 6 st 0 0 46 [(0, .ref (ad 0)), (1, .int i1), (2, .int i2), (4, .int i4), (5, .int i5)] [] := by
  intro k
  induction k with
  | zero =>
    intro i1 i2 i4 i5 st hF
    exact absurd hF.symm hn
  | succ k ih =>
    intro i1 i2 i4 i5 st hF
    rw [fX3_slice_46] at hF
    refine j_iload C dX3_slice_46 4 rfl ?_
    refine j_iload C dX3_slice_48 3 rfl ?_
    refine j_icmp_ge (tgt := 84) C dX3_slice_50 (by decide) (fun c13 => ?_) (fun c13 => ?_)
    · replace hF := zif_t hF c13
      refine j_sub [0, 1, 2, 3] rfl ?_
      exact hX_84 i1 i2 i4 st hF
    · replace hF := zif_f hF c13
      refine j_aload_n C dX3_slice_53 rfl 0 rfl ?_
      refine m_get0 C in_X3_slice_wsX30 3 (by decide) (by decide +kernel) rfl dX3_slice_54 ?_
      refine j_ldc (v := ((65536) : Int32)) C (by decide +kernel) dX3_slice_57 ?_
      refine j_iload C dX3_slice_59 4 rfl ?_
      refine j_iadd C dX3_slice_61 ?_
      refine j_aload_n C dX3_slice_62 rfl 0 rfl ?_
      refine m_get0 C in_X3_slice_wsX30 3 (by decide) (by decide +kernel) rfl dX3_slice_63 ?_
      refine j_sipush (v := (4096 : Int32)) C dX3_slice_66 (by decide) ?_
      refine j_iload_n C dX3_slice_69 rfl 1 rfl ?_
      refine j_imul C dX3_slice_70 ?_
      refine j_iload_n C dX3_slice_71 rfl 2 rfl ?_
      refine j_iadd C dX3_slice_72 ?_
      refine j_iload C dX3_slice_73 4 rfl ?_
      refine j_iadd C dX3_slice_75 ?_
      have b14 := zif_c hF hn
      replace hF := zif_t hF b14
      refine m_iald C (by decide) b14 dX3_slice_76 ?_
      have b15 := zif_c hF hn
      replace hF := zif_t hF b15
      refine m_iast C (by decide) b15 dX3_slice_77 ?_
      obtain ⟨s16, es16, hF⟩ := zl_e hF
      rw [← es16]
      refine j_iinc (lv' := [(5, .int (i5 + (1 : Int32))), (0, .ref (ad 0)), (1, .int i1), (2, .int i2), (4, .int i4)]) C dX3_slice_78 4 rfl rfl (by decide) rfl ?_
      refine j_goto (tgt := 46) C dX3_slice_81 (by decide) ?_
      refine j_sub [1, 2, 3, 4, 0] rfl ?_
      exact ih i1 i2 i4 (i5 + (1 : Int32)) s16 hF
def fX3_slice_87 (n : Nat) (X_156 : Int32 → zS → zF Int32) : Nat → Int32 → Int32 → Int32 → Int32 → zS → zF Int32
  | 0, _, _, _, _, _ => none
  | k + 1, i1, i2, i4, i5, st => (zb (fX3_leaves n i4 st) (fun (v18 : Int32) (u17 : zS) => (if v18 ≤ i5 then X_156 i4 u17 else (if (i2 - i2 / (16 : Int32) * (16 : Int32)) = 0 then (zb (fX3_inLeaf n i4 i5 u17) (fun (v25 : Int32) (u24 : zS) => (if v25 = (16 : Int32) then (if inb ((((256 : Int32) * i1) + (i2 / (16 : Int32))) + i5) (ml 4) then (if inb ((4096 : Int32) + i5) (ml 4) then (zl (upA u24 4 (upd (u24 4) (((4096 : Int32) + i5)).toNatClampNeg (u24 4 (((((256 : Int32) * i1) + (i2 / (16 : Int32))) + i5)).toNatClampNeg))) (fun (s32 : zS) => fX3_slice_87 n X_156 k i1 i2 i4 (i5 + (1 : Int32)) s32)) else none) else none) else (if inb ((4096 : Int32) + i5) (ml 4) then (zl (upA u24 4 (upd (u24 4) (((4096 : Int32) + i5)).toNatClampNeg ((-2) : Int32))) (fun (s29 : zS) => fX3_slice_87 n X_156 k i1 i2 i4 (i5 + (1 : Int32)) s29)) else none)))) else (if inb ((4096 : Int32) + i5) (ml 4) then (zl (upA u17 4 (upd (u17 4) (((4096 : Int32) + i5)).toNatClampNeg ((-2) : Int32))) (fun (s23 : zS) => fX3_slice_87 n X_156 k i1 i2 i4 (i5 + (1 : Int32)) s23)) else none)))))
set_option maxHeartbeats 4000000 in
set_option maxRecDepth 100000 in
theorem wX3_slice_87 (C : zC p s m args meth c cX3_slice RX3 wsX3_slice D zcl (mty cI cZ) 7 ad 6) (hne : ∀ x ∈ c.exceptionTable.toList, False) (hl : l.stackTraces = false) (hT : mT s.heap.size s) (hr : meth.sig.returnType = (some .int)) {F : zF Int32} (hn : F ≠ none) (n : Nat) {X_156 : Int32 → zS → zF Int32} (hX_156 : ∀ (i4 : Int32) (st : zS), X_156 i4 st = F → mJ (fun v : Int32 => some (.int v)) F 0 0 p l e rmX3_slice s m args below meth c D cI cZ ad 6 st 0 0 156 [(0, .ref (ad 0)), (4, .int i4)] []) : ∀ (k : Nat) (i1 : Int32) (i2 : Int32) (i4 : Int32) (i5 : Int32) (st : zS), fX3_slice_87 n X_156 k i1 i2 i4 i5 st = F → mJ (fun v : Int32 => some (.int v)) F 0 0 p l e rmX3_slice s m args below meth c D cI cZ ad 6 st 0 0 87 [(0, .ref (ad 0)), (1, .int i1), (2, .int i2), (4, .int i4), (5, .int i5)] [] := by
  intro k
  induction k with
  | zero =>
    intro i1 i2 i4 i5 st hF
    exact absurd hF.symm hn
  | succ k ih =>
    intro i1 i2 i4 i5 st hF
    rw [fX3_slice_87] at hF
    refine j_iload C dX3_slice_87 4 rfl ?_
    refine j_iload C dX3_slice_89 3 rfl ?_
    refine j_callSi C hne mT_S hT (As := [.int i4]) (rest := [.int i5]) (kX3_leaves hl n i4 st (zb_n hF hn)) (va_cwS 1 C.1.2.2.2.2 gX3_slice_X3_leaves rfl rfl rfl (by decide +kernel) ⟨(Nat.le_of_ble_eq_true rfl), (Nat.le_of_ble_eq_true rfl)⟩) rfl rfl (Nat.le_of_ble_eq_true rfl) dX3_slice_91 ⟨(Nat.le_of_ble_eq_true rfl), (Nat.le_of_ble_eq_true rfl)⟩ (fun _ _ h9 => zb_x hF h9) (Nat.le_of_ble_eq_true rfl) (Nat.le_of_ble_eq_true rfl) (fun v18 u17 h19 => ?_)
    replace hF := zb_l hF h19
    refine j_icmp_ge (tgt := 156) C dX3_slice_94 (by decide) (fun c20 => ?_) (fun c20 => ?_)
    · replace hF := zif_t hF c20
      refine j_sub [0, 3] rfl ?_
      exact hX_156 i4 u17 hF
    · replace hF := zif_f hF c20
      refine j_aload_n C dX3_slice_97 rfl 0 rfl ?_
      refine m_get0 C in_X3_slice_wsX30 4 (by decide) (by decide +kernel) rfl dX3_slice_98 ?_
      refine j_sipush (v := (4096 : Int32)) C dX3_slice_101 (by decide) ?_
      refine j_iload C dX3_slice_104 4 rfl ?_
      refine j_iadd C dX3_slice_106 ?_
      refine j_iload_n C dX3_slice_107 rfl 2 rfl ?_
      refine j_bipush (v := (16 : Int32)) C dX3_slice_108 (by decide) ?_
      refine j_irem C dX3_slice_110 (by decide) ?_
      refine j_if_ne (tgt := 147) C dX3_slice_111 (by decide) (fun c21 => ?_) (fun c21 => ?_)
      · replace hF := zif_f hF c21
        refine j_bipush (v := ((-2) : Int32)) C dX3_slice_147 (by decide) ?_
        have b22 := zif_c hF hn
        replace hF := zif_t hF b22
        refine m_iast C (by decide) b22 dX3_slice_149 ?_
        obtain ⟨s23, es23, hF⟩ := zl_e hF
        rw [← es23]
        refine j_iinc (lv' := [(5, .int (i5 + (1 : Int32))), (0, .ref (ad 0)), (1, .int i1), (2, .int i2), (4, .int i4)]) C dX3_slice_150 4 rfl rfl (by decide) rfl ?_
        refine j_goto (tgt := 87) C dX3_slice_153 (by decide) ?_
        refine j_sub [1, 2, 3, 4, 0] rfl ?_
        exact ih i1 i2 i4 (i5 + (1 : Int32)) s23 hF
      · replace hF := zif_t hF c21
        refine j_iload C dX3_slice_114 3 rfl ?_
        refine j_iload C dX3_slice_116 4 rfl ?_
        refine j_callSi C hne mT_S hT (As := [.int i4, .int i5]) (rest := [.int ((4096 : Int32) + i5), .ref (ad 4)]) (kX3_inLeaf hl n i4 i5 u17 (zb_n hF hn)) (va_cwS 2 C.1.2.2.2.2 gX3_slice_X3_inLeaf rfl rfl rfl (by decide +kernel) ⟨(Nat.le_of_ble_eq_true rfl), (Nat.le_of_ble_eq_true rfl)⟩) rfl rfl (Nat.le_of_ble_eq_true rfl) dX3_slice_118 ⟨(Nat.le_of_ble_eq_true rfl), (Nat.le_of_ble_eq_true rfl)⟩ (fun _ _ h9 => zb_x hF h9) (Nat.le_of_ble_eq_true rfl) (Nat.le_of_ble_eq_true rfl) (fun v25 u24 h26 => ?_)
        replace hF := zb_l hF h26
        refine j_bipush (v := (16 : Int32)) C dX3_slice_121 (by decide) ?_
        refine j_icmp_ne (tgt := 147) C dX3_slice_123 (by decide) (fun c27 => ?_) (fun c27 => ?_)
        · replace hF := zif_f hF c27
          refine j_bipush (v := ((-2) : Int32)) C dX3_slice_147 (by decide) ?_
          have b28 := zif_c hF hn
          replace hF := zif_t hF b28
          refine m_iast C (by decide) b28 dX3_slice_149 ?_
          obtain ⟨s29, es29, hF⟩ := zl_e hF
          rw [← es29]
          refine j_iinc (lv' := [(5, .int (i5 + (1 : Int32))), (0, .ref (ad 0)), (1, .int i1), (2, .int i2), (4, .int i4)]) C dX3_slice_150 4 rfl rfl (by decide) rfl ?_
          refine j_goto (tgt := 87) C dX3_slice_153 (by decide) ?_
          refine j_sub [1, 2, 3, 4, 0] rfl ?_
          exact ih i1 i2 i4 (i5 + (1 : Int32)) s29 hF
        · replace hF := zif_t hF c27
          refine j_aload_n C dX3_slice_126 rfl 0 rfl ?_
          refine m_get0 C in_X3_slice_wsX30 4 (by decide) (by decide +kernel) rfl dX3_slice_127 ?_
          refine j_sipush (v := (256 : Int32)) C dX3_slice_130 (by decide) ?_
          refine j_iload_n C dX3_slice_133 rfl 1 rfl ?_
          refine j_imul C dX3_slice_134 ?_
          refine j_iload_n C dX3_slice_135 rfl 2 rfl ?_
          refine j_bipush (v := (16 : Int32)) C dX3_slice_136 (by decide) ?_
          refine j_idiv C dX3_slice_138 (by decide) ?_
          refine j_iadd C dX3_slice_139 ?_
          refine j_iload C dX3_slice_140 4 rfl ?_
          refine j_iadd C dX3_slice_142 ?_
          have b30 := zif_c hF hn
          replace hF := zif_t hF b30
          refine m_iald C (by decide) b30 dX3_slice_143 ?_
          refine j_goto (tgt := 149) C dX3_slice_144 (by decide) ?_
          have b31 := zif_c hF hn
          replace hF := zif_t hF b31
          refine m_iast C (by decide) b31 dX3_slice_149 ?_
          obtain ⟨s32, es32, hF⟩ := zl_e hF
          rw [← es32]
          refine j_iinc (lv' := [(5, .int (i5 + (1 : Int32))), (0, .ref (ad 0)), (1, .int i1), (2, .int i2), (4, .int i4)]) C dX3_slice_150 4 rfl rfl (by decide) rfl ?_
          refine j_goto (tgt := 87) C dX3_slice_153 (by decide) ?_
          refine j_sub [1, 2, 3, 4, 0] rfl ?_
          exact ih i1 i2 i4 (i5 + (1 : Int32)) s32 hF
def fX3_slice_16 (n : Nat)  (i1 : Int32) (i2 : Int32) (i3 : Int32) (it0 : Int32) (st : zS) : zF Int32 := (zb (fX3_free n  st) (fun (v6 : Int32) (u5 : zS) => (if v6 = (16 : Int32) then (zb (fX3_refuses n it0 (1 : Int32) u5) (fun (v37 : Int32) (u36 : zS) => (if v37 = 0 then fX3_slice_46 n (fun (i1 : Int32) (i2 : Int32) (i4 : Int32) (st : zS) => fX3_slice_87 n (fun (i4 : Int32) (st : zS) => (zb (fX3_keep n i4 st) (fun (v41 : Int32) (u40 : zS) => some (.inl v41, u40)))) n i1 i2 i4 (0 : Int32) st) n i1 i2 (i3 - i2) (0 : Int32) u36 else some (.inl (0 : Int32), u36)))) else (zb (fX3_refuses n it0 (0 : Int32) u5) (fun (v10 : Int32) (u9 : zS) => (if v10 = 0 then fX3_slice_46 n (fun (i1 : Int32) (i2 : Int32) (i4 : Int32) (st : zS) => fX3_slice_87 n (fun (i4 : Int32) (st : zS) => (zb (fX3_keep n i4 st) (fun (v34 : Int32) (u33 : zS) => some (.inl v34, u33)))) n i1 i2 i4 (0 : Int32) st) n i1 i2 (i3 - i2) (0 : Int32) u9 else some (.inl (0 : Int32), u9)))))))
set_option maxHeartbeats 4000000 in
set_option maxRecDepth 100000 in
theorem wX3_slice_16 (C : zC p s m args meth c cX3_slice RX3 wsX3_slice D zcl (mty cI cZ) 7 ad 6) (hne : ∀ x ∈ c.exceptionTable.toList, False) (hl : l.stackTraces = false) (hT : mT s.heap.size s) (hr : meth.sig.returnType = (some .int)) {F : zF Int32} (hn : F ≠ none) (n : Nat)   : ∀ (i1 : Int32) (i2 : Int32) (i3 : Int32) (it0 : Int32) (st : zS), fX3_slice_16 n  i1 i2 i3 it0 st = F → mJ (fun v : Int32 => some (.int v)) F 0 0 p l e rmX3_slice s m args below meth c D cI cZ ad 6 st 0 0 16 [(0, .ref (ad 0)), (1, .int i1), (2, .int i2), (3, .int i3)] [.int it0, .ref (ad 0)] := by
  intro i1 i2 i3 it0 st hF
  unfold fX3_slice_16 at hF
  refine j_aload_n C dX3_slice_16 rfl 0 rfl ?_
  refine j_callVi C hne mT_S hT (q0 := 0) (As := []) (rest := [.int it0, .ref (ad 0)]) (kX3_free hl n  st (zb_n hF hn)) (cwV 0 C.1.2.2.2.2 gX3_slice_X3_free rfl rfl rfl (by decide +kernel) ⟨(Nat.le_of_ble_eq_true rfl), (Nat.le_of_ble_eq_true rfl)⟩) (by decide) mce_0 rfl rfl rfl (Nat.le_of_ble_eq_true rfl) dX3_slice_17 ⟨(Nat.le_of_ble_eq_true rfl), (Nat.le_of_ble_eq_true rfl)⟩ (fun _ _ h9 => zb_x hF h9) (Nat.le_of_ble_eq_true rfl) (Nat.le_of_ble_eq_true rfl) (fun v6 u5 h7 => ?_)
  replace hF := zb_l hF h7
  refine j_bipush (v := (16 : Int32)) C dX3_slice_20 (by decide) ?_
  refine j_icmp_ne (tgt := 29) C dX3_slice_22 (by decide) (fun c8 => ?_) (fun c8 => ?_)
  · replace hF := zif_f hF c8
    refine j_iconst (v := (0 : Int32)) C dX3_slice_29 (by decide) ?_
    refine j_callVi C hne mT_S hT (q0 := 0) (As := [.int it0, .int (0 : Int32)]) (rest := []) (kX3_refuses hl n it0 (0 : Int32) u5 (zb_n hF hn)) (cwV 2 C.1.2.2.2.2 gX3_slice_X3_refuses rfl rfl rfl (by decide +kernel) ⟨(Nat.le_of_ble_eq_true rfl), (Nat.le_of_ble_eq_true rfl)⟩) (by decide) mce_0 rfl rfl rfl (Nat.le_of_ble_eq_true rfl) dX3_slice_30 ⟨(Nat.le_of_ble_eq_true rfl), (Nat.le_of_ble_eq_true rfl)⟩ (fun _ _ h9 => zb_x hF h9) (Nat.le_of_ble_eq_true rfl) (Nat.le_of_ble_eq_true rfl) (fun v10 u9 h11 => ?_)
    replace hF := zb_l hF h11
    refine j_if_eq (tgt := 38) C dX3_slice_33 (by decide) (fun c12 => ?_) (fun c12 => ?_)
    · replace hF := zif_t hF c12
      refine j_iload_n C dX3_slice_38 rfl 3 rfl ?_
      refine j_iload_n C dX3_slice_39 rfl 2 rfl ?_
      refine j_isub C dX3_slice_40 ?_
      refine j_istore (lv' := [(4, .int (i3 - i2)), (0, .ref (ad 0)), (1, .int i1), (2, .int i2), (3, .int i3)]) C dX3_slice_41 (by decide) rfl ?_
      refine j_iconst (v := (0 : Int32)) C dX3_slice_43 (by decide) ?_
      refine j_istore (lv' := [(5, .int (0 : Int32)), (4, .int (i3 - i2)), (0, .ref (ad 0)), (1, .int i1), (2, .int i2), (3, .int i3)]) C dX3_slice_44 (by decide) rfl ?_
      refine j_sub [2, 3, 4, 1, 0] rfl ?_
      refine wX3_slice_46 C hne hl hT hr hn n ?_ n i1 i2 (i3 - i2) (0 : Int32) u9 hF
      · intro i1 i2 i4 st hF
        refine j_iconst (v := (0 : Int32)) C dX3_slice_84 (by decide) ?_
        refine j_istore (lv' := [(5, .int (0 : Int32)), (0, .ref (ad 0)), (1, .int i1), (2, .int i2), (4, .int i4)]) C dX3_slice_85 (by decide) rfl ?_
        refine j_sub [1, 2, 3, 4, 0] rfl ?_
        refine wX3_slice_87 C hne hl hT hr hn n ?_ n i1 i2 i4 (0 : Int32) st hF
        · intro i4 st hF
          refine j_aload_n C dX3_slice_156 rfl 0 rfl ?_
          refine j_iload C dX3_slice_157 1 rfl ?_
          refine j_callVi C hne mT_S hT (q0 := 0) (As := [.int i4]) (rest := []) (kX3_keep hl n i4 st (zb_n hF hn)) (cwV 1 C.1.2.2.2.2 gX3_slice_X3_keep rfl rfl rfl (by decide +kernel) ⟨(Nat.le_of_ble_eq_true rfl), (Nat.le_of_ble_eq_true rfl)⟩) (by decide) mce_0 rfl rfl rfl (Nat.le_of_ble_eq_true rfl) dX3_slice_159 ⟨(Nat.le_of_ble_eq_true rfl), (Nat.le_of_ble_eq_true rfl)⟩ (fun _ _ h9 => zb_x hF h9) (Nat.le_of_ble_eq_true rfl) (Nat.le_of_ble_eq_true rfl) (fun v34 u33 h35 => ?_)
          replace hF := zb_l hF h35
          exact j_iret C hr hF (Nat.le_of_ble_eq_true rfl) (Nat.le_of_ble_eq_true rfl) dX3_slice_162
    · replace hF := zif_f hF c12
      refine j_iconst (v := (0 : Int32)) C dX3_slice_36 (by decide) ?_
      exact j_iret C hr hF (Nat.le_of_ble_eq_true rfl) (Nat.le_of_ble_eq_true rfl) dX3_slice_37
  · replace hF := zif_t hF c8
    refine j_iconst (v := (1 : Int32)) C dX3_slice_25 (by decide) ?_
    refine j_goto (tgt := 30) C dX3_slice_26 (by decide) ?_
    refine j_callVi C hne mT_S hT (q0 := 0) (As := [.int it0, .int (1 : Int32)]) (rest := []) (kX3_refuses hl n it0 (1 : Int32) u5 (zb_n hF hn)) (cwV 2 C.1.2.2.2.2 gX3_slice_X3_refuses rfl rfl rfl (by decide +kernel) ⟨(Nat.le_of_ble_eq_true rfl), (Nat.le_of_ble_eq_true rfl)⟩) (by decide) mce_0 rfl rfl rfl (Nat.le_of_ble_eq_true rfl) dX3_slice_30 ⟨(Nat.le_of_ble_eq_true rfl), (Nat.le_of_ble_eq_true rfl)⟩ (fun _ _ h9 => zb_x hF h9) (Nat.le_of_ble_eq_true rfl) (Nat.le_of_ble_eq_true rfl) (fun v37 u36 h38 => ?_)
    replace hF := zb_l hF h38
    refine j_if_eq (tgt := 38) C dX3_slice_33 (by decide) (fun c39 => ?_) (fun c39 => ?_)
    · replace hF := zif_t hF c39
      refine j_iload_n C dX3_slice_38 rfl 3 rfl ?_
      refine j_iload_n C dX3_slice_39 rfl 2 rfl ?_
      refine j_isub C dX3_slice_40 ?_
      refine j_istore (lv' := [(4, .int (i3 - i2)), (0, .ref (ad 0)), (1, .int i1), (2, .int i2), (3, .int i3)]) C dX3_slice_41 (by decide) rfl ?_
      refine j_iconst (v := (0 : Int32)) C dX3_slice_43 (by decide) ?_
      refine j_istore (lv' := [(5, .int (0 : Int32)), (4, .int (i3 - i2)), (0, .ref (ad 0)), (1, .int i1), (2, .int i2), (3, .int i3)]) C dX3_slice_44 (by decide) rfl ?_
      refine j_sub [2, 3, 4, 1, 0] rfl ?_
      refine wX3_slice_46 C hne hl hT hr hn n ?_ n i1 i2 (i3 - i2) (0 : Int32) u36 hF
      · intro i1 i2 i4 st hF
        refine j_iconst (v := (0 : Int32)) C dX3_slice_84 (by decide) ?_
        refine j_istore (lv' := [(5, .int (0 : Int32)), (0, .ref (ad 0)), (1, .int i1), (2, .int i2), (4, .int i4)]) C dX3_slice_85 (by decide) rfl ?_
        refine j_sub [1, 2, 3, 4, 0] rfl ?_
        refine wX3_slice_87 C hne hl hT hr hn n ?_ n i1 i2 i4 (0 : Int32) st hF
        · intro i4 st hF
          refine j_aload_n C dX3_slice_156 rfl 0 rfl ?_
          refine j_iload C dX3_slice_157 1 rfl ?_
          refine j_callVi C hne mT_S hT (q0 := 0) (As := [.int i4]) (rest := []) (kX3_keep hl n i4 st (zb_n hF hn)) (cwV 1 C.1.2.2.2.2 gX3_slice_X3_keep rfl rfl rfl (by decide +kernel) ⟨(Nat.le_of_ble_eq_true rfl), (Nat.le_of_ble_eq_true rfl)⟩) (by decide) mce_0 rfl rfl rfl (Nat.le_of_ble_eq_true rfl) dX3_slice_159 ⟨(Nat.le_of_ble_eq_true rfl), (Nat.le_of_ble_eq_true rfl)⟩ (fun _ _ h9 => zb_x hF h9) (Nat.le_of_ble_eq_true rfl) (Nat.le_of_ble_eq_true rfl) (fun v41 u40 h42 => ?_)
          replace hF := zb_l hF h42
          exact j_iret C hr hF (Nat.le_of_ble_eq_true rfl) (Nat.le_of_ble_eq_true rfl) dX3_slice_162
    · replace hF := zif_f hF c39
      refine j_iconst (v := (0 : Int32)) C dX3_slice_36 (by decide) ?_
      exact j_iret C hr hF (Nat.le_of_ble_eq_true rfl) (Nat.le_of_ble_eq_true rfl) dX3_slice_37
def fX3_slice (n : Nat) (i1 : Int32) (i2 : Int32) (i3 : Int32) (st : zS) : zF Int32 := (zb (fX3_isPart n i1 i2 i3 st) (fun (v2 : Int32) (u1 : zS) => (if v2 = 0 then fX3_slice_16 n i1 i2 i3 (1 : Int32) u1 else fX3_slice_16 n i1 i2 i3 (0 : Int32) u1)))
set_option maxHeartbeats 4000000 in
set_option maxRecDepth 100000 in
theorem kX3_slice (hl : l.stackTraces = false) (n : Nat) (i1 : Int32) (i2 : Int32) (i3 : Int32) (st : zS) (hn : fX3_slice n i1 i2 i3 st ≠ none) : zM (fun v : Int32 => some (.int v)) l yX3_slice wsX3_slice rmX3_slice D zcl (mty cI cZ) 7 ad (mce cI cZ ad) mT 0 0 [.ref (ad 0), .int i1, .int i2, .int i3] st (fX3_slice n i1 i2 i3 st) := by
  refine z_ofJ (cc := cX3_slice) (maxL := 6) (ret := (some .int)) (lv := [(0, .ref (ad 0)), (1, .int i1), (2, .int i2), (3, .int i3)]) (by decide) rfl (Nat.le_of_ble_eq_true rfl) rfl ?_
  intro p e s m args below meth c C hne hT hr
  obtain ⟨F, hFe⟩ : ∃ F, F = fX3_slice n i1 i2 i3 st := ⟨_, rfl⟩
  rw [← hFe] at hn ⊢
  have hF : fX3_slice n i1 i2 i3 st = F := hFe.symm
  clear hFe
  unfold fX3_slice at hF
  have C : zC p s m args meth c cX3_slice RX3 wsX3_slice D zcl (mty cI cZ) 7 ad 6 := C
  refine j_aload_n C dX3_slice_0 rfl 0 rfl ?_
  refine j_aload_n C dX3_slice_1 rfl 0 rfl ?_
  refine j_iload_n C dX3_slice_2 rfl 1 rfl ?_
  refine j_iload_n C dX3_slice_3 rfl 2 rfl ?_
  refine j_iload_n C dX3_slice_4 rfl 3 rfl ?_
  refine j_callVi C hne mT_S hT (q0 := 0) (As := [.int i1, .int i2, .int i3]) (rest := [.ref (ad 0)]) (kX3_isPart hl n i1 i2 i3 st (zb_n hF hn)) (cwV 3 C.1.2.2.2.2 gX3_slice_X3_isPart rfl rfl rfl (by decide +kernel) ⟨(Nat.le_of_ble_eq_true rfl), (Nat.le_of_ble_eq_true rfl)⟩) (by decide) mce_0 rfl rfl rfl (Nat.le_of_ble_eq_true rfl) dX3_slice_5 ⟨(Nat.le_of_ble_eq_true rfl), (Nat.le_of_ble_eq_true rfl)⟩ (fun _ _ h9 => zb_x hF h9) (Nat.le_of_ble_eq_true rfl) (Nat.le_of_ble_eq_true rfl) (fun v2 u1 h3 => ?_)
  replace hF := zb_l hF h3
  refine j_if_ne (tgt := 15) C dX3_slice_8 (by decide) (fun c4 => ?_) (fun c4 => ?_)
  · replace hF := zif_f hF c4
    refine j_iconst (v := (0 : Int32)) C dX3_slice_15 (by decide) ?_
    refine wX3_slice_16 C hne hl hT hr hn n  i1 i2 i3 (0 : Int32) u1 hF
  · replace hF := zif_t hF c4
    refine j_iconst (v := (1 : Int32)) C dX3_slice_11 (by decide) ?_
    refine j_goto (tgt := 16) C dX3_slice_12 (by decide) ?_
    refine wX3_slice_16 C hne hl hT hr hn n  i1 i2 i3 (1 : Int32) u1 hF
end
/-! X3_join -/
def rmX3_join : Room := { frames := 13, cells := 0, slots := 0, locals := 240 }
theorem in_X3_join_wsX30 : ∀ w ∈ wsX30, w ∈ wsX3_join := by decide +kernel
section
variable {p : Program} {l : Launch} {e : Env} {s : State} {m : MethodId} {args : Array Value} {below : List Frame} {meth : Method} {c : Code} {D : va_G} {cI cZ : ClassId} {ad : Nat → Nat}
def fX3_join_73 (n : Nat) (X_108 : Int32 → Int32 → Int32 → zS → zF Int32) : Nat → Int32 → Int32 → Int32 → Int32 → zS → zF Int32
  | 0, _, _, _, _, _ => none
  | k + 1, i1, i2, i3, i4, st => (if i3 ≤ i4 then X_108 i1 i2 i3 st else (if inb (((4096 : Int32) * i1) + i4) (ml 3) then (if inb (((65536) : Int32) + i4) (ml 3) then (zl (upA st 3 (upd (st 3) ((((65536) : Int32) + i4)).toNatClampNeg (st 3 ((((4096 : Int32) * i1) + i4)).toNatClampNeg))) (fun (s17 : zS) => fX3_join_73 n X_108 k i1 i2 i3 (i4 + (1 : Int32)) s17)) else none) else none))
set_option maxHeartbeats 4000000 in
set_option maxRecDepth 100000 in
theorem wX3_join_73 (C : zC p s m args meth c cX3_join RX3 wsX3_join D zcl (mty cI cZ) 7 ad 6) (hne : ∀ x ∈ c.exceptionTable.toList, False) (hl : l.stackTraces = false) (hT : mT s.heap.size s) (hr : meth.sig.returnType = (some .int)) {F : zF Int32} (hn : F ≠ none) (n : Nat) {X_108 : Int32 → Int32 → Int32 → zS → zF Int32} (hX_108 : ∀ (i1 : Int32) (i2 : Int32) (i3 : Int32) (st : zS), X_108 i1 i2 i3 st = F → mJ (fun v : Int32 => some (.int v)) F 0 0 p l e rmX3_join s m args below meth c D cI cZ ad 6 st 0 0 108 [(0, .ref (ad 0)), (1, .int i1), (2, .int i2), (3, .int i3)] []) : ∀ (k : Nat) (i1 : Int32) (i2 : Int32) (i3 : Int32) (i4 : Int32) (st : zS), fX3_join_73 n X_108 k i1 i2 i3 i4 st = F → mJ (fun v : Int32 => some (.int v)) F 0 0 p l e rmX3_join s m args below meth c D cI cZ ad 6 st 0 0 73 [(0, .ref (ad 0)), (1, .int i1), (2, .int i2), (3, .int i3), (4, .int i4)] [] := by
  intro k
  induction k with
  | zero =>
    intro i1 i2 i3 i4 st hF
    exact absurd hF.symm hn
  | succ k ih =>
    intro i1 i2 i3 i4 st hF
    rw [fX3_join_73] at hF
    refine j_iload C dX3_join_73 4 rfl ?_
    refine j_iload_n C dX3_join_75 rfl 3 rfl ?_
    refine j_icmp_ge (tgt := 108) C dX3_join_76 (by decide) (fun c14 => ?_) (fun c14 => ?_)
    · replace hF := zif_t hF c14
      refine j_sub [0, 1, 2, 3] rfl ?_
      exact hX_108 i1 i2 i3 st hF
    · replace hF := zif_f hF c14
      refine j_aload_n C dX3_join_79 rfl 0 rfl ?_
      refine m_get0 C in_X3_join_wsX30 3 (by decide) (by decide +kernel) rfl dX3_join_80 ?_
      refine j_ldc (v := ((65536) : Int32)) C (by decide +kernel) dX3_join_83 ?_
      refine j_iload C dX3_join_85 4 rfl ?_
      refine j_iadd C dX3_join_87 ?_
      refine j_aload_n C dX3_join_88 rfl 0 rfl ?_
      refine m_get0 C in_X3_join_wsX30 3 (by decide) (by decide +kernel) rfl dX3_join_89 ?_
      refine j_sipush (v := (4096 : Int32)) C dX3_join_92 (by decide) ?_
      refine j_iload_n C dX3_join_95 rfl 1 rfl ?_
      refine j_imul C dX3_join_96 ?_
      refine j_iload C dX3_join_97 4 rfl ?_
      refine j_iadd C dX3_join_99 ?_
      have b15 := zif_c hF hn
      replace hF := zif_t hF b15
      refine m_iald C (by decide) b15 dX3_join_100 ?_
      have b16 := zif_c hF hn
      replace hF := zif_t hF b16
      refine m_iast C (by decide) b16 dX3_join_101 ?_
      obtain ⟨s17, es17, hF⟩ := zl_e hF
      rw [← es17]
      refine j_iinc (lv' := [(4, .int (i4 + (1 : Int32))), (0, .ref (ad 0)), (1, .int i1), (2, .int i2), (3, .int i3)]) C dX3_join_102 4 rfl rfl (by decide) rfl ?_
      refine j_goto (tgt := 73) C dX3_join_105 (by decide) ?_
      refine j_sub [1, 2, 3, 4, 0] rfl ?_
      exact ih i1 i2 i3 (i4 + (1 : Int32)) s17 hF
def fX3_join_111 (n : Nat) (X_153 : Int32 → Int32 → Int32 → zS → zF Int32) : Nat → Int32 → Int32 → Int32 → Int32 → zS → zF Int32
  | 0, _, _, _, _, _ => none
  | k + 1, i1, i2, i3, i4, st => (if inb i2 (ml 2) then (if (st 2 (i2).toNatClampNeg) ≤ i4 then X_153 i1 i2 i3 st else (if inb (((4096 : Int32) * i2) + i4) (ml 3) then (if inb ((((65536) : Int32) + i3) + i4) (ml 3) then (zl (upA st 3 (upd (st 3) (((((65536) : Int32) + i3) + i4)).toNatClampNeg (st 3 ((((4096 : Int32) * i2) + i4)).toNatClampNeg))) (fun (s22 : zS) => fX3_join_111 n X_153 k i1 i2 i3 (i4 + (1 : Int32)) s22)) else none) else none)) else none)
set_option maxHeartbeats 4000000 in
set_option maxRecDepth 100000 in
theorem wX3_join_111 (C : zC p s m args meth c cX3_join RX3 wsX3_join D zcl (mty cI cZ) 7 ad 6) (hne : ∀ x ∈ c.exceptionTable.toList, False) (hl : l.stackTraces = false) (hT : mT s.heap.size s) (hr : meth.sig.returnType = (some .int)) {F : zF Int32} (hn : F ≠ none) (n : Nat) {X_153 : Int32 → Int32 → Int32 → zS → zF Int32} (hX_153 : ∀ (i1 : Int32) (i2 : Int32) (i3 : Int32) (st : zS), X_153 i1 i2 i3 st = F → mJ (fun v : Int32 => some (.int v)) F 0 0 p l e rmX3_join s m args below meth c D cI cZ ad 6 st 0 0 153 [(0, .ref (ad 0)), (1, .int i1), (2, .int i2), (3, .int i3)] []) : ∀ (k : Nat) (i1 : Int32) (i2 : Int32) (i3 : Int32) (i4 : Int32) (st : zS), fX3_join_111 n X_153 k i1 i2 i3 i4 st = F → mJ (fun v : Int32 => some (.int v)) F 0 0 p l e rmX3_join s m args below meth c D cI cZ ad 6 st 0 0 111 [(0, .ref (ad 0)), (1, .int i1), (2, .int i2), (3, .int i3), (4, .int i4)] [] := by
  intro k
  induction k with
  | zero =>
    intro i1 i2 i3 i4 st hF
    exact absurd hF.symm hn
  | succ k ih =>
    intro i1 i2 i3 i4 st hF
    rw [fX3_join_111] at hF
    refine j_iload C dX3_join_111 4 rfl ?_
    refine j_aload_n C dX3_join_113 rfl 0 rfl ?_
    refine m_get0 C in_X3_join_wsX30 2 (by decide) (by decide +kernel) rfl dX3_join_114 ?_
    refine j_iload_n C dX3_join_117 rfl 2 rfl ?_
    have b18 := zif_c hF hn
    replace hF := zif_t hF b18
    refine m_iald C (by decide) b18 dX3_join_118 ?_
    refine j_icmp_ge (tgt := 153) C dX3_join_119 (by decide) (fun c19 => ?_) (fun c19 => ?_)
    · replace hF := zif_t hF c19
      refine j_sub [0, 1, 2, 3] rfl ?_
      exact hX_153 i1 i2 i3 st hF
    · replace hF := zif_f hF c19
      refine j_aload_n C dX3_join_122 rfl 0 rfl ?_
      refine m_get0 C in_X3_join_wsX30 3 (by decide) (by decide +kernel) rfl dX3_join_123 ?_
      refine j_ldc (v := ((65536) : Int32)) C (by decide +kernel) dX3_join_126 ?_
      refine j_iload_n C dX3_join_128 rfl 3 rfl ?_
      refine j_iadd C dX3_join_129 ?_
      refine j_iload C dX3_join_130 4 rfl ?_
      refine j_iadd C dX3_join_132 ?_
      refine j_aload_n C dX3_join_133 rfl 0 rfl ?_
      refine m_get0 C in_X3_join_wsX30 3 (by decide) (by decide +kernel) rfl dX3_join_134 ?_
      refine j_sipush (v := (4096 : Int32)) C dX3_join_137 (by decide) ?_
      refine j_iload_n C dX3_join_140 rfl 2 rfl ?_
      refine j_imul C dX3_join_141 ?_
      refine j_iload C dX3_join_142 4 rfl ?_
      refine j_iadd C dX3_join_144 ?_
      have b20 := zif_c hF hn
      replace hF := zif_t hF b20
      refine m_iald C (by decide) b20 dX3_join_145 ?_
      have b21 := zif_c hF hn
      replace hF := zif_t hF b21
      refine m_iast C (by decide) b21 dX3_join_146 ?_
      obtain ⟨s22, es22, hF⟩ := zl_e hF
      rw [← es22]
      refine j_iinc (lv' := [(4, .int (i4 + (1 : Int32))), (0, .ref (ad 0)), (1, .int i1), (2, .int i2), (3, .int i3)]) C dX3_join_147 4 rfl rfl (by decide) rfl ?_
      refine j_goto (tgt := 111) C dX3_join_150 (by decide) ?_
      refine j_sub [1, 2, 3, 4, 0] rfl ?_
      exact ih i1 i2 i3 (i4 + (1 : Int32)) s22 hF
def fX3_join_162 (n : Nat) (X_246 : Int32 → Int32 → zS → zF Int32) : Nat → Int32 → Int32 → Int32 → Int32 → Int32 → zS → zF Int32
  | 0, _, _, _, _, _, _ => none
  | k + 1, i1, i2, i3, i4, i5, st => (if inb i2 (ml 2) then (zb (fX3_leaves n (i3 + (st 2 (i2).toNatClampNeg)) st) (fun (v25 : Int32) (u24 : zS) => (if v25 ≤ i5 then X_246 i2 i3 u24 else (if i4 ≤ i5 then (if (i3 - i3 / (16 : Int32) * (16 : Int32)) = 0 then (if inb ((((256 : Int32) * i2) + i5) - i4) (ml 4) then (if inb ((4096 : Int32) + i5) (ml 4) then (zl (upA u24 4 (upd (u24 4) (((4096 : Int32) + i5)).toNatClampNeg (u24 4 (((((256 : Int32) * i2) + i5) - i4)).toNatClampNeg))) (fun (s34 : zS) => fX3_join_162 n X_246 k i1 i2 i3 i4 (i5 + (1 : Int32)) s34)) else none) else none) else (if inb ((4096 : Int32) + i5) (ml 4) then (zl (upA u24 4 (upd (u24 4) (((4096 : Int32) + i5)).toNatClampNeg ((-2) : Int32))) (fun (s31 : zS) => fX3_join_162 n X_246 k i1 i2 i3 i4 (i5 + (1 : Int32)) s31)) else none)) else (if inb (((256 : Int32) * i1) + i5) (ml 4) then (if inb ((4096 : Int32) + i5) (ml 4) then (zl (upA u24 4 (upd (u24 4) (((4096 : Int32) + i5)).toNatClampNeg (u24 4 ((((256 : Int32) * i1) + i5)).toNatClampNeg))) (fun (s37 : zS) => fX3_join_162 n X_246 k i1 i2 i3 i4 (i5 + (1 : Int32)) s37)) else none) else none))))) else none)
set_option maxHeartbeats 4000000 in
set_option maxRecDepth 100000 in
theorem wX3_join_162 (C : zC p s m args meth c cX3_join RX3 wsX3_join D zcl (mty cI cZ) 7 ad 6) (hne : ∀ x ∈ c.exceptionTable.toList, False) (hl : l.stackTraces = false) (hT : mT s.heap.size s) (hr : meth.sig.returnType = (some .int)) {F : zF Int32} (hn : F ≠ none) (n : Nat) {X_246 : Int32 → Int32 → zS → zF Int32} (hX_246 : ∀ (i2 : Int32) (i3 : Int32) (st : zS), X_246 i2 i3 st = F → mJ (fun v : Int32 => some (.int v)) F 0 0 p l e rmX3_join s m args below meth c D cI cZ ad 6 st 0 0 246 [(0, .ref (ad 0)), (2, .int i2), (3, .int i3)] []) : ∀ (k : Nat) (i1 : Int32) (i2 : Int32) (i3 : Int32) (i4 : Int32) (i5 : Int32) (st : zS), fX3_join_162 n X_246 k i1 i2 i3 i4 i5 st = F → mJ (fun v : Int32 => some (.int v)) F 0 0 p l e rmX3_join s m args below meth c D cI cZ ad 6 st 0 0 162 [(0, .ref (ad 0)), (1, .int i1), (2, .int i2), (3, .int i3), (4, .int i4), (5, .int i5)] [] := by
  intro k
  induction k with
  | zero =>
    intro i1 i2 i3 i4 i5 st hF
    exact absurd hF.symm hn
  | succ k ih =>
    intro i1 i2 i3 i4 i5 st hF
    rw [fX3_join_162] at hF
    refine j_iload C dX3_join_162 5 rfl ?_
    refine j_iload_n C dX3_join_164 rfl 3 rfl ?_
    refine j_aload_n C dX3_join_165 rfl 0 rfl ?_
    refine m_get0 C in_X3_join_wsX30 2 (by decide) (by decide +kernel) rfl dX3_join_166 ?_
    refine j_iload_n C dX3_join_169 rfl 2 rfl ?_
    have b23 := zif_c hF hn
    replace hF := zif_t hF b23
    refine m_iald C (by decide) b23 dX3_join_170 ?_
    refine j_iadd C dX3_join_171 ?_
    refine j_callSi C hne mT_S hT (As := [.int (i3 + (st 2 (i2).toNatClampNeg))]) (rest := [.int i5]) (kX3_leaves hl n (i3 + (st 2 (i2).toNatClampNeg)) st (zb_n hF hn)) (va_cwS 1 C.1.2.2.2.2 gX3_join_X3_leaves rfl rfl rfl (by decide +kernel) ⟨(Nat.le_of_ble_eq_true rfl), (Nat.le_of_ble_eq_true rfl)⟩) rfl rfl (Nat.le_of_ble_eq_true rfl) dX3_join_172 ⟨(Nat.le_of_ble_eq_true rfl), (Nat.le_of_ble_eq_true rfl)⟩ (fun _ _ h9 => zb_x hF h9) (Nat.le_of_ble_eq_true rfl) (Nat.le_of_ble_eq_true rfl) (fun v25 u24 h26 => ?_)
    replace hF := zb_l hF h26
    refine j_icmp_ge (tgt := 246) C dX3_join_175 (by decide) (fun c27 => ?_) (fun c27 => ?_)
    · replace hF := zif_t hF c27
      refine j_sub [0, 2, 3] rfl ?_
      exact hX_246 i2 i3 u24 hF
    · replace hF := zif_f hF c27
      refine j_aload_n C dX3_join_178 rfl 0 rfl ?_
      refine m_get0 C in_X3_join_wsX30 4 (by decide) (by decide +kernel) rfl dX3_join_179 ?_
      refine j_sipush (v := (4096 : Int32)) C dX3_join_182 (by decide) ?_
      refine j_iload C dX3_join_185 5 rfl ?_
      refine j_iadd C dX3_join_187 ?_
      refine j_iload C dX3_join_188 5 rfl ?_
      refine j_iload C dX3_join_190 4 rfl ?_
      refine j_icmp_ge (tgt := 211) C dX3_join_192 (by decide) (fun c28 => ?_) (fun c28 => ?_)
      · replace hF := zif_t hF c28
        refine j_iload_n C dX3_join_211 rfl 3 rfl ?_
        refine j_bipush (v := (16 : Int32)) C dX3_join_212 (by decide) ?_
        refine j_irem C dX3_join_214 (by decide) ?_
        refine j_if_ne (tgt := 237) C dX3_join_215 (by decide) (fun c29 => ?_) (fun c29 => ?_)
        · replace hF := zif_f hF c29
          refine j_bipush (v := ((-2) : Int32)) C dX3_join_237 (by decide) ?_
          have b30 := zif_c hF hn
          replace hF := zif_t hF b30
          refine m_iast C (by decide) b30 dX3_join_239 ?_
          obtain ⟨s31, es31, hF⟩ := zl_e hF
          rw [← es31]
          refine j_iinc (lv' := [(5, .int (i5 + (1 : Int32))), (0, .ref (ad 0)), (1, .int i1), (2, .int i2), (3, .int i3), (4, .int i4)]) C dX3_join_240 5 rfl rfl (by decide) rfl ?_
          refine j_goto (tgt := 162) C dX3_join_243 (by decide) ?_
          refine j_sub [1, 2, 3, 4, 5, 0] rfl ?_
          exact ih i1 i2 i3 i4 (i5 + (1 : Int32)) s31 hF
        · replace hF := zif_t hF c29
          refine j_aload_n C dX3_join_218 rfl 0 rfl ?_
          refine m_get0 C in_X3_join_wsX30 4 (by decide) (by decide +kernel) rfl dX3_join_219 ?_
          refine j_sipush (v := (256 : Int32)) C dX3_join_222 (by decide) ?_
          refine j_iload_n C dX3_join_225 rfl 2 rfl ?_
          refine j_imul C dX3_join_226 ?_
          refine j_iload C dX3_join_227 5 rfl ?_
          refine j_iadd C dX3_join_229 ?_
          refine j_iload C dX3_join_230 4 rfl ?_
          refine j_isub C dX3_join_232 ?_
          have b32 := zif_c hF hn
          replace hF := zif_t hF b32
          refine m_iald C (by decide) b32 dX3_join_233 ?_
          refine j_goto (tgt := 239) C dX3_join_234 (by decide) ?_
          have b33 := zif_c hF hn
          replace hF := zif_t hF b33
          refine m_iast C (by decide) b33 dX3_join_239 ?_
          obtain ⟨s34, es34, hF⟩ := zl_e hF
          rw [← es34]
          refine j_iinc (lv' := [(5, .int (i5 + (1 : Int32))), (0, .ref (ad 0)), (1, .int i1), (2, .int i2), (3, .int i3), (4, .int i4)]) C dX3_join_240 5 rfl rfl (by decide) rfl ?_
          refine j_goto (tgt := 162) C dX3_join_243 (by decide) ?_
          refine j_sub [1, 2, 3, 4, 5, 0] rfl ?_
          exact ih i1 i2 i3 i4 (i5 + (1 : Int32)) s34 hF
      · replace hF := zif_f hF c28
        refine j_aload_n C dX3_join_195 rfl 0 rfl ?_
        refine m_get0 C in_X3_join_wsX30 4 (by decide) (by decide +kernel) rfl dX3_join_196 ?_
        refine j_sipush (v := (256 : Int32)) C dX3_join_199 (by decide) ?_
        refine j_iload_n C dX3_join_202 rfl 1 rfl ?_
        refine j_imul C dX3_join_203 ?_
        refine j_iload C dX3_join_204 5 rfl ?_
        refine j_iadd C dX3_join_206 ?_
        have b35 := zif_c hF hn
        replace hF := zif_t hF b35
        refine m_iald C (by decide) b35 dX3_join_207 ?_
        refine j_goto (tgt := 239) C dX3_join_208 (by decide) ?_
        have b36 := zif_c hF hn
        replace hF := zif_t hF b36
        refine m_iast C (by decide) b36 dX3_join_239 ?_
        obtain ⟨s37, es37, hF⟩ := zl_e hF
        rw [← es37]
        refine j_iinc (lv' := [(5, .int (i5 + (1 : Int32))), (0, .ref (ad 0)), (1, .int i1), (2, .int i2), (3, .int i3), (4, .int i4)]) C dX3_join_240 5 rfl rfl (by decide) rfl ?_
        refine j_goto (tgt := 162) C dX3_join_243 (by decide) ?_
        refine j_sub [1, 2, 3, 4, 5, 0] rfl ?_
        exact ih i1 i2 i3 i4 (i5 + (1 : Int32)) s37 hF
def fX3_join_55 (n : Nat)  (i1 : Int32) (i2 : Int32) (it0 : Int32) (it1 : Int32) (st : zS) : zF Int32 := (zb (fX3_refuses n it1 it0 st) (fun (v10 : Int32) (u9 : zS) => (if v10 = 0 then (if inb i1 (ml 2) then fX3_join_73 n (fun (i1 : Int32) (i2 : Int32) (i3 : Int32) (st : zS) => fX3_join_111 n (fun (i1 : Int32) (i2 : Int32) (i3 : Int32) (st : zS) => fX3_join_162 n (fun (i2 : Int32) (i3 : Int32) (st : zS) => (if inb i2 (ml 2) then (zb (fX3_keep n (i3 + (st 2 (i2).toNatClampNeg)) st) (fun (v40 : Int32) (u39 : zS) => some (.inl v40, u39))) else none)) n i1 i2 i3 (i3 / (16 : Int32)) (0 : Int32) st) n i1 i2 i3 (0 : Int32) st) n i1 i2 (u9 2 (i1).toNatClampNeg) (0 : Int32) u9 else none) else some (.inl (0 : Int32), u9))))
set_option maxHeartbeats 4000000 in
set_option maxRecDepth 100000 in
theorem wX3_join_55 (C : zC p s m args meth c cX3_join RX3 wsX3_join D zcl (mty cI cZ) 7 ad 6) (hne : ∀ x ∈ c.exceptionTable.toList, False) (hl : l.stackTraces = false) (hT : mT s.heap.size s) (hr : meth.sig.returnType = (some .int)) {F : zF Int32} (hn : F ≠ none) (n : Nat)   : ∀ (i1 : Int32) (i2 : Int32) (it0 : Int32) (it1 : Int32) (st : zS), fX3_join_55 n  i1 i2 it0 it1 st = F → mJ (fun v : Int32 => some (.int v)) F 0 0 p l e rmX3_join s m args below meth c D cI cZ ad 6 st 0 0 55 [(0, .ref (ad 0)), (1, .int i1), (2, .int i2)] [.int it0, .int it1, .ref (ad 0)] := by
  intro i1 i2 it0 it1 st hF
  unfold fX3_join_55 at hF
  refine j_callVi C hne mT_S hT (q0 := 0) (As := [.int it1, .int it0]) (rest := []) (kX3_refuses hl n it1 it0 st (zb_n hF hn)) (cwV 2 C.1.2.2.2.2 gX3_join_X3_refuses rfl rfl rfl (by decide +kernel) ⟨(Nat.le_of_ble_eq_true rfl), (Nat.le_of_ble_eq_true rfl)⟩) (by decide) mce_0 rfl rfl rfl (Nat.le_of_ble_eq_true rfl) dX3_join_55 ⟨(Nat.le_of_ble_eq_true rfl), (Nat.le_of_ble_eq_true rfl)⟩ (fun _ _ h9 => zb_x hF h9) (Nat.le_of_ble_eq_true rfl) (Nat.le_of_ble_eq_true rfl) (fun v10 u9 h11 => ?_)
  replace hF := zb_l hF h11
  refine j_if_eq (tgt := 63) C dX3_join_58 (by decide) (fun c12 => ?_) (fun c12 => ?_)
  · replace hF := zif_t hF c12
    refine j_aload_n C dX3_join_63 rfl 0 rfl ?_
    refine m_get0 C in_X3_join_wsX30 2 (by decide) (by decide +kernel) rfl dX3_join_64 ?_
    refine j_iload_n C dX3_join_67 rfl 1 rfl ?_
    have b13 := zif_c hF hn
    replace hF := zif_t hF b13
    refine m_iald C (by decide) b13 dX3_join_68 ?_
    refine j_istore_n (lv' := [(3, .int (u9 2 (i1).toNatClampNeg)), (0, .ref (ad 0)), (1, .int i1), (2, .int i2)]) C dX3_join_69 rfl (by decide) rfl ?_
    refine j_iconst (v := (0 : Int32)) C dX3_join_70 (by decide) ?_
    refine j_istore (lv' := [(4, .int (0 : Int32)), (3, .int (u9 2 (i1).toNatClampNeg)), (0, .ref (ad 0)), (1, .int i1), (2, .int i2)]) C dX3_join_71 (by decide) rfl ?_
    refine j_sub [2, 3, 4, 1, 0] rfl ?_
    refine wX3_join_73 C hne hl hT hr hn n ?_ n i1 i2 (u9 2 (i1).toNatClampNeg) (0 : Int32) u9 hF
    · intro i1 i2 i3 st hF
      refine j_iconst (v := (0 : Int32)) C dX3_join_108 (by decide) ?_
      refine j_istore (lv' := [(4, .int (0 : Int32)), (0, .ref (ad 0)), (1, .int i1), (2, .int i2), (3, .int i3)]) C dX3_join_109 (by decide) rfl ?_
      refine j_sub [1, 2, 3, 4, 0] rfl ?_
      refine wX3_join_111 C hne hl hT hr hn n ?_ n i1 i2 i3 (0 : Int32) st hF
      · intro i1 i2 i3 st hF
        refine j_iload_n C dX3_join_153 rfl 3 rfl ?_
        refine j_bipush (v := (16 : Int32)) C dX3_join_154 (by decide) ?_
        refine j_idiv C dX3_join_156 (by decide) ?_
        refine j_istore (lv' := [(4, .int (i3 / (16 : Int32))), (0, .ref (ad 0)), (1, .int i1), (2, .int i2), (3, .int i3)]) C dX3_join_157 (by decide) rfl ?_
        refine j_iconst (v := (0 : Int32)) C dX3_join_159 (by decide) ?_
        refine j_istore (lv' := [(5, .int (0 : Int32)), (4, .int (i3 / (16 : Int32))), (0, .ref (ad 0)), (1, .int i1), (2, .int i2), (3, .int i3)]) C dX3_join_160 (by decide) rfl ?_
        refine j_sub [2, 3, 4, 5, 1, 0] rfl ?_
        refine wX3_join_162 C hne hl hT hr hn n ?_ n i1 i2 i3 (i3 / (16 : Int32)) (0 : Int32) st hF
        · intro i2 i3 st hF
          refine j_aload_n C dX3_join_246 rfl 0 rfl ?_
          refine j_iload_n C dX3_join_247 rfl 2 rfl ?_
          refine j_aload_n C dX3_join_248 rfl 0 rfl ?_
          refine m_get0 C in_X3_join_wsX30 2 (by decide) (by decide +kernel) rfl dX3_join_249 ?_
          refine j_iload_n C dX3_join_252 rfl 1 rfl ?_
          have b38 := zif_c hF hn
          replace hF := zif_t hF b38
          refine m_iald C (by decide) b38 dX3_join_253 ?_
          refine j_iadd C dX3_join_254 ?_
          refine j_callVi C hne mT_S hT (q0 := 0) (As := [.int (i3 + (st 2 (i2).toNatClampNeg))]) (rest := []) (kX3_keep hl n (i3 + (st 2 (i2).toNatClampNeg)) st (zb_n hF hn)) (cwV 1 C.1.2.2.2.2 gX3_join_X3_keep rfl rfl rfl (by decide +kernel) ⟨(Nat.le_of_ble_eq_true rfl), (Nat.le_of_ble_eq_true rfl)⟩) (by decide) mce_0 rfl rfl rfl (Nat.le_of_ble_eq_true rfl) dX3_join_255 ⟨(Nat.le_of_ble_eq_true rfl), (Nat.le_of_ble_eq_true rfl)⟩ (fun _ _ h9 => zb_x hF h9) (Nat.le_of_ble_eq_true rfl) (Nat.le_of_ble_eq_true rfl) (fun v40 u39 h41 => ?_)
          replace hF := zb_l hF h41
          exact j_iret C hr hF (Nat.le_of_ble_eq_true rfl) (Nat.le_of_ble_eq_true rfl) dX3_join_258
  · replace hF := zif_f hF c12
    refine j_iconst (v := (0 : Int32)) C dX3_join_61 (by decide) ?_
    exact j_iret C hr hF (Nat.le_of_ble_eq_true rfl) (Nat.le_of_ble_eq_true rfl) dX3_join_62
def fX3_join_41 (n : Nat)  (i1 : Int32) (i2 : Int32) (it0 : Int32) (st : zS) : zF Int32 := (zb (fX3_free n  st) (fun (v6 : Int32) (u5 : zS) => (if v6 = (16 : Int32) then fX3_join_55 n i1 i2 (1 : Int32) it0 u5 else fX3_join_55 n i1 i2 (0 : Int32) it0 u5)))
set_option maxHeartbeats 4000000 in
set_option maxRecDepth 100000 in
theorem wX3_join_41 (C : zC p s m args meth c cX3_join RX3 wsX3_join D zcl (mty cI cZ) 7 ad 6) (hne : ∀ x ∈ c.exceptionTable.toList, False) (hl : l.stackTraces = false) (hT : mT s.heap.size s) (hr : meth.sig.returnType = (some .int)) {F : zF Int32} (hn : F ≠ none) (n : Nat)   : ∀ (i1 : Int32) (i2 : Int32) (it0 : Int32) (st : zS), fX3_join_41 n  i1 i2 it0 st = F → mJ (fun v : Int32 => some (.int v)) F 0 0 p l e rmX3_join s m args below meth c D cI cZ ad 6 st 0 0 41 [(0, .ref (ad 0)), (1, .int i1), (2, .int i2)] [.int it0, .ref (ad 0)] := by
  intro i1 i2 it0 st hF
  unfold fX3_join_41 at hF
  refine j_aload_n C dX3_join_41 rfl 0 rfl ?_
  refine j_callVi C hne mT_S hT (q0 := 0) (As := []) (rest := [.int it0, .ref (ad 0)]) (kX3_free hl n  st (zb_n hF hn)) (cwV 0 C.1.2.2.2.2 gX3_join_X3_free rfl rfl rfl (by decide +kernel) ⟨(Nat.le_of_ble_eq_true rfl), (Nat.le_of_ble_eq_true rfl)⟩) (by decide) mce_0 rfl rfl rfl (Nat.le_of_ble_eq_true rfl) dX3_join_42 ⟨(Nat.le_of_ble_eq_true rfl), (Nat.le_of_ble_eq_true rfl)⟩ (fun _ _ h9 => zb_x hF h9) (Nat.le_of_ble_eq_true rfl) (Nat.le_of_ble_eq_true rfl) (fun v6 u5 h7 => ?_)
  replace hF := zb_l hF h7
  refine j_bipush (v := (16 : Int32)) C dX3_join_45 (by decide) ?_
  refine j_icmp_ne (tgt := 54) C dX3_join_47 (by decide) (fun c8 => ?_) (fun c8 => ?_)
  · replace hF := zif_f hF c8
    refine j_iconst (v := (0 : Int32)) C dX3_join_54 (by decide) ?_
    refine wX3_join_55 C hne hl hT hr hn n  i1 i2 (0 : Int32) it0 u5 hF
  · replace hF := zif_t hF c8
    refine j_iconst (v := (1 : Int32)) C dX3_join_50 (by decide) ?_
    refine j_goto (tgt := 55) C dX3_join_51 (by decide) ?_
    refine wX3_join_55 C hne hl hT hr hn n  i1 i2 (1 : Int32) it0 u5 hF
def fX3_join_36 (n : Nat)  (i1 : Int32) (i2 : Int32) (st : zS) : zF Int32 := fX3_join_41 n i1 i2 (1 : Int32) st
set_option maxHeartbeats 4000000 in
set_option maxRecDepth 100000 in
theorem wX3_join_36 (C : zC p s m args meth c cX3_join RX3 wsX3_join D zcl (mty cI cZ) 7 ad 6) (hne : ∀ x ∈ c.exceptionTable.toList, False) (hl : l.stackTraces = false) (hT : mT s.heap.size s) (hr : meth.sig.returnType = (some .int)) {F : zF Int32} (hn : F ≠ none) (n : Nat)   : ∀ (i1 : Int32) (i2 : Int32) (st : zS), fX3_join_36 n  i1 i2 st = F → mJ (fun v : Int32 => some (.int v)) F 0 0 p l e rmX3_join s m args below meth c D cI cZ ad 6 st 0 0 36 [(0, .ref (ad 0)), (1, .int i1), (2, .int i2)] [.ref (ad 0)] := by
  intro i1 i2 st hF
  unfold fX3_join_36 at hF
  refine j_iconst (v := (1 : Int32)) C dX3_join_36 (by decide) ?_
  refine j_goto (tgt := 41) C dX3_join_37 (by decide) ?_
  refine wX3_join_41 C hne hl hT hr hn n  i1 i2 (1 : Int32) st hF
def fX3_join (n : Nat) (i1 : Int32) (i2 : Int32) (st : zS) : zF Int32 := (zb (fX3_isArray n i1 st) (fun (v2 : Int32) (u1 : zS) => (if v2 = 0 then fX3_join_36 n i1 i2 u1 else (zb (fX3_isArray n i2 u1) (fun (v43 : Int32) (u42 : zS) => (if v43 = 0 then fX3_join_36 n i1 i2 u42 else (if inb i1 (ml 2) then (if inb i2 (ml 2) then (if ((u42 2 (i1).toNatClampNeg) + (u42 2 (i2).toNatClampNeg)) ≤ (4096 : Int32) then fX3_join_41 n i1 i2 (0 : Int32) u42 else fX3_join_36 n i1 i2 u42) else none) else none)))))))
set_option maxHeartbeats 4000000 in
set_option maxRecDepth 100000 in
theorem kX3_join (hl : l.stackTraces = false) (n : Nat) (i1 : Int32) (i2 : Int32) (st : zS) (hn : fX3_join n i1 i2 st ≠ none) : zM (fun v : Int32 => some (.int v)) l yX3_join wsX3_join rmX3_join D zcl (mty cI cZ) 7 ad (mce cI cZ ad) mT 0 0 [.ref (ad 0), .int i1, .int i2] st (fX3_join n i1 i2 st) := by
  refine z_ofJ (cc := cX3_join) (maxL := 6) (ret := (some .int)) (lv := [(0, .ref (ad 0)), (1, .int i1), (2, .int i2)]) (by decide) rfl (Nat.le_of_ble_eq_true rfl) rfl ?_
  intro p e s m args below meth c C hne hT hr
  obtain ⟨F, hFe⟩ : ∃ F, F = fX3_join n i1 i2 st := ⟨_, rfl⟩
  rw [← hFe] at hn ⊢
  have hF : fX3_join n i1 i2 st = F := hFe.symm
  clear hFe
  unfold fX3_join at hF
  have C : zC p s m args meth c cX3_join RX3 wsX3_join D zcl (mty cI cZ) 7 ad 6 := C
  refine j_aload_n C dX3_join_0 rfl 0 rfl ?_
  refine j_aload_n C dX3_join_1 rfl 0 rfl ?_
  refine j_iload_n C dX3_join_2 rfl 1 rfl ?_
  refine j_callVi C hne mT_S hT (q0 := 0) (As := [.int i1]) (rest := [.ref (ad 0)]) (kX3_isArray hl n i1 st (zb_n hF hn)) (cwV 1 C.1.2.2.2.2 gX3_join_X3_isArray rfl rfl rfl (by decide +kernel) ⟨(Nat.le_of_ble_eq_true rfl), (Nat.le_of_ble_eq_true rfl)⟩) (by decide) mce_0 rfl rfl rfl (Nat.le_of_ble_eq_true rfl) dX3_join_3 ⟨(Nat.le_of_ble_eq_true rfl), (Nat.le_of_ble_eq_true rfl)⟩ (fun _ _ h9 => zb_x hF h9) (Nat.le_of_ble_eq_true rfl) (Nat.le_of_ble_eq_true rfl) (fun v2 u1 h3 => ?_)
  replace hF := zb_l hF h3
  refine j_if_eq (tgt := 36) C dX3_join_6 (by decide) (fun c4 => ?_) (fun c4 => ?_)
  · replace hF := zif_t hF c4
    refine wX3_join_36 C hne hl hT hr hn n  i1 i2 u1 hF
  · replace hF := zif_f hF c4
    refine j_aload_n C dX3_join_9 rfl 0 rfl ?_
    refine j_iload_n C dX3_join_10 rfl 2 rfl ?_
    refine j_callVi C hne mT_S hT (q0 := 0) (As := [.int i2]) (rest := [.ref (ad 0)]) (kX3_isArray hl n i2 u1 (zb_n hF hn)) (cwV 1 C.1.2.2.2.2 gX3_join_X3_isArray rfl rfl rfl (by decide +kernel) ⟨(Nat.le_of_ble_eq_true rfl), (Nat.le_of_ble_eq_true rfl)⟩) (by decide) mce_0 rfl rfl rfl (Nat.le_of_ble_eq_true rfl) dX3_join_11 ⟨(Nat.le_of_ble_eq_true rfl), (Nat.le_of_ble_eq_true rfl)⟩ (fun _ _ h9 => zb_x hF h9) (Nat.le_of_ble_eq_true rfl) (Nat.le_of_ble_eq_true rfl) (fun v43 u42 h44 => ?_)
    replace hF := zb_l hF h44
    refine j_if_eq (tgt := 36) C dX3_join_14 (by decide) (fun c45 => ?_) (fun c45 => ?_)
    · replace hF := zif_t hF c45
      refine wX3_join_36 C hne hl hT hr hn n  i1 i2 u42 hF
    · replace hF := zif_f hF c45
      refine j_aload_n C dX3_join_17 rfl 0 rfl ?_
      refine m_get0 C in_X3_join_wsX30 2 (by decide) (by decide +kernel) rfl dX3_join_18 ?_
      refine j_iload_n C dX3_join_21 rfl 1 rfl ?_
      have b46 := zif_c hF hn
      replace hF := zif_t hF b46
      refine m_iald C (by decide) b46 dX3_join_22 ?_
      refine j_aload_n C dX3_join_23 rfl 0 rfl ?_
      refine m_get0 C in_X3_join_wsX30 2 (by decide) (by decide +kernel) rfl dX3_join_24 ?_
      refine j_iload_n C dX3_join_27 rfl 2 rfl ?_
      have b47 := zif_c hF hn
      replace hF := zif_t hF b47
      refine m_iald C (by decide) b47 dX3_join_28 ?_
      refine j_iadd C dX3_join_29 ?_
      refine j_sipush (v := (4096 : Int32)) C dX3_join_30 (by decide) ?_
      refine j_icmp_le (tgt := 40) C dX3_join_33 (by decide) (fun c48 => ?_) (fun c48 => ?_)
      · replace hF := zif_t hF c48
        refine j_iconst (v := (0 : Int32)) C dX3_join_40 (by decide) ?_
        refine wX3_join_41 C hne hl hT hr hn n  i1 i2 (0 : Int32) u42 hF
      · replace hF := zif_f hF c48
        refine wX3_join_36 C hne hl hT hr hn n  i1 i2 u42 hF
end
/-! X3_release -/
def rmX3_release : Room := { frames := 11, cells := 0, slots := 0, locals := 160 }
theorem in_X3_release_wsX30 : ∀ w ∈ wsX30, w ∈ wsX3_release := by decide +kernel
section
variable {p : Program} {l : Launch} {e : Env} {s : State} {m : MethodId} {args : Array Value} {below : List Frame} {meth : Method} {c : Code} {D : va_G} {cI cZ : ClassId} {ad : Nat → Nat}
def fX3_release (n : Nat) (i1 : Int32) (st : zS) : zF Int32 := (zl (upA st 0 (upd (st 0) 0 (0 : Int32))) (fun (s1 : zS) => (zb (fX3_isArray n i1 s1) (fun (v3 : Int32) (u2 : zS) => (if v3 = 0 then (if (v3 = 0 ∨ v3 = 1) then some (.inl v3, u2) else none) else (if inb i1 (ml 1) then (zl (upA u2 1 (upd (u2 1) (i1).toNatClampNeg (0 : Int32))) (fun (s8 : zS) => (if (v3 = 0 ∨ v3 = 1) then some (.inl v3, s8) else none))) else none))))))
set_option maxHeartbeats 4000000 in
set_option maxRecDepth 100000 in
theorem kX3_release (hl : l.stackTraces = false) (n : Nat) (i1 : Int32) (st : zS) (hn : fX3_release n i1 st ≠ none) : zM (fun v : Int32 => some (.int v)) l yX3_release wsX3_release rmX3_release D zcl (mty cI cZ) 7 ad (mce cI cZ ad) mT 0 0 [.ref (ad 0), .int i1] st (fX3_release n i1 st) := by
  refine z_ofJ (cc := cX3_release) (maxL := 3) (ret := (some .boolean)) (lv := [(0, .ref (ad 0)), (1, .int i1)]) (by decide) rfl (Nat.le_of_ble_eq_true rfl) rfl ?_
  intro p e s m args below meth c C hne hT hr
  obtain ⟨F, hFe⟩ : ∃ F, F = fX3_release n i1 st := ⟨_, rfl⟩
  rw [← hFe] at hn ⊢
  have hF : fX3_release n i1 st = F := hFe.symm
  clear hFe
  unfold fX3_release at hF
  have C : zC p s m args meth c cX3_release RX3 wsX3_release D zcl (mty cI cZ) 7 ad 3 := C
  refine j_aload_n C dX3_release_0 rfl 0 rfl ?_
  refine j_iconst (v := (0 : Int32)) C dX3_release_1 (by decide) ?_
  refine m_put0 C in_X3_release_wsX30 0 (by decide) (by decide +kernel) dX3_release_2 ?_
  obtain ⟨s1, es1, hF⟩ := zl_e hF
  rw [← es1]
  refine j_aload_n C dX3_release_5 rfl 0 rfl ?_
  refine j_iload_n C dX3_release_6 rfl 1 rfl ?_
  refine j_callVi C hne mT_S hT (q0 := 0) (As := [.int i1]) (rest := []) (kX3_isArray hl n i1 s1 (zb_n hF hn)) (cwV 1 C.1.2.2.2.2 gX3_release_X3_isArray rfl rfl rfl (by decide +kernel) ⟨(Nat.le_of_ble_eq_true rfl), (Nat.le_of_ble_eq_true rfl)⟩) (by decide) mce_0 rfl rfl rfl (Nat.le_of_ble_eq_true rfl) dX3_release_7 ⟨(Nat.le_of_ble_eq_true rfl), (Nat.le_of_ble_eq_true rfl)⟩ (fun _ _ h9 => zb_x hF h9) (Nat.le_of_ble_eq_true rfl) (Nat.le_of_ble_eq_true rfl) (fun v3 u2 h4 => ?_)
  replace hF := zb_l hF h4
  refine j_istore_n (lv' := [(2, .int v3), (0, .ref (ad 0)), (1, .int i1)]) C dX3_release_10 rfl (by decide) rfl ?_
  refine j_iload_n C dX3_release_11 rfl 0 rfl ?_
  refine j_if_eq (tgt := 22) C dX3_release_12 (by decide) (fun c5 => ?_) (fun c5 => ?_)
  · replace hF := zif_t hF c5
    refine j_iload_n C dX3_release_22 rfl 0 rfl ?_
    have b6 := zif_c hF hn
    replace hF := zif_t hF b6
    exact j_zret C hr (nar01 b6) hF (Nat.le_of_ble_eq_true rfl) (Nat.le_of_ble_eq_true rfl) dX3_release_23
  · replace hF := zif_f hF c5
    refine j_aload_n C dX3_release_15 rfl 1 rfl ?_
    refine m_get0 C in_X3_release_wsX30 1 (by decide) (by decide +kernel) rfl dX3_release_16 ?_
    refine j_iload_n C dX3_release_19 rfl 2 rfl ?_
    refine j_iconst (v := (0 : Int32)) C dX3_release_20 (by decide) ?_
    have b7 := zif_c hF hn
    replace hF := zif_t hF b7
    refine m_zast C rfl b7 dX3_release_21 ?_
    obtain ⟨s8, es8, hF⟩ := zl_e hF
    rw [← es8]
    refine j_iload_n C dX3_release_22 rfl 0 rfl ?_
    have b9 := zif_c hF hn
    replace hF := zif_t hF b9
    exact j_zret C hr (nar01 b9) hF (Nat.le_of_ble_eq_true rfl) (Nat.le_of_ble_eq_true rfl) dX3_release_23
end
/-! X3_get -/
def rmX3_get : Room := { frames := 11, cells := 0, slots := 0, locals := 160 }
theorem in_X3_get_wsX30 : ∀ w ∈ wsX30, w ∈ wsX3_get := by decide +kernel
section
variable {p : Program} {l : Launch} {e : Env} {s : State} {m : MethodId} {args : Array Value} {below : List Frame} {meth : Method} {c : Code} {D : va_G} {cI cZ : ClassId} {ad : Nat → Nat}
def fX3_get_28 (n : Nat)  (i1 : Int32) (i2 : Int32) (it0 : Int32) (st : zS) : zF Int32 := (zb (fX3_refuses n it0 (0 : Int32) st) (fun (v6 : Int32) (u5 : zS) => (if v6 = 0 then (if inb (((4096 : Int32) * i1) + i2) (ml 3) then some (.inl (u5 3 ((((4096 : Int32) * i1) + i2)).toNatClampNeg), u5) else none) else some (.inl (0 : Int32), u5))))
set_option maxHeartbeats 4000000 in
set_option maxRecDepth 100000 in
theorem wX3_get_28 (C : zC p s m args meth c cX3_get RX3 wsX3_get D zcl (mty cI cZ) 7 ad 3) (hne : ∀ x ∈ c.exceptionTable.toList, False) (hl : l.stackTraces = false) (hT : mT s.heap.size s) (hr : meth.sig.returnType = (some .int)) {F : zF Int32} (hn : F ≠ none) (n : Nat)   : ∀ (i1 : Int32) (i2 : Int32) (it0 : Int32) (st : zS), fX3_get_28 n  i1 i2 it0 st = F → mJ (fun v : Int32 => some (.int v)) F 0 0 p l e rmX3_get s m args below meth c D cI cZ ad 3 st 0 0 28 [(0, .ref (ad 0)), (1, .int i1), (2, .int i2)] [.int it0, .ref (ad 0)] := by
  intro i1 i2 it0 st hF
  unfold fX3_get_28 at hF
  refine j_iconst (v := (0 : Int32)) C dX3_get_28 (by decide) ?_
  refine j_callVi C hne mT_S hT (q0 := 0) (As := [.int it0, .int (0 : Int32)]) (rest := []) (kX3_refuses hl n it0 (0 : Int32) st (zb_n hF hn)) (cwV 2 C.1.2.2.2.2 gX3_get_X3_refuses rfl rfl rfl (by decide +kernel) ⟨(Nat.le_of_ble_eq_true rfl), (Nat.le_of_ble_eq_true rfl)⟩) (by decide) mce_0 rfl rfl rfl (Nat.le_of_ble_eq_true rfl) dX3_get_29 ⟨(Nat.le_of_ble_eq_true rfl), (Nat.le_of_ble_eq_true rfl)⟩ (fun _ _ h9 => zb_x hF h9) (Nat.le_of_ble_eq_true rfl) (Nat.le_of_ble_eq_true rfl) (fun v6 u5 h7 => ?_)
  replace hF := zb_l hF h7
  refine j_if_eq (tgt := 39) C dX3_get_32 (by decide) (fun c8 => ?_) (fun c8 => ?_)
  · replace hF := zif_t hF c8
    refine j_aload_n C dX3_get_39 rfl 0 rfl ?_
    refine m_get0 C in_X3_get_wsX30 3 (by decide) (by decide +kernel) rfl dX3_get_40 ?_
    refine j_sipush (v := (4096 : Int32)) C dX3_get_43 (by decide) ?_
    refine j_iload_n C dX3_get_46 rfl 1 rfl ?_
    refine j_imul C dX3_get_47 ?_
    refine j_iload_n C dX3_get_48 rfl 2 rfl ?_
    refine j_iadd C dX3_get_49 ?_
    have b9 := zif_c hF hn
    replace hF := zif_t hF b9
    refine m_iald C (by decide) b9 dX3_get_50 ?_
    exact j_iret C hr hF (Nat.le_of_ble_eq_true rfl) (Nat.le_of_ble_eq_true rfl) dX3_get_51
  · replace hF := zif_f hF c8
    refine j_iconst (v := (0 : Int32)) C dX3_get_35 (by decide) ?_
    refine j_goto (tgt := 51) C dX3_get_36 (by decide) ?_
    exact j_iret C hr hF (Nat.le_of_ble_eq_true rfl) (Nat.le_of_ble_eq_true rfl) dX3_get_51
def fX3_get_23 (n : Nat)  (i1 : Int32) (i2 : Int32) (st : zS) : zF Int32 := fX3_get_28 n i1 i2 (1 : Int32) st
set_option maxHeartbeats 4000000 in
set_option maxRecDepth 100000 in
theorem wX3_get_23 (C : zC p s m args meth c cX3_get RX3 wsX3_get D zcl (mty cI cZ) 7 ad 3) (hne : ∀ x ∈ c.exceptionTable.toList, False) (hl : l.stackTraces = false) (hT : mT s.heap.size s) (hr : meth.sig.returnType = (some .int)) {F : zF Int32} (hn : F ≠ none) (n : Nat)   : ∀ (i1 : Int32) (i2 : Int32) (st : zS), fX3_get_23 n  i1 i2 st = F → mJ (fun v : Int32 => some (.int v)) F 0 0 p l e rmX3_get s m args below meth c D cI cZ ad 3 st 0 0 23 [(0, .ref (ad 0)), (1, .int i1), (2, .int i2)] [.ref (ad 0)] := by
  intro i1 i2 st hF
  unfold fX3_get_23 at hF
  refine j_iconst (v := (1 : Int32)) C dX3_get_23 (by decide) ?_
  refine j_goto (tgt := 28) C dX3_get_24 (by decide) ?_
  refine wX3_get_28 C hne hl hT hr hn n  i1 i2 (1 : Int32) st hF
def fX3_get (n : Nat) (i1 : Int32) (i2 : Int32) (st : zS) : zF Int32 := (zb (fX3_isArray n i1 st) (fun (v2 : Int32) (u1 : zS) => (if v2 = 0 then fX3_get_23 n i1 i2 u1 else (if i2 < 0 then fX3_get_23 n i1 i2 u1 else (if inb i1 (ml 2) then (if i2 < (u1 2 (i1).toNatClampNeg) then fX3_get_28 n i1 i2 (0 : Int32) u1 else fX3_get_23 n i1 i2 u1) else none)))))
set_option maxHeartbeats 4000000 in
set_option maxRecDepth 100000 in
theorem kX3_get (hl : l.stackTraces = false) (n : Nat) (i1 : Int32) (i2 : Int32) (st : zS) (hn : fX3_get n i1 i2 st ≠ none) : zM (fun v : Int32 => some (.int v)) l yX3_get wsX3_get rmX3_get D zcl (mty cI cZ) 7 ad (mce cI cZ ad) mT 0 0 [.ref (ad 0), .int i1, .int i2] st (fX3_get n i1 i2 st) := by
  refine z_ofJ (cc := cX3_get) (maxL := 3) (ret := (some .int)) (lv := [(0, .ref (ad 0)), (1, .int i1), (2, .int i2)]) (by decide) rfl (Nat.le_of_ble_eq_true rfl) rfl ?_
  intro p e s m args below meth c C hne hT hr
  obtain ⟨F, hFe⟩ : ∃ F, F = fX3_get n i1 i2 st := ⟨_, rfl⟩
  rw [← hFe] at hn ⊢
  have hF : fX3_get n i1 i2 st = F := hFe.symm
  clear hFe
  unfold fX3_get at hF
  have C : zC p s m args meth c cX3_get RX3 wsX3_get D zcl (mty cI cZ) 7 ad 3 := C
  refine j_aload_n C dX3_get_0 rfl 0 rfl ?_
  refine j_aload_n C dX3_get_1 rfl 0 rfl ?_
  refine j_iload_n C dX3_get_2 rfl 1 rfl ?_
  refine j_callVi C hne mT_S hT (q0 := 0) (As := [.int i1]) (rest := [.ref (ad 0)]) (kX3_isArray hl n i1 st (zb_n hF hn)) (cwV 1 C.1.2.2.2.2 gX3_get_X3_isArray rfl rfl rfl (by decide +kernel) ⟨(Nat.le_of_ble_eq_true rfl), (Nat.le_of_ble_eq_true rfl)⟩) (by decide) mce_0 rfl rfl rfl (Nat.le_of_ble_eq_true rfl) dX3_get_3 ⟨(Nat.le_of_ble_eq_true rfl), (Nat.le_of_ble_eq_true rfl)⟩ (fun _ _ h9 => zb_x hF h9) (Nat.le_of_ble_eq_true rfl) (Nat.le_of_ble_eq_true rfl) (fun v2 u1 h3 => ?_)
  replace hF := zb_l hF h3
  refine j_if_eq (tgt := 23) C dX3_get_6 (by decide) (fun c4 => ?_) (fun c4 => ?_)
  · replace hF := zif_t hF c4
    refine wX3_get_23 C hne hl hT hr hn n  i1 i2 u1 hF
  · replace hF := zif_f hF c4
    refine j_iload_n C dX3_get_9 rfl 2 rfl ?_
    refine j_if_lt (tgt := 23) C dX3_get_10 (by decide) (fun c10 => ?_) (fun c10 => ?_)
    · replace hF := zif_t hF c10
      refine wX3_get_23 C hne hl hT hr hn n  i1 i2 u1 hF
    · replace hF := zif_f hF c10
      refine j_iload_n C dX3_get_13 rfl 2 rfl ?_
      refine j_aload_n C dX3_get_14 rfl 0 rfl ?_
      refine m_get0 C in_X3_get_wsX30 2 (by decide) (by decide +kernel) rfl dX3_get_15 ?_
      refine j_iload_n C dX3_get_18 rfl 1 rfl ?_
      have b11 := zif_c hF hn
      replace hF := zif_t hF b11
      refine m_iald C (by decide) b11 dX3_get_19 ?_
      refine j_icmp_lt (tgt := 27) C dX3_get_20 (by decide) (fun c12 => ?_) (fun c12 => ?_)
      · replace hF := zif_t hF c12
        refine j_iconst (v := (0 : Int32)) C dX3_get_27 (by decide) ?_
        refine wX3_get_28 C hne hl hT hr hn n  i1 i2 (0 : Int32) u1 hF
      · replace hF := zif_f hF c12
        refine wX3_get_23 C hne hl hT hr hn n  i1 i2 u1 hF
end
