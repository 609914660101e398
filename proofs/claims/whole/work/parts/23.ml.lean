/-! X3_keep -/
def rmX3_keep : Room := { frames := 12, cells := 0, slots := 0, locals := 200 }
theorem in_X3_keep_wsX30 : ∀ w ∈ wsX30, w ∈ wsX3_keep := by decide +kernel
section
variable {p : Program} {l : Launch} {e : Env} {s : State} {m : MethodId} {args : Array Value} {below : List Frame} {meth : Method} {c : Code} {D : va_G} {cI cZ : ClassId} {ad : Nat → Nat}
def fX3_keep_4 (n : Nat) (X_83 : Int32 → Int32 → zS → zF Int32) : Nat → Int32 → Int32 → Int32 → zS → zF Int32
  | 0, _, _, _, _ => none
  | k + 1, i1, i2, i3, st => (zb (fX3_leaves n i1 st) (fun (v2 : Int32) (u1 : zS) => (if v2 ≤ i3 then X_83 i1 i2 u1 else (if inb ((4096 : Int32) + i3) (ml 4) then (if (u1 4 (((4096 : Int32) + i3)).toNatClampNeg) = ((-2) : Int32) then (zb (fX3_inLeaf n i1 i3 u1) (fun (v8 : Int32) (u7 : zS) => (zb (fX3_isPlain n (((65536) : Int32) + ((16 : Int32) * i3)) v8 u7) (fun (v11 : Int32) (u10 : zS) => (if v11 = 0 then (if v11 = 0 then fX3_keep_4 n X_83 k i1 (i2 + (1 : Int32)) (i3 + (1 : Int32)) u10 else fX3_keep_4 n X_83 k i1 (i2 + (0 : Int32)) (i3 + (1 : Int32)) u10) else (if inb ((4096 : Int32) + i3) (ml 4) then (zl (upA u10 4 (upd (u10 4) (((4096 : Int32) + i3)).toNatClampNeg ((-1) : Int32))) (fun (s16 : zS) => (if v11 = 0 then fX3_keep_4 n X_83 k i1 (i2 + (1 : Int32)) (i3 + (1 : Int32)) s16 else fX3_keep_4 n X_83 k i1 (i2 + (0 : Int32)) (i3 + (1 : Int32)) s16))) else none)))))) else fX3_keep_4 n X_83 k i1 i2 (i3 + (1 : Int32)) u1) else none))))
set_option maxHeartbeats 4000000 in
set_option maxRecDepth 100000 in
theorem wX3_keep_4 (C : zC p s m args meth c cX3_keep RX3 wsX3_keep D zcl (mty cI cZ) 7 ad 6) (hne : ∀ x ∈ c.exceptionTable.toList, False) (hl : l.stackTraces = false) (hT : mT s.heap.size s) (hr : meth.sig.returnType = (some .int)) {F : zF Int32} (hn : F ≠ none) (n : Nat) {X_83 : Int32 → Int32 → zS → zF Int32} (hX_83 : ∀ (i1 : Int32) (i2 : Int32) (st : zS), X_83 i1 i2 st = F → mJ (fun v : Int32 => some (.int v)) F 0 0 p l e rmX3_keep s m args below meth c D cI cZ ad 6 st 0 0 83 [(0, .ref (ad 0)), (1, .int i1), (2, .int i2)] []) : ∀ (k : Nat) (i1 : Int32) (i2 : Int32) (i3 : Int32) (st : zS), fX3_keep_4 n X_83 k i1 i2 i3 st = F → mJ (fun v : Int32 => some (.int v)) F 0 0 p l e rmX3_keep s m args below meth c D cI cZ ad 6 st 0 0 4 [(0, .ref (ad 0)), (1, .int i1), (2, .int i2), (3, .int i3)] [] := by
  intro k
  induction k with
  | zero =>
    intro i1 i2 i3 st hF
    exact absurd hF.symm hn
  | succ k ih =>
    intro i1 i2 i3 st hF
    rw [fX3_keep_4] at hF
    refine j_iload_n C dX3_keep_4 rfl 3 rfl ?_
    refine j_iload_n C dX3_keep_5 rfl 1 rfl ?_
    refine j_callSi C hne mT_S hT (As := [.int i1]) (rest := [.int i3]) (kX3_leaves hl n i1 st (zb_n hF hn)) (va_cwS 1 C.1.2.2.2.2 gX3_keep_X3_leaves rfl rfl rfl (by decide +kernel) ⟨(Nat.le_of_ble_eq_true rfl), (Nat.le_of_ble_eq_true rfl)⟩) rfl rfl (Nat.le_of_ble_eq_true rfl) dX3_keep_6 ⟨(Nat.le_of_ble_eq_true rfl), (Nat.le_of_ble_eq_true rfl)⟩ (fun _ _ h9 => zb_x hF h9) (Nat.le_of_ble_eq_true rfl) (Nat.le_of_ble_eq_true rfl) (fun v2 u1 h3 => ?_)
    replace hF := zb_l hF h3
    refine j_icmp_ge (tgt := 83) C dX3_keep_9 (by decide) (fun c4 => ?_) (fun c4 => ?_)
    · replace hF := zif_t hF c4
      refine j_sub [0, 1, 2] rfl ?_
      exact hX_83 i1 i2 u1 hF
    · replace hF := zif_f hF c4
      refine j_aload_n C dX3_keep_12 rfl 0 rfl ?_
      refine m_get0 C in_X3_keep_wsX30 4 (by decide) (by decide +kernel) rfl dX3_keep_13 ?_
      refine j_sipush (v := (4096 : Int32)) C dX3_keep_16 (by decide) ?_
      refine j_iload_n C dX3_keep_19 rfl 3 rfl ?_
      refine j_iadd C dX3_keep_20 ?_
      have b5 := zif_c hF hn
      replace hF := zif_t hF b5
      refine m_iald C (by decide) b5 dX3_keep_21 ?_
      refine j_bipush (v := ((-2) : Int32)) C dX3_keep_22 (by decide) ?_
      refine j_icmp_eq (tgt := 30) C dX3_keep_24 (by decide) (fun c6 => ?_) (fun c6 => ?_)
      · replace hF := zif_t hF c6
        refine j_aload_n C dX3_keep_30 rfl 0 rfl ?_
        refine j_ldc (v := ((65536) : Int32)) C (by decide +kernel) dX3_keep_31 ?_
        refine j_bipush (v := (16 : Int32)) C dX3_keep_33 (by decide) ?_
        refine j_iload_n C dX3_keep_35 rfl 3 rfl ?_
        refine j_imul C dX3_keep_36 ?_
        refine j_iadd C dX3_keep_37 ?_
        refine j_iload_n C dX3_keep_38 rfl 1 rfl ?_
        refine j_iload_n C dX3_keep_39 rfl 3 rfl ?_
        refine j_callSi C hne mT_S hT (As := [.int i1, .int i3]) (rest := [.int (((65536) : Int32) + ((16 : Int32) * i3)), .ref (ad 0)]) (kX3_inLeaf hl n i1 i3 u1 (zb_n hF hn)) (va_cwS 2 C.1.2.2.2.2 gX3_keep_X3_inLeaf rfl rfl rfl (by decide +kernel) ⟨(Nat.le_of_ble_eq_true rfl), (Nat.le_of_ble_eq_true rfl)⟩) rfl rfl (Nat.le_of_ble_eq_true rfl) dX3_keep_40 ⟨(Nat.le_of_ble_eq_true rfl), (Nat.le_of_ble_eq_true rfl)⟩ (fun _ _ h9 => zb_x hF h9) (Nat.le_of_ble_eq_true rfl) (Nat.le_of_ble_eq_true rfl) (fun v8 u7 h9 => ?_)
        replace hF := zb_l hF h9
        refine j_callVi C hne mT_S hT (q0 := 0) (As := [.int (((65536) : Int32) + ((16 : Int32) * i3)), .int v8]) (rest := []) (kX3_isPlain hl n (((65536) : Int32) + ((16 : Int32) * i3)) v8 u7 (zb_n hF hn)) (cwV 2 C.1.2.2.2.2 gX3_keep_X3_isPlain rfl rfl rfl (by decide +kernel) ⟨(Nat.le_of_ble_eq_true rfl), (Nat.le_of_ble_eq_true rfl)⟩) (by decide) mce_0 rfl rfl rfl (Nat.le_of_ble_eq_true rfl) dX3_keep_43 ⟨(Nat.le_of_ble_eq_true rfl), (Nat.le_of_ble_eq_true rfl)⟩ (fun _ _ h9 => zb_x hF h9) (Nat.le_of_ble_eq_true rfl) (Nat.le_of_ble_eq_true rfl) (fun v11 u10 h12 => ?_)
        replace hF := zb_l hF h12
        refine j_istore (lv' := [(4, .int v11), (0, .ref (ad 0)), (1, .int i1), (2, .int i2), (3, .int i3)]) C dX3_keep_46 (by decide) rfl ?_
        refine j_iload C dX3_keep_48 0 rfl ?_
        refine j_if_eq (tgt := 64) C dX3_keep_50 (by decide) (fun c13 => ?_) (fun c13 => ?_)
        · replace hF := zif_t hF c13
          refine j_iload_n C dX3_keep_64 rfl 3 rfl ?_
          refine j_iload C dX3_keep_65 0 rfl ?_
          refine j_if_eq (tgt := 74) C dX3_keep_67 (by decide) (fun c14 => ?_) (fun c14 => ?_)
          · replace hF := zif_t hF c14
            refine j_iconst (v := (1 : Int32)) C dX3_keep_74 (by decide) ?_
            refine j_iadd C dX3_keep_75 ?_
            refine j_istore_n (lv' := [(2, .int (i2 + (1 : Int32))), (4, .int v11), (0, .ref (ad 0)), (1, .int i1), (3, .int i3)]) C dX3_keep_76 rfl (by decide) rfl ?_
            refine j_iinc (lv' := [(3, .int (i3 + (1 : Int32))), (2, .int (i2 + (1 : Int32))), (4, .int v11), (0, .ref (ad 0)), (1, .int i1)]) C dX3_keep_77 4 rfl rfl (by decide) rfl ?_
            refine j_goto (tgt := 4) C dX3_keep_80 (by decide) ?_
            refine j_sub [3, 4, 1, 0] rfl ?_
            exact ih i1 (i2 + (1 : Int32)) (i3 + (1 : Int32)) u10 hF
          · replace hF := zif_f hF c14
            refine j_iconst (v := (0 : Int32)) C dX3_keep_70 (by decide) ?_
            refine j_goto (tgt := 75) C dX3_keep_71 (by decide) ?_
            refine j_iadd C dX3_keep_75 ?_
            refine j_istore_n (lv' := [(2, .int (i2 + (0 : Int32))), (4, .int v11), (0, .ref (ad 0)), (1, .int i1), (3, .int i3)]) C dX3_keep_76 rfl (by decide) rfl ?_
            refine j_iinc (lv' := [(3, .int (i3 + (1 : Int32))), (2, .int (i2 + (0 : Int32))), (4, .int v11), (0, .ref (ad 0)), (1, .int i1)]) C dX3_keep_77 4 rfl rfl (by decide) rfl ?_
            refine j_goto (tgt := 4) C dX3_keep_80 (by decide) ?_
            refine j_sub [3, 4, 1, 0] rfl ?_
            exact ih i1 (i2 + (0 : Int32)) (i3 + (1 : Int32)) u10 hF
        · replace hF := zif_f hF c13
          refine j_aload_n C dX3_keep_53 rfl 1 rfl ?_
          refine m_get0 C in_X3_keep_wsX30 4 (by decide) (by decide +kernel) rfl dX3_keep_54 ?_
          refine j_sipush (v := (4096 : Int32)) C dX3_keep_57 (by decide) ?_
          refine j_iload_n C dX3_keep_60 rfl 4 rfl ?_
          refine j_iadd C dX3_keep_61 ?_
          refine j_iconst (v := ((-1) : Int32)) C dX3_keep_62 (by decide) ?_
          have b15 := zif_c hF hn
          replace hF := zif_t hF b15
          refine m_iast C (by decide) b15 dX3_keep_63 ?_
          obtain ⟨s16, es16, hF⟩ := zl_e hF
          rw [← es16]
          refine j_iload_n C dX3_keep_64 rfl 3 rfl ?_
          refine j_iload C dX3_keep_65 0 rfl ?_
          refine j_if_eq (tgt := 74) C dX3_keep_67 (by decide) (fun c17 => ?_) (fun c17 => ?_)
          · replace hF := zif_t hF c17
            refine j_iconst (v := (1 : Int32)) C dX3_keep_74 (by decide) ?_
            refine j_iadd C dX3_keep_75 ?_
            refine j_istore_n (lv' := [(2, .int (i2 + (1 : Int32))), (4, .int v11), (0, .ref (ad 0)), (1, .int i1), (3, .int i3)]) C dX3_keep_76 rfl (by decide) rfl ?_
            refine j_iinc (lv' := [(3, .int (i3 + (1 : Int32))), (2, .int (i2 + (1 : Int32))), (4, .int v11), (0, .ref (ad 0)), (1, .int i1)]) C dX3_keep_77 4 rfl rfl (by decide) rfl ?_
            refine j_goto (tgt := 4) C dX3_keep_80 (by decide) ?_
            refine j_sub [3, 4, 1, 0] rfl ?_
            exact ih i1 (i2 + (1 : Int32)) (i3 + (1 : Int32)) s16 hF
          · replace hF := zif_f hF c17
            refine j_iconst (v := (0 : Int32)) C dX3_keep_70 (by decide) ?_
            refine j_goto (tgt := 75) C dX3_keep_71 (by decide) ?_
            refine j_iadd C dX3_keep_75 ?_
            refine j_istore_n (lv' := [(2, .int (i2 + (0 : Int32))), (4, .int v11), (0, .ref (ad 0)), (1, .int i1), (3, .int i3)]) C dX3_keep_76 rfl (by decide) rfl ?_
            refine j_iinc (lv' := [(3, .int (i3 + (1 : Int32))), (2, .int (i2 + (0 : Int32))), (4, .int v11), (0, .ref (ad 0)), (1, .int i1)]) C dX3_keep_77 4 rfl rfl (by decide) rfl ?_
            refine j_goto (tgt := 4) C dX3_keep_80 (by decide) ?_
            refine j_sub [3, 4, 1, 0] rfl ?_
            exact ih i1 (i2 + (0 : Int32)) (i3 + (1 : Int32)) s16 hF
      · replace hF := zif_f hF c6
        refine j_goto (tgt := 77) C dX3_keep_27 (by decide) ?_
        refine j_iinc (lv' := [(3, .int (i3 + (1 : Int32))), (0, .ref (ad 0)), (1, .int i1), (2, .int i2)]) C dX3_keep_77 3 rfl rfl (by decide) rfl ?_
        refine j_goto (tgt := 4) C dX3_keep_80 (by decide) ?_
        refine j_sub [1, 2, 3, 0] rfl ?_
        exact ih i1 i2 (i3 + (1 : Int32)) u1 hF
def fX3_keep_132 (n : Nat) (X_167 : Int32 → Int32 → zS → zF Int32) : Nat → Int32 → Int32 → Int32 → zS → zF Int32
  | 0, _, _, _, _ => none
  | k + 1, i1, i3, i4, st => (if i1 ≤ i4 then X_167 i1 i3 st else (if inb (((65536) : Int32) + i4) (ml 3) then (if inb (((4096 : Int32) * i3) + i4) (ml 3) then (zl (upA st 3 (upd (st 3) ((((4096 : Int32) * i3) + i4)).toNatClampNeg (st 3 ((((65536) : Int32) + i4)).toNatClampNeg))) (fun (s36 : zS) => fX3_keep_132 n X_167 k i1 i3 (i4 + (1 : Int32)) s36)) else none) else none))
set_option maxHeartbeats 4000000 in
set_option maxRecDepth 100000 in
theorem wX3_keep_132 (C : zC p s m args meth c cX3_keep RX3 wsX3_keep D zcl (mty cI cZ) 7 ad 6) (hne : ∀ x ∈ c.exceptionTable.toList, False) (hl : l.stackTraces = false) (hT : mT s.heap.size s) (hr : meth.sig.returnType = (some .int)) {F : zF Int32} (hn : F ≠ none) (n : Nat) {X_167 : Int32 → Int32 → zS → zF Int32} (hX_167 : ∀ (i1 : Int32) (i3 : Int32) (st : zS), X_167 i1 i3 st = F → mJ (fun v : Int32 => some (.int v)) F 0 0 p l e rmX3_keep s m args below meth c D cI cZ ad 6 st 0 0 167 [(0, .ref (ad 0)), (1, .int i1), (3, .int i3)] []) : ∀ (k : Nat) (i1 : Int32) (i3 : Int32) (i4 : Int32) (st : zS), fX3_keep_132 n X_167 k i1 i3 i4 st = F → mJ (fun v : Int32 => some (.int v)) F 0 0 p l e rmX3_keep s m args below meth c D cI cZ ad 6 st 0 0 132 [(0, .ref (ad 0)), (1, .int i1), (3, .int i3), (4, .int i4)] [] := by
  intro k
  induction k with
  | zero =>
    intro i1 i3 i4 st hF
    exact absurd hF.symm hn
  | succ k ih =>
    intro i1 i3 i4 st hF
    rw [fX3_keep_132] at hF
    refine j_iload C dX3_keep_132 3 rfl ?_
    refine j_iload_n C dX3_keep_134 rfl 1 rfl ?_
    refine j_icmp_ge (tgt := 167) C dX3_keep_135 (by decide) (fun c33 => ?_) (fun c33 => ?_)
    · replace hF := zif_t hF c33
      refine j_sub [0, 1, 2] rfl ?_
      exact hX_167 i1 i3 st hF
    · replace hF := zif_f hF c33
      refine j_aload_n C dX3_keep_138 rfl 0 rfl ?_
      refine m_get0 C in_X3_keep_wsX30 3 (by decide) (by decide +kernel) rfl dX3_keep_139 ?_
      refine j_sipush (v := (4096 : Int32)) C dX3_keep_142 (by decide) ?_
      refine j_iload_n C dX3_keep_145 rfl 2 rfl ?_
      refine j_imul C dX3_keep_146 ?_
      refine j_iload C dX3_keep_147 3 rfl ?_
      refine j_iadd C dX3_keep_149 ?_
      refine j_aload_n C dX3_keep_150 rfl 0 rfl ?_
      refine m_get0 C in_X3_keep_wsX30 3 (by decide) (by decide +kernel) rfl dX3_keep_151 ?_
      refine j_ldc (v := ((65536) : Int32)) C (by decide +kernel) dX3_keep_154 ?_
      refine j_iload C dX3_keep_156 3 rfl ?_
      refine j_iadd C dX3_keep_158 ?_
      have b34 := zif_c hF hn
      replace hF := zif_t hF b34
      refine m_iald C (by decide) b34 dX3_keep_159 ?_
      have b35 := zif_c hF hn
      replace hF := zif_t hF b35
      refine m_iast C (by decide) b35 dX3_keep_160 ?_
      obtain ⟨s36, es36, hF⟩ := zl_e hF
      rw [← es36]
      refine j_iinc (lv' := [(4, .int (i4 + (1 : Int32))), (0, .ref (ad 0)), (1, .int i1), (3, .int i3)]) C dX3_keep_161 3 rfl rfl (by decide) rfl ?_
      refine j_goto (tgt := 132) C dX3_keep_164 (by decide) ?_
      refine j_sub [1, 2, 3, 0] rfl ?_
      exact ih i1 i3 (i4 + (1 : Int32)) s36 hF
def fX3_keep_220 (n : Nat) (B_170 : Int32 → Int32 → Int32 → zS → zF Int32) (i1 : Int32) (i3 : Int32) (i4 : Int32) (i5 : Int32) (it0 : Int32) (it1 : Int32) (st : zS) : zF Int32 := (if inb it1 (ml 4) then (zl (upA st 4 (upd (st 4) (it1).toNatClampNeg it0)) (fun (s44 : zS) => (if i5 = ((-2) : Int32) then (zl (upA s44 0 (upd (s44 0) 6 ((s44 0 6) + (1 : Int32)))) (fun (s47 : zS) => B_170 i1 i3 (i4 + (1 : Int32)) s47)) else (zl (upA s44 0 (upd (s44 0) 6 ((s44 0 6) + (0 : Int32)))) (fun (s46 : zS) => B_170 i1 i3 (i4 + (1 : Int32)) s46))))) else none)
set_option maxHeartbeats 4000000 in
set_option maxRecDepth 100000 in
theorem wX3_keep_220 (C : zC p s m args meth c cX3_keep RX3 wsX3_keep D zcl (mty cI cZ) 7 ad 6) (hne : ∀ x ∈ c.exceptionTable.toList, False) (hl : l.stackTraces = false) (hT : mT s.heap.size s) (hr : meth.sig.returnType = (some .int)) {F : zF Int32} (hn : F ≠ none) (n : Nat) {B_170 : Int32 → Int32 → Int32 → zS → zF Int32} (hB_170 : ∀ (i1 : Int32) (i3 : Int32) (i4 : Int32) (st : zS), B_170 i1 i3 i4 st = F → mJ (fun v : Int32 => some (.int v)) F 0 0 p l e rmX3_keep s m args below meth c D cI cZ ad 6 st 0 0 170 [(0, .ref (ad 0)), (1, .int i1), (3, .int i3), (4, .int i4)] []) : ∀ (i1 : Int32) (i3 : Int32) (i4 : Int32) (i5 : Int32) (it0 : Int32) (it1 : Int32) (st : zS), fX3_keep_220 n B_170 i1 i3 i4 i5 it0 it1 st = F → mJ (fun v : Int32 => some (.int v)) F 0 0 p l e rmX3_keep s m args below meth c D cI cZ ad 6 st 0 0 220 [(0, .ref (ad 0)), (1, .int i1), (3, .int i3), (4, .int i4), (5, .int i5)] [.int it0, .int it1, .ref (ad 4)] := by
  intro i1 i3 i4 i5 it0 it1 st hF
  unfold fX3_keep_220 at hF
  have b43 := zif_c hF hn
  replace hF := zif_t hF b43
  refine m_iast C (by decide) b43 dX3_keep_220 ?_
  obtain ⟨s44, es44, hF⟩ := zl_e hF
  rw [← es44]
  refine j_aload_n C dX3_keep_221 rfl 0 rfl ?_
  refine j_dup C dX3_keep_222 rfl ?_
  refine m_get0 C in_X3_keep_wsX30 6 (by decide) (by decide +kernel) rfl dX3_keep_223 ?_
  refine j_iload C dX3_keep_226 4 rfl ?_
  refine j_bipush (v := ((-2) : Int32)) C dX3_keep_228 (by decide) ?_
  refine j_icmp_ne (tgt := 237) C dX3_keep_230 (by decide) (fun c45 => ?_) (fun c45 => ?_)
  · replace hF := zif_f hF c45
    refine j_iconst (v := (0 : Int32)) C dX3_keep_237 (by decide) ?_
    refine j_iadd C dX3_keep_238 ?_
    refine m_put0 C in_X3_keep_wsX30 6 (by decide) (by decide +kernel) dX3_keep_239 ?_
    obtain ⟨s46, es46, hF⟩ := zl_e hF
    rw [← es46]
    refine j_iinc (lv' := [(4, .int (i4 + (1 : Int32))), (0, .ref (ad 0)), (1, .int i1), (3, .int i3), (5, .int i5)]) C dX3_keep_242 3 rfl rfl (by decide) rfl ?_
    refine j_goto (tgt := 170) C dX3_keep_245 (by decide) ?_
    refine j_sub [1, 2, 3, 0] rfl ?_
    exact hB_170 i1 i3 (i4 + (1 : Int32)) s46 hF
  · replace hF := zif_t hF c45
    refine j_iconst (v := (1 : Int32)) C dX3_keep_233 (by decide) ?_
    refine j_goto (tgt := 238) C dX3_keep_234 (by decide) ?_
    refine j_iadd C dX3_keep_238 ?_
    refine m_put0 C in_X3_keep_wsX30 6 (by decide) (by decide +kernel) dX3_keep_239 ?_
    obtain ⟨s47, es47, hF⟩ := zl_e hF
    rw [← es47]
    refine j_iinc (lv' := [(4, .int (i4 + (1 : Int32))), (0, .ref (ad 0)), (1, .int i1), (3, .int i3), (5, .int i5)]) C dX3_keep_242 3 rfl rfl (by decide) rfl ?_
    refine j_goto (tgt := 170) C dX3_keep_245 (by decide) ?_
    refine j_sub [1, 2, 3, 0] rfl ?_
    exact hB_170 i1 i3 (i4 + (1 : Int32)) s47 hF
def fX3_keep_170 (n : Nat) (X_248 : Int32 → zS → zF Int32) : Nat → Int32 → Int32 → Int32 → zS → zF Int32
  | 0, _, _, _, _ => none
  | k + 1, i1, i3, i4, st => (zb (fX3_leaves n i1 st) (fun (v38 : Int32) (u37 : zS) => (if v38 ≤ i4 then X_248 i3 u37 else (if inb ((4096 : Int32) + i4) (ml 4) then (if (u37 4 (((4096 : Int32) + i4)).toNatClampNeg) = ((-2) : Int32) then fX3_keep_220 n (fun (i1 : Int32) (i3 : Int32) (i4 : Int32) (st : zS) => fX3_keep_170 n X_248 k i1 i3 i4 st) i1 i3 i4 (u37 4 (((4096 : Int32) + i4)).toNatClampNeg) (u37 0 6) (((256 : Int32) * i3) + i4) u37 else fX3_keep_220 n (fun (i1 : Int32) (i3 : Int32) (i4 : Int32) (st : zS) => fX3_keep_170 n X_248 k i1 i3 i4 st) i1 i3 i4 (u37 4 (((4096 : Int32) + i4)).toNatClampNeg) (u37 4 (((4096 : Int32) + i4)).toNatClampNeg) (((256 : Int32) * i3) + i4) u37) else none))))
set_option maxHeartbeats 4000000 in
set_option maxRecDepth 100000 in
theorem wX3_keep_170 (C : zC p s m args meth c cX3_keep RX3 wsX3_keep D zcl (mty cI cZ) 7 ad 6) (hne : ∀ x ∈ c.exceptionTable.toList, False) (hl : l.stackTraces = false) (hT : mT s.heap.size s) (hr : meth.sig.returnType = (some .int)) {F : zF Int32} (hn : F ≠ none) (n : Nat) {X_248 : Int32 → zS → zF Int32} (hX_248 : ∀ (i3 : Int32) (st : zS), X_248 i3 st = F → mJ (fun v : Int32 => some (.int v)) F 0 0 p l e rmX3_keep s m args below meth c D cI cZ ad 6 st 0 0 248 [(3, .int i3)] []) : ∀ (k : Nat) (i1 : Int32) (i3 : Int32) (i4 : Int32) (st : zS), fX3_keep_170 n X_248 k i1 i3 i4 st = F → mJ (fun v : Int32 => some (.int v)) F 0 0 p l e rmX3_keep s m args below meth c D cI cZ ad 6 st 0 0 170 [(0, .ref (ad 0)), (1, .int i1), (3, .int i3), (4, .int i4)] [] := by
  intro k
  induction k with
  | zero =>
    intro i1 i3 i4 st hF
    exact absurd hF.symm hn
  | succ k ih =>
    intro i1 i3 i4 st hF
    rw [fX3_keep_170] at hF
    refine j_iload C dX3_keep_170 3 rfl ?_
    refine j_iload_n C dX3_keep_172 rfl 1 rfl ?_
    refine j_callSi C hne mT_S hT (As := [.int i1]) (rest := [.int i4]) (kX3_leaves hl n i1 st (zb_n hF hn)) (va_cwS 1 C.1.2.2.2.2 gX3_keep_X3_leaves rfl rfl rfl (by decide +kernel) ⟨(Nat.le_of_ble_eq_true rfl), (Nat.le_of_ble_eq_true rfl)⟩) rfl rfl (Nat.le_of_ble_eq_true rfl) dX3_keep_173 ⟨(Nat.le_of_ble_eq_true rfl), (Nat.le_of_ble_eq_true rfl)⟩ (fun _ _ h9 => zb_x hF h9) (Nat.le_of_ble_eq_true rfl) (Nat.le_of_ble_eq_true rfl) (fun v38 u37 h39 => ?_)
    replace hF := zb_l hF h39
    refine j_icmp_ge (tgt := 248) C dX3_keep_176 (by decide) (fun c40 => ?_) (fun c40 => ?_)
    · replace hF := zif_t hF c40
      refine j_sub [2] rfl ?_
      exact hX_248 i3 u37 hF
    · replace hF := zif_f hF c40
      refine j_aload_n C dX3_keep_179 rfl 0 rfl ?_
      refine m_get0 C in_X3_keep_wsX30 4 (by decide) (by decide +kernel) rfl dX3_keep_180 ?_
      refine j_sipush (v := (4096 : Int32)) C dX3_keep_183 (by decide) ?_
      refine j_iload C dX3_keep_186 3 rfl ?_
      refine j_iadd C dX3_keep_188 ?_
      have b41 := zif_c hF hn
      replace hF := zif_t hF b41
      refine m_iald C (by decide) b41 dX3_keep_189 ?_
      refine j_istore (lv' := [(5, .int (u37 4 (((4096 : Int32) + i4)).toNatClampNeg)), (0, .ref (ad 0)), (1, .int i1), (3, .int i3), (4, .int i4)]) C dX3_keep_190 (by decide) rfl ?_
      refine j_aload_n C dX3_keep_192 rfl 1 rfl ?_
      refine m_get0 C in_X3_keep_wsX30 4 (by decide) (by decide +kernel) rfl dX3_keep_193 ?_
      refine j_sipush (v := (256 : Int32)) C dX3_keep_196 (by decide) ?_
      refine j_iload_n C dX3_keep_199 rfl 3 rfl ?_
      refine j_imul C dX3_keep_200 ?_
      refine j_iload C dX3_keep_201 4 rfl ?_
      refine j_iadd C dX3_keep_203 ?_
      refine j_iload C dX3_keep_204 0 rfl ?_
      refine j_bipush (v := ((-2) : Int32)) C dX3_keep_206 (by decide) ?_
      refine j_icmp_ne (tgt := 218) C dX3_keep_208 (by decide) (fun c42 => ?_) (fun c42 => ?_)
      · replace hF := zif_f hF c42
        refine j_iload C dX3_keep_218 0 rfl ?_
        refine j_sub [1, 2, 3, 4, 0] rfl ?_
        refine wX3_keep_220 C hne hl hT hr hn n ?_ i1 i3 i4 (u37 4 (((4096 : Int32) + i4)).toNatClampNeg) (u37 4 (((4096 : Int32) + i4)).toNatClampNeg) (((256 : Int32) * i3) + i4) u37 hF
        · intro i1 i3 i4 st hF
          exact ih i1 i3 i4 st hF
      · replace hF := zif_t hF c42
        refine j_aload_n C dX3_keep_211 rfl 1 rfl ?_
        refine m_get0 C in_X3_keep_wsX30 6 (by decide) (by decide +kernel) rfl dX3_keep_212 ?_
        refine j_goto (tgt := 220) C dX3_keep_215 (by decide) ?_
        refine j_sub [1, 2, 3, 4, 0] rfl ?_
        refine wX3_keep_220 C hne hl hT hr hn n ?_ i1 i3 i4 (u37 4 (((4096 : Int32) + i4)).toNatClampNeg) (u37 0 6) (((256 : Int32) * i3) + i4) u37 hF
        · intro i1 i3 i4 st hF
          exact ih i1 i3 i4 st hF
def fX3_keep_102 (n : Nat)  (i1 : Int32) (it0 : Int32) (it1 : Int32) (st : zS) : zF Int32 := (zb (fX3_refuses n it1 it0 st) (fun (v23 : Int32) (u22 : zS) => (if v23 = 0 then (zb (fX3_free n  u22) (fun (v27 : Int32) (u26 : zS) => (if inb v27 (ml 1) then (zl (upA u26 1 (upd (u26 1) (v27).toNatClampNeg (1 : Int32))) (fun (s30 : zS) => (if inb v27 (ml 2) then (zl (upA s30 2 (upd (s30 2) (v27).toNatClampNeg i1)) (fun (s32 : zS) => fX3_keep_132 n (fun (i1 : Int32) (i3 : Int32) (st : zS) => fX3_keep_170 n (fun (i3 : Int32) (st : zS) => some (.inl i3, st)) n i1 i3 (0 : Int32) st) n i1 v27 (0 : Int32) s32)) else none))) else none))) else some (.inl (0 : Int32), u22))))
set_option maxHeartbeats 4000000 in
set_option maxRecDepth 100000 in
theorem wX3_keep_102 (C : zC p s m args meth c cX3_keep RX3 wsX3_keep D zcl (mty cI cZ) 7 ad 6) (hne : ∀ x ∈ c.exceptionTable.toList, False) (hl : l.stackTraces = false) (hT : mT s.heap.size s) (hr : meth.sig.returnType = (some .int)) {F : zF Int32} (hn : F ≠ none) (n : Nat)   : ∀ (i1 : Int32) (it0 : Int32) (it1 : Int32) (st : zS), fX3_keep_102 n  i1 it0 it1 st = F → mJ (fun v : Int32 => some (.int v)) F 0 0 p l e rmX3_keep s m args below meth c D cI cZ ad 6 st 0 0 102 [(0, .ref (ad 0)), (1, .int i1)] [.int it0, .int it1, .ref (ad 0)] := by
  intro i1 it0 it1 st hF
  unfold fX3_keep_102 at hF
  refine j_callVi C hne mT_S hT (q0 := 0) (As := [.int it1, .int it0]) (rest := []) (kX3_refuses hl n it1 it0 st (zb_n hF hn)) (cwV 2 C.1.2.2.2.2 gX3_keep_X3_refuses rfl rfl rfl (by decide +kernel) ⟨(Nat.le_of_ble_eq_true rfl), (Nat.le_of_ble_eq_true rfl)⟩) (by decide) mce_0 rfl rfl rfl (Nat.le_of_ble_eq_true rfl) dX3_keep_102 ⟨(Nat.le_of_ble_eq_true rfl), (Nat.le_of_ble_eq_true rfl)⟩ (fun _ _ h9 => zb_x hF h9) (Nat.le_of_ble_eq_true rfl) (Nat.le_of_ble_eq_true rfl) (fun v23 u22 h24 => ?_)
  replace hF := zb_l hF h24
  refine j_if_eq (tgt := 110) C dX3_keep_105 (by decide) (fun c25 => ?_) (fun c25 => ?_)
  · replace hF := zif_t hF c25
    refine j_aload_n C dX3_keep_110 rfl 0 rfl ?_
    refine j_callVi C hne mT_S hT (q0 := 0) (As := []) (rest := []) (kX3_free hl n  u22 (zb_n hF hn)) (cwV 0 C.1.2.2.2.2 gX3_keep_X3_free rfl rfl rfl (by decide +kernel) ⟨(Nat.le_of_ble_eq_true rfl), (Nat.le_of_ble_eq_true rfl)⟩) (by decide) mce_0 rfl rfl rfl (Nat.le_of_ble_eq_true rfl) dX3_keep_111 ⟨(Nat.le_of_ble_eq_true rfl), (Nat.le_of_ble_eq_true rfl)⟩ (fun _ _ h9 => zb_x hF h9) (Nat.le_of_ble_eq_true rfl) (Nat.le_of_ble_eq_true rfl) (fun v27 u26 h28 => ?_)
    replace hF := zb_l hF h28
    refine j_istore_n (lv' := [(3, .int v27), (0, .ref (ad 0)), (1, .int i1)]) C dX3_keep_114 rfl (by decide) rfl ?_
    refine j_aload_n C dX3_keep_115 rfl 1 rfl ?_
    refine m_get0 C in_X3_keep_wsX30 1 (by decide) (by decide +kernel) rfl dX3_keep_116 ?_
    refine j_iload_n C dX3_keep_119 rfl 0 rfl ?_
    refine j_iconst (v := (1 : Int32)) C dX3_keep_120 (by decide) ?_
    have b29 := zif_c hF hn
    replace hF := zif_t hF b29
    refine m_zast C rfl b29 dX3_keep_121 ?_
    obtain ⟨s30, es30, hF⟩ := zl_e hF
    rw [← es30]
    refine j_aload_n C dX3_keep_122 rfl 1 rfl ?_
    refine m_get0 C in_X3_keep_wsX30 2 (by decide) (by decide +kernel) rfl dX3_keep_123 ?_
    refine j_iload_n C dX3_keep_126 rfl 0 rfl ?_
    refine j_iload_n C dX3_keep_127 rfl 2 rfl ?_
    have b31 := zif_c hF hn
    replace hF := zif_t hF b31
    refine m_iast C (by decide) b31 dX3_keep_128 ?_
    obtain ⟨s32, es32, hF⟩ := zl_e hF
    rw [← es32]
    refine j_iconst (v := (0 : Int32)) C dX3_keep_129 (by decide) ?_
    refine j_istore (lv' := [(4, .int (0 : Int32)), (3, .int v27), (0, .ref (ad 0)), (1, .int i1)]) C dX3_keep_130 (by decide) rfl ?_
    refine j_sub [2, 3, 1, 0] rfl ?_
    refine wX3_keep_132 C hne hl hT hr hn n ?_ n i1 v27 (0 : Int32) s32 hF
    · intro i1 i3 st hF
      refine j_iconst (v := (0 : Int32)) C dX3_keep_167 (by decide) ?_
      refine j_istore (lv' := [(4, .int (0 : Int32)), (0, .ref (ad 0)), (1, .int i1), (3, .int i3)]) C dX3_keep_168 (by decide) rfl ?_
      refine j_sub [1, 2, 3, 0] rfl ?_
      refine wX3_keep_170 C hne hl hT hr hn n ?_ n i1 i3 (0 : Int32) st hF
      · intro i3 st hF
        refine j_iload_n C dX3_keep_248 rfl 0 rfl ?_
        exact j_iret C hr hF (Nat.le_of_ble_eq_true rfl) (Nat.le_of_ble_eq_true rfl) dX3_keep_249
  · replace hF := zif_f hF c25
    refine j_iconst (v := (0 : Int32)) C dX3_keep_108 (by decide) ?_
    exact j_iret C hr hF (Nat.le_of_ble_eq_true rfl) (Nat.le_of_ble_eq_true rfl) dX3_keep_109
def fX3_keep (n : Nat) (i1 : Int32) (st : zS) : zF Int32 := fX3_keep_4 n (fun (i1 : Int32) (i2 : Int32) (st : zS) => (zb (fX3_countAll n  st) (fun (v19 : Int32) (u18 : zS) => (if i2 ≤ ((512 : Int32) - v19) then fX3_keep_102 n i1 (0 : Int32) (0 : Int32) u18 else fX3_keep_102 n i1 (1 : Int32) (0 : Int32) u18)))) n i1 (0 : Int32) (0 : Int32) st
set_option maxHeartbeats 4000000 in
set_option maxRecDepth 100000 in
theorem kX3_keep (hl : l.stackTraces = false) (n : Nat) (i1 : Int32) (st : zS) (hn : fX3_keep n i1 st ≠ none) : zM (fun v : Int32 => some (.int v)) l yX3_keep wsX3_keep rmX3_keep D zcl (mty cI cZ) 7 ad (mce cI cZ ad) mT 0 0 [.ref (ad 0), .int i1] st (fX3_keep n i1 st) := by
  refine z_ofJ (cc := cX3_keep) (maxL := 6) (ret := (some .int)) (lv := [(0, .ref (ad 0)), (1, .int i1)]) (by decide) rfl (Nat.le_of_ble_eq_true rfl) rfl ?_
  intro p e s m args below meth c C hne hT hr
  obtain ⟨F, hFe⟩ : ∃ F, F = fX3_keep n i1 st := ⟨_, rfl⟩
  rw [← hFe] at hn ⊢
  have hF : fX3_keep n i1 st = F := hFe.symm
  clear hFe
  unfold fX3_keep at hF
  have C : zC p s m args meth c cX3_keep RX3 wsX3_keep D zcl (mty cI cZ) 7 ad 6 := C
  refine j_iconst (v := (0 : Int32)) C dX3_keep_0 (by decide) ?_
  refine j_istore_n (lv' := [(2, .int (0 : Int32)), (0, .ref (ad 0)), (1, .int i1)]) C dX3_keep_1 rfl (by decide) rfl ?_
  refine j_iconst (v := (0 : Int32)) C dX3_keep_2 (by decide) ?_
  refine j_istore_n (lv' := [(3, .int (0 : Int32)), (2, .int (0 : Int32)), (0, .ref (ad 0)), (1, .int i1)]) C dX3_keep_3 rfl (by decide) rfl ?_
  refine j_sub [2, 3, 1, 0] rfl ?_
  refine wX3_keep_4 C hne hl hT hr hn n ?_ n i1 (0 : Int32) (0 : Int32) st hF
  · intro i1 i2 st hF
    refine j_aload_n C dX3_keep_83 rfl 0 rfl ?_
    refine j_iconst (v := (0 : Int32)) C dX3_keep_84 (by decide) ?_
    refine j_iload_n C dX3_keep_85 rfl 2 rfl ?_
    refine j_sipush (v := (512 : Int32)) C dX3_keep_86 (by decide) ?_
    refine j_aload_n C dX3_keep_89 rfl 0 rfl ?_
    refine j_callVi C hne mT_S hT (q0 := 0) (As := []) (rest := [.int (512 : Int32), .int i2, .int (0 : Int32), .ref (ad 0)]) (kX3_countAll hl n  st (zb_n hF hn)) (cwV 0 C.1.2.2.2.2 gX3_keep_X3_countAll rfl rfl rfl (by decide +kernel) ⟨(Nat.le_of_ble_eq_true rfl), (Nat.le_of_ble_eq_true rfl)⟩) (by decide) mce_0 rfl rfl rfl (Nat.le_of_ble_eq_true rfl) dX3_keep_90 ⟨(Nat.le_of_ble_eq_true rfl), (Nat.le_of_ble_eq_true rfl)⟩ (fun _ _ h9 => zb_x hF h9) (Nat.le_of_ble_eq_true rfl) (Nat.le_of_ble_eq_true rfl) (fun v19 u18 h20 => ?_)
    replace hF := zb_l hF h20
    refine j_isub C dX3_keep_93 ?_
    refine j_icmp_le (tgt := 101) C dX3_keep_94 (by decide) (fun c21 => ?_) (fun c21 => ?_)
    · replace hF := zif_t hF c21
      refine j_iconst (v := (0 : Int32)) C dX3_keep_101 (by decide) ?_
      refine j_sub [0, 1] rfl ?_
      refine wX3_keep_102 C hne hl hT hr hn n  i1 (0 : Int32) (0 : Int32) u18 hF
    · replace hF := zif_f hF c21
      refine j_iconst (v := (1 : Int32)) C dX3_keep_97 (by decide) ?_
      refine j_goto (tgt := 102) C dX3_keep_98 (by decide) ?_
      refine j_sub [0, 1] rfl ?_
      refine wX3_keep_102 C hne hl hT hr hn n  i1 (1 : Int32) (0 : Int32) u18 hF
end
/-! X3_make -/
def rmX3_make : Room := { frames := 13, cells := 0, slots := 0, locals := 240 }
theorem in_X3_make_wsX30 : ∀ w ∈ wsX30, w ∈ wsX3_make := by decide +kernel
section
variable {p : Program} {l : Launch} {e : Env} {s : State} {m : MethodId} {args : Array Value} {below : List Frame} {meth : Method} {c : Code} {D : va_G} {cI cZ : ClassId} {ad : Nat → Nat}
def fX3_make_41 (n : Nat) (X_62 : Int32 → zS → zF Int32) : Nat → Int32 → Int32 → Int32 → zS → zF Int32
  | 0, _, _, _, _ => none
  | k + 1, i1, i2, i3, st => (if i1 ≤ i3 then X_62 i1 st else (if inb (((65536) : Int32) + i3) (ml 3) then (zl (upA st 3 (upd (st 3) ((((65536) : Int32) + i3)).toNatClampNeg i2)) (fun (s12 : zS) => fX3_make_41 n X_62 k i1 i2 (i3 + (1 : Int32)) s12)) else none))
set_option maxHeartbeats 4000000 in
set_option maxRecDepth 100000 in
theorem wX3_make_41 (C : zC p s m args meth c cX3_make RX3 wsX3_make D zcl (mty cI cZ) 7 ad 4) (hne : ∀ x ∈ c.exceptionTable.toList, False) (hl : l.stackTraces = false) (hT : mT s.heap.size s) (hr : meth.sig.returnType = (some .int)) {F : zF Int32} (hn : F ≠ none) (n : Nat) {X_62 : Int32 → zS → zF Int32} (hX_62 : ∀ (i1 : Int32) (st : zS), X_62 i1 st = F → mJ (fun v : Int32 => some (.int v)) F 0 0 p l e rmX3_make s m args below meth c D cI cZ ad 4 st 0 0 62 [(0, .ref (ad 0)), (1, .int i1)] []) : ∀ (k : Nat) (i1 : Int32) (i2 : Int32) (i3 : Int32) (st : zS), fX3_make_41 n X_62 k i1 i2 i3 st = F → mJ (fun v : Int32 => some (.int v)) F 0 0 p l e rmX3_make s m args below meth c D cI cZ ad 4 st 0 0 41 [(0, .ref (ad 0)), (1, .int i1), (2, .int i2), (3, .int i3)] [] := by
  intro k
  induction k with
  | zero =>
    intro i1 i2 i3 st hF
    exact absurd hF.symm hn
  | succ k ih =>
    intro i1 i2 i3 st hF
    rw [fX3_make_41] at hF
    refine j_iload_n C dX3_make_41 rfl 3 rfl ?_
    refine j_iload_n C dX3_make_42 rfl 1 rfl ?_
    refine j_icmp_ge (tgt := 62) C dX3_make_43 (by decide) (fun c10 => ?_) (fun c10 => ?_)
    · replace hF := zif_t hF c10
      refine j_sub [0, 1] rfl ?_
      exact hX_62 i1 st hF
    · replace hF := zif_f hF c10
      refine j_aload_n C dX3_make_46 rfl 0 rfl ?_
      refine m_get0 C in_X3_make_wsX30 3 (by decide) (by decide +kernel) rfl dX3_make_47 ?_
      refine j_ldc (v := ((65536) : Int32)) C (by decide +kernel) dX3_make_50 ?_
      refine j_iload_n C dX3_make_52 rfl 3 rfl ?_
      refine j_iadd C dX3_make_53 ?_
      refine j_iload_n C dX3_make_54 rfl 2 rfl ?_
      have b11 := zif_c hF hn
      replace hF := zif_t hF b11
      refine m_iast C (by decide) b11 dX3_make_55 ?_
      obtain ⟨s12, es12, hF⟩ := zl_e hF
      rw [← es12]
      refine j_iinc (lv' := [(3, .int (i3 + (1 : Int32))), (0, .ref (ad 0)), (1, .int i1), (2, .int i2)]) C dX3_make_56 3 rfl rfl (by decide) rfl ?_
      refine j_goto (tgt := 41) C dX3_make_59 (by decide) ?_
      refine j_sub [1, 2, 3, 0] rfl ?_
      exact ih i1 i2 (i3 + (1 : Int32)) s12 hF
def fX3_make_64 (n : Nat) (X_89 : Int32 → zS → zF Int32) : Nat → Int32 → Int32 → zS → zF Int32
  | 0, _, _, _ => none
  | k + 1, i1, i3, st => (zb (fX3_leaves n i1 st) (fun (v14 : Int32) (u13 : zS) => (if v14 ≤ i3 then X_89 i1 u13 else (if inb ((4096 : Int32) + i3) (ml 4) then (zl (upA u13 4 (upd (u13 4) (((4096 : Int32) + i3)).toNatClampNeg ((-1) : Int32))) (fun (s18 : zS) => fX3_make_64 n X_89 k i1 (i3 + (1 : Int32)) s18)) else none))))
set_option maxHeartbeats 4000000 in
set_option maxRecDepth 100000 in
theorem wX3_make_64 (C : zC p s m args meth c cX3_make RX3 wsX3_make D zcl (mty cI cZ) 7 ad 4) (hne : ∀ x ∈ c.exceptionTable.toList, False) (hl : l.stackTraces = false) (hT : mT s.heap.size s) (hr : meth.sig.returnType = (some .int)) {F : zF Int32} (hn : F ≠ none) (n : Nat) {X_89 : Int32 → zS → zF Int32} (hX_89 : ∀ (i1 : Int32) (st : zS), X_89 i1 st = F → mJ (fun v : Int32 => some (.int v)) F 0 0 p l e rmX3_make s m args below meth c D cI cZ ad 4 st 0 0 89 [(0, .ref (ad 0)), (1, .int i1)] []) : ∀ (k : Nat) (i1 : Int32) (i3 : Int32) (st : zS), fX3_make_64 n X_89 k i1 i3 st = F → mJ (fun v : Int32 => some (.int v)) F 0 0 p l e rmX3_make s m args below meth c D cI cZ ad 4 st 0 0 64 [(0, .ref (ad 0)), (1, .int i1), (3, .int i3)] [] := by
  intro k
  induction k with
  | zero =>
    intro i1 i3 st hF
    exact absurd hF.symm hn
  | succ k ih =>
    intro i1 i3 st hF
    rw [fX3_make_64] at hF
    refine j_iload_n C dX3_make_64 rfl 2 rfl ?_
    refine j_iload_n C dX3_make_65 rfl 1 rfl ?_
    refine j_callSi C hne mT_S hT (As := [.int i1]) (rest := [.int i3]) (kX3_leaves hl n i1 st (zb_n hF hn)) (va_cwS 1 C.1.2.2.2.2 gX3_make_X3_leaves rfl rfl rfl (by decide +kernel) ⟨(Nat.le_of_ble_eq_true rfl), (Nat.le_of_ble_eq_true rfl)⟩) rfl rfl (Nat.le_of_ble_eq_true rfl) dX3_make_66 ⟨(Nat.le_of_ble_eq_true rfl), (Nat.le_of_ble_eq_true rfl)⟩ (fun _ _ h9 => zb_x hF h9) (Nat.le_of_ble_eq_true rfl) (Nat.le_of_ble_eq_true rfl) (fun v14 u13 h15 => ?_)
    replace hF := zb_l hF h15
    refine j_icmp_ge (tgt := 89) C dX3_make_69 (by decide) (fun c16 => ?_) (fun c16 => ?_)
    · replace hF := zif_t hF c16
      refine j_sub [0, 1] rfl ?_
      exact hX_89 i1 u13 hF
    · replace hF := zif_f hF c16
      refine j_aload_n C dX3_make_72 rfl 0 rfl ?_
      refine m_get0 C in_X3_make_wsX30 4 (by decide) (by decide +kernel) rfl dX3_make_73 ?_
      refine j_sipush (v := (4096 : Int32)) C dX3_make_76 (by decide) ?_
      refine j_iload_n C dX3_make_79 rfl 2 rfl ?_
      refine j_iadd C dX3_make_80 ?_
      refine j_iconst (v := ((-1) : Int32)) C dX3_make_81 (by decide) ?_
      have b17 := zif_c hF hn
      replace hF := zif_t hF b17
      refine m_iast C (by decide) b17 dX3_make_82 ?_
      obtain ⟨s18, es18, hF⟩ := zl_e hF
      rw [← es18]
      refine j_iinc (lv' := [(3, .int (i3 + (1 : Int32))), (0, .ref (ad 0)), (1, .int i1)]) C dX3_make_83 2 rfl rfl (by decide) rfl ?_
      refine j_goto (tgt := 64) C dX3_make_86 (by decide) ?_
      refine j_sub [1, 2, 0] rfl ?_
      exact ih i1 (i3 + (1 : Int32)) s18 hF
def fX3_make_17 (n : Nat)  (i1 : Int32) (i2 : Int32) (it0 : Int32) (st : zS) : zF Int32 := (zb (fX3_free n  st) (fun (v3 : Int32) (u2 : zS) => (if v3 = (16 : Int32) then (zb (fX3_refuses n it0 (1 : Int32) u2) (fun (v23 : Int32) (u22 : zS) => (if v23 = 0 then fX3_make_41 n (fun (i1 : Int32) (st : zS) => fX3_make_64 n (fun (i1 : Int32) (st : zS) => (zb (fX3_keep n i1 st) (fun (v27 : Int32) (u26 : zS) => some (.inl v27, u26)))) n i1 (0 : Int32) st) n i1 i2 (0 : Int32) u22 else some (.inl (0 : Int32), u22)))) else (zb (fX3_refuses n it0 (0 : Int32) u2) (fun (v7 : Int32) (u6 : zS) => (if v7 = 0 then fX3_make_41 n (fun (i1 : Int32) (st : zS) => fX3_make_64 n (fun (i1 : Int32) (st : zS) => (zb (fX3_keep n i1 st) (fun (v20 : Int32) (u19 : zS) => some (.inl v20, u19)))) n i1 (0 : Int32) st) n i1 i2 (0 : Int32) u6 else some (.inl (0 : Int32), u6)))))))
set_option maxHeartbeats 4000000 in
set_option maxRecDepth 100000 in
theorem wX3_make_17 (C : zC p s m args meth c cX3_make RX3 wsX3_make D zcl (mty cI cZ) 7 ad 4) (hne : ∀ x ∈ c.exceptionTable.toList, False) (hl : l.stackTraces = false) (hT : mT s.heap.size s) (hr : meth.sig.returnType = (some .int)) {F : zF Int32} (hn : F ≠ none) (n : Nat)   : ∀ (i1 : Int32) (i2 : Int32) (it0 : Int32) (st : zS), fX3_make_17 n  i1 i2 it0 st = F → mJ (fun v : Int32 => some (.int v)) F 0 0 p l e rmX3_make s m args below meth c D cI cZ ad 4 st 0 0 17 [(0, .ref (ad 0)), (1, .int i1), (2, .int i2)] [.int it0, .ref (ad 0)] := by
  intro i1 i2 it0 st hF
  unfold fX3_make_17 at hF
  refine j_aload_n C dX3_make_17 rfl 0 rfl ?_
  refine j_callVi C hne mT_S hT (q0 := 0) (As := []) (rest := [.int it0, .ref (ad 0)]) (kX3_free hl n  st (zb_n hF hn)) (cwV 0 C.1.2.2.2.2 gX3_make_X3_free rfl rfl rfl (by decide +kernel) ⟨(Nat.le_of_ble_eq_true rfl), (Nat.le_of_ble_eq_true rfl)⟩) (by decide) mce_0 rfl rfl rfl (Nat.le_of_ble_eq_true rfl) dX3_make_18 ⟨(Nat.le_of_ble_eq_true rfl), (Nat.le_of_ble_eq_true rfl)⟩ (fun _ _ h9 => zb_x hF h9) (Nat.le_of_ble_eq_true rfl) (Nat.le_of_ble_eq_true rfl) (fun v3 u2 h4 => ?_)
  replace hF := zb_l hF h4
  refine j_bipush (v := (16 : Int32)) C dX3_make_21 (by decide) ?_
  refine j_icmp_ne (tgt := 30) C dX3_make_23 (by decide) (fun c5 => ?_) (fun c5 => ?_)
  · replace hF := zif_f hF c5
    refine j_iconst (v := (0 : Int32)) C dX3_make_30 (by decide) ?_
    refine j_callVi C hne mT_S hT (q0 := 0) (As := [.int it0, .int (0 : Int32)]) (rest := []) (kX3_refuses hl n it0 (0 : Int32) u2 (zb_n hF hn)) (cwV 2 C.1.2.2.2.2 gX3_make_X3_refuses rfl rfl rfl (by decide +kernel) ⟨(Nat.le_of_ble_eq_true rfl), (Nat.le_of_ble_eq_true rfl)⟩) (by decide) mce_0 rfl rfl rfl (Nat.le_of_ble_eq_true rfl) dX3_make_31 ⟨(Nat.le_of_ble_eq_true rfl), (Nat.le_of_ble_eq_true rfl)⟩ (fun _ _ h9 => zb_x hF h9) (Nat.le_of_ble_eq_true rfl) (Nat.le_of_ble_eq_true rfl) (fun v7 u6 h8 => ?_)
    replace hF := zb_l hF h8
    refine j_if_eq (tgt := 39) C dX3_make_34 (by decide) (fun c9 => ?_) (fun c9 => ?_)
    · replace hF := zif_t hF c9
      refine j_iconst (v := (0 : Int32)) C dX3_make_39 (by decide) ?_
      refine j_istore_n (lv' := [(3, .int (0 : Int32)), (0, .ref (ad 0)), (1, .int i1), (2, .int i2)]) C dX3_make_40 rfl (by decide) rfl ?_
      refine j_sub [1, 2, 3, 0] rfl ?_
      refine wX3_make_41 C hne hl hT hr hn n ?_ n i1 i2 (0 : Int32) u6 hF
      · intro i1 st hF
        refine j_iconst (v := (0 : Int32)) C dX3_make_62 (by decide) ?_
        refine j_istore_n (lv' := [(3, .int (0 : Int32)), (0, .ref (ad 0)), (1, .int i1)]) C dX3_make_63 rfl (by decide) rfl ?_
        refine j_sub [1, 2, 0] rfl ?_
        refine wX3_make_64 C hne hl hT hr hn n ?_ n i1 (0 : Int32) st hF
        · intro i1 st hF
          refine j_aload_n C dX3_make_89 rfl 0 rfl ?_
          refine j_iload_n C dX3_make_90 rfl 1 rfl ?_
          refine j_callVi C hne mT_S hT (q0 := 0) (As := [.int i1]) (rest := []) (kX3_keep hl n i1 st (zb_n hF hn)) (cwV 1 C.1.2.2.2.2 gX3_make_X3_keep rfl rfl rfl (by decide +kernel) ⟨(Nat.le_of_ble_eq_true rfl), (Nat.le_of_ble_eq_true rfl)⟩) (by decide) mce_0 rfl rfl rfl (Nat.le_of_ble_eq_true rfl) dX3_make_91 ⟨(Nat.le_of_ble_eq_true rfl), (Nat.le_of_ble_eq_true rfl)⟩ (fun _ _ h9 => zb_x hF h9) (Nat.le_of_ble_eq_true rfl) (Nat.le_of_ble_eq_true rfl) (fun v20 u19 h21 => ?_)
          replace hF := zb_l hF h21
          exact j_iret C hr hF (Nat.le_of_ble_eq_true rfl) (Nat.le_of_ble_eq_true rfl) dX3_make_94
    · replace hF := zif_f hF c9
      refine j_iconst (v := (0 : Int32)) C dX3_make_37 (by decide) ?_
      exact j_iret C hr hF (Nat.le_of_ble_eq_true rfl) (Nat.le_of_ble_eq_true rfl) dX3_make_38
  · replace hF := zif_t hF c5
    refine j_iconst (v := (1 : Int32)) C dX3_make_26 (by decide) ?_
    refine j_goto (tgt := 31) C dX3_make_27 (by decide) ?_
    refine j_callVi C hne mT_S hT (q0 := 0) (As := [.int it0, .int (1 : Int32)]) (rest := []) (kX3_refuses hl n it0 (1 : Int32) u2 (zb_n hF hn)) (cwV 2 C.1.2.2.2.2 gX3_make_X3_refuses rfl rfl rfl (by decide +kernel) ⟨(Nat.le_of_ble_eq_true rfl), (Nat.le_of_ble_eq_true rfl)⟩) (by decide) mce_0 rfl rfl rfl (Nat.le_of_ble_eq_true rfl) dX3_make_31 ⟨(Nat.le_of_ble_eq_true rfl), (Nat.le_of_ble_eq_true rfl)⟩ (fun _ _ h9 => zb_x hF h9) (Nat.le_of_ble_eq_true rfl) (Nat.le_of_ble_eq_true rfl) (fun v23 u22 h24 => ?_)
    replace hF := zb_l hF h24
    refine j_if_eq (tgt := 39) C dX3_make_34 (by decide) (fun c25 => ?_) (fun c25 => ?_)
    · replace hF := zif_t hF c25
      refine j_iconst (v := (0 : Int32)) C dX3_make_39 (by decide) ?_
      refine j_istore_n (lv' := [(3, .int (0 : Int32)), (0, .ref (ad 0)), (1, .int i1), (2, .int i2)]) C dX3_make_40 rfl (by decide) rfl ?_
      refine j_sub [1, 2, 3, 0] rfl ?_
      refine wX3_make_41 C hne hl hT hr hn n ?_ n i1 i2 (0 : Int32) u22 hF
      · intro i1 st hF
        refine j_iconst (v := (0 : Int32)) C dX3_make_62 (by decide) ?_
        refine j_istore_n (lv' := [(3, .int (0 : Int32)), (0, .ref (ad 0)), (1, .int i1)]) C dX3_make_63 rfl (by decide) rfl ?_
        refine j_sub [1, 2, 0] rfl ?_
        refine wX3_make_64 C hne hl hT hr hn n ?_ n i1 (0 : Int32) st hF
        · intro i1 st hF
          refine j_aload_n C dX3_make_89 rfl 0 rfl ?_
          refine j_iload_n C dX3_make_90 rfl 1 rfl ?_
          refine j_callVi C hne mT_S hT (q0 := 0) (As := [.int i1]) (rest := []) (kX3_keep hl n i1 st (zb_n hF hn)) (cwV 1 C.1.2.2.2.2 gX3_make_X3_keep rfl rfl rfl (by decide +kernel) ⟨(Nat.le_of_ble_eq_true rfl), (Nat.le_of_ble_eq_true rfl)⟩) (by decide) mce_0 rfl rfl rfl (Nat.le_of_ble_eq_true rfl) dX3_make_91 ⟨(Nat.le_of_ble_eq_true rfl), (Nat.le_of_ble_eq_true rfl)⟩ (fun _ _ h9 => zb_x hF h9) (Nat.le_of_ble_eq_true rfl) (Nat.le_of_ble_eq_true rfl) (fun v27 u26 h28 => ?_)
          replace hF := zb_l hF h28
          exact j_iret C hr hF (Nat.le_of_ble_eq_true rfl) (Nat.le_of_ble_eq_true rfl) dX3_make_94
    · replace hF := zif_f hF c25
      refine j_iconst (v := (0 : Int32)) C dX3_make_37 (by decide) ?_
      exact j_iret C hr hF (Nat.le_of_ble_eq_true rfl) (Nat.le_of_ble_eq_true rfl) dX3_make_38
def fX3_make_12 (n : Nat)  (i1 : Int32) (i2 : Int32) (st : zS) : zF Int32 := fX3_make_17 n i1 i2 (1 : Int32) st
set_option maxHeartbeats 4000000 in
set_option maxRecDepth 100000 in
theorem wX3_make_12 (C : zC p s m args meth c cX3_make RX3 wsX3_make D zcl (mty cI cZ) 7 ad 4) (hne : ∀ x ∈ c.exceptionTable.toList, False) (hl : l.stackTraces = false) (hT : mT s.heap.size s) (hr : meth.sig.returnType = (some .int)) {F : zF Int32} (hn : F ≠ none) (n : Nat)   : ∀ (i1 : Int32) (i2 : Int32) (st : zS), fX3_make_12 n  i1 i2 st = F → mJ (fun v : Int32 => some (.int v)) F 0 0 p l e rmX3_make s m args below meth c D cI cZ ad 4 st 0 0 12 [(0, .ref (ad 0)), (1, .int i1), (2, .int i2)] [.ref (ad 0)] := by
  intro i1 i2 st hF
  unfold fX3_make_12 at hF
  refine j_iconst (v := (1 : Int32)) C dX3_make_12 (by decide) ?_
  refine j_goto (tgt := 17) C dX3_make_13 (by decide) ?_
  refine wX3_make_17 C hne hl hT hr hn n  i1 i2 (1 : Int32) st hF
def fX3_make (n : Nat) (i1 : Int32) (i2 : Int32) (st : zS) : zF Int32 := (if i1 < 0 then fX3_make_12 n i1 i2 st else (if i1 ≤ (4096 : Int32) then fX3_make_17 n i1 i2 (0 : Int32) st else fX3_make_12 n i1 i2 st))
set_option maxHeartbeats 4000000 in
set_option maxRecDepth 100000 in
theorem kX3_make (hl : l.stackTraces = false) (n : Nat) (i1 : Int32) (i2 : Int32) (st : zS) (hn : fX3_make n i1 i2 st ≠ none) : zM (fun v : Int32 => some (.int v)) l yX3_make wsX3_make rmX3_make D zcl (mty cI cZ) 7 ad (mce cI cZ ad) mT 0 0 [.ref (ad 0), .int i1, .int i2] st (fX3_make n i1 i2 st) := by
  refine z_ofJ (cc := cX3_make) (maxL := 4) (ret := (some .int)) (lv := [(0, .ref (ad 0)), (1, .int i1), (2, .int i2)]) (by decide) rfl (Nat.le_of_ble_eq_true rfl) rfl ?_
  intro p e s m args below meth c C hne hT hr
  obtain ⟨F, hFe⟩ : ∃ F, F = fX3_make n i1 i2 st := ⟨_, rfl⟩
  rw [← hFe] at hn ⊢
  have hF : fX3_make n i1 i2 st = F := hFe.symm
  clear hFe
  unfold fX3_make at hF
  have C : zC p s m args meth c cX3_make RX3 wsX3_make D zcl (mty cI cZ) 7 ad 4 := C
  refine j_aload_n C dX3_make_0 rfl 0 rfl ?_
  refine j_iload_n C dX3_make_1 rfl 1 rfl ?_
  refine j_if_lt (tgt := 12) C dX3_make_2 (by decide) (fun c1 => ?_) (fun c1 => ?_)
  · replace hF := zif_t hF c1
    refine wX3_make_12 C hne hl hT hr hn n  i1 i2 st hF
  · replace hF := zif_f hF c1
    refine j_iload_n C dX3_make_5 rfl 1 rfl ?_
    refine j_sipush (v := (4096 : Int32)) C dX3_make_6 (by decide) ?_
    refine j_icmp_le (tgt := 16) C dX3_make_9 (by decide) (fun c29 => ?_) (fun c29 => ?_)
    · replace hF := zif_t hF c29
      refine j_iconst (v := (0 : Int32)) C dX3_make_16 (by decide) ?_
      refine wX3_make_17 C hne hl hT hr hn n  i1 i2 (0 : Int32) st hF
    · replace hF := zif_f hF c29
      refine wX3_make_12 C hne hl hT hr hn n  i1 i2 st hF
end
/-! X3_copy -/
def rmX3_copy : Room := { frames := 13, cells := 0, slots := 0, locals := 240 }
theorem in_X3_copy_wsX30 : ∀ w ∈ wsX30, w ∈ wsX3_copy := by decide +kernel
section
variable {p : Program} {l : Launch} {e : Env} {s : State} {m : MethodId} {args : Array Value} {below : List Frame} {meth : Method} {c : Code} {D : va_G} {cI cZ : ClassId} {ad : Nat → Nat}
def fX3_copy_38 (n : Nat) (X_75 : Int32 → zS → zF Int32) : Nat → Int32 → Int32 → zS → zF Int32
  | 0, _, _, _ => none
  | k + 1, i1, i2, st => (if inb i1 (ml 2) then (if (st 2 (i1).toNatClampNeg) ≤ i2 then X_75 i1 st else (if inb (((4096 : Int32) * i1) + i2) (ml 3) then (if inb (((65536) : Int32) + i2) (ml 3) then (zl (upA st 3 (upd (st 3) ((((65536) : Int32) + i2)).toNatClampNeg (st 3 ((((4096 : Int32) * i1) + i2)).toNatClampNeg))) (fun (s17 : zS) => fX3_copy_38 n X_75 k i1 (i2 + (1 : Int32)) s17)) else none) else none)) else none)
set_option maxHeartbeats 4000000 in
set_option maxRecDepth 100000 in
theorem wX3_copy_38 (C : zC p s m args meth c cX3_copy RX3 wsX3_copy D zcl (mty cI cZ) 7 ad 3) (hne : ∀ x ∈ c.exceptionTable.toList, False) (hl : l.stackTraces = false) (hT : mT s.heap.size s) (hr : meth.sig.returnType = (some .int)) {F : zF Int32} (hn : F ≠ none) (n : Nat) {X_75 : Int32 → zS → zF Int32} (hX_75 : ∀ (i1 : Int32) (st : zS), X_75 i1 st = F → mJ (fun v : Int32 => some (.int v)) F 0 0 p l e rmX3_copy s m args below meth c D cI cZ ad 3 st 0 0 75 [(0, .ref (ad 0)), (1, .int i1)] []) : ∀ (k : Nat) (i1 : Int32) (i2 : Int32) (st : zS), fX3_copy_38 n X_75 k i1 i2 st = F → mJ (fun v : Int32 => some (.int v)) F 0 0 p l e rmX3_copy s m args below meth c D cI cZ ad 3 st 0 0 38 [(0, .ref (ad 0)), (1, .int i1), (2, .int i2)] [] := by
  intro k
  induction k with
  | zero =>
    intro i1 i2 st hF
    exact absurd hF.symm hn
  | succ k ih =>
    intro i1 i2 st hF
    rw [fX3_copy_38] at hF
    refine j_iload_n C dX3_copy_38 rfl 2 rfl ?_
    refine j_aload_n C dX3_copy_39 rfl 0 rfl ?_
    refine m_get0 C in_X3_copy_wsX30 2 (by decide) (by decide +kernel) rfl dX3_copy_40 ?_
    refine j_iload_n C dX3_copy_43 rfl 1 rfl ?_
    have b13 := zif_c hF hn
    replace hF := zif_t hF b13
    refine m_iald C (by decide) b13 dX3_copy_44 ?_
    refine j_icmp_ge (tgt := 75) C dX3_copy_45 (by decide) (fun c14 => ?_) (fun c14 => ?_)
    · replace hF := zif_t hF c14
      refine j_sub [0, 1] rfl ?_
      exact hX_75 i1 st hF
    · replace hF := zif_f hF c14
      refine j_aload_n C dX3_copy_48 rfl 0 rfl ?_
      refine m_get0 C in_X3_copy_wsX30 3 (by decide) (by decide +kernel) rfl dX3_copy_49 ?_
      refine j_ldc (v := ((65536) : Int32)) C (by decide +kernel) dX3_copy_52 ?_
      refine j_iload_n C dX3_copy_54 rfl 2 rfl ?_
      refine j_iadd C dX3_copy_55 ?_
      refine j_aload_n C dX3_copy_56 rfl 0 rfl ?_
      refine m_get0 C in_X3_copy_wsX30 3 (by decide) (by decide +kernel) rfl dX3_copy_57 ?_
      refine j_sipush (v := (4096 : Int32)) C dX3_copy_60 (by decide) ?_
      refine j_iload_n C dX3_copy_63 rfl 1 rfl ?_
      refine j_imul C dX3_copy_64 ?_
      refine j_iload_n C dX3_copy_65 rfl 2 rfl ?_
      refine j_iadd C dX3_copy_66 ?_
      have b15 := zif_c hF hn
      replace hF := zif_t hF b15
      refine m_iald C (by decide) b15 dX3_copy_67 ?_
      have b16 := zif_c hF hn
      replace hF := zif_t hF b16
      refine m_iast C (by decide) b16 dX3_copy_68 ?_
      obtain ⟨s17, es17, hF⟩ := zl_e hF
      rw [← es17]
      refine j_iinc (lv' := [(2, .int (i2 + (1 : Int32))), (0, .ref (ad 0)), (1, .int i1)]) C dX3_copy_69 2 rfl rfl (by decide) rfl ?_
      refine j_goto (tgt := 38) C dX3_copy_72 (by decide) ?_
      refine j_sub [1, 2, 0] rfl ?_
      exact ih i1 (i2 + (1 : Int32)) s17 hF
def fX3_copy_77 (n : Nat) (X_118 : Int32 → zS → zF Int32) : Nat → Int32 → Int32 → zS → zF Int32
  | 0, _, _, _ => none
  | k + 1, i1, i2, st => (if inb i1 (ml 2) then (zb (fX3_leaves n (st 2 (i1).toNatClampNeg) st) (fun (v20 : Int32) (u19 : zS) => (if v20 ≤ i2 then X_118 i1 u19 else (if inb (((256 : Int32) * i1) + i2) (ml 4) then (if inb ((4096 : Int32) + i2) (ml 4) then (zl (upA u19 4 (upd (u19 4) (((4096 : Int32) + i2)).toNatClampNeg (u19 4 ((((256 : Int32) * i1) + i2)).toNatClampNeg))) (fun (s25 : zS) => fX3_copy_77 n X_118 k i1 (i2 + (1 : Int32)) s25)) else none) else none)))) else none)
set_option maxHeartbeats 4000000 in
set_option maxRecDepth 100000 in
theorem wX3_copy_77 (C : zC p s m args meth c cX3_copy RX3 wsX3_copy D zcl (mty cI cZ) 7 ad 3) (hne : ∀ x ∈ c.exceptionTable.toList, False) (hl : l.stackTraces = false) (hT : mT s.heap.size s) (hr : meth.sig.returnType = (some .int)) {F : zF Int32} (hn : F ≠ none) (n : Nat) {X_118 : Int32 → zS → zF Int32} (hX_118 : ∀ (i1 : Int32) (st : zS), X_118 i1 st = F → mJ (fun v : Int32 => some (.int v)) F 0 0 p l e rmX3_copy s m args below meth c D cI cZ ad 3 st 0 0 118 [(0, .ref (ad 0)), (1, .int i1)] []) : ∀ (k : Nat) (i1 : Int32) (i2 : Int32) (st : zS), fX3_copy_77 n X_118 k i1 i2 st = F → mJ (fun v : Int32 => some (.int v)) F 0 0 p l e rmX3_copy s m args below meth c D cI cZ ad 3 st 0 0 77 [(0, .ref (ad 0)), (1, .int i1), (2, .int i2)] [] := by
  intro k
  induction k with
  | zero =>
    intro i1 i2 st hF
    exact absurd hF.symm hn
  | succ k ih =>
    intro i1 i2 st hF
    rw [fX3_copy_77] at hF
    refine j_iload_n C dX3_copy_77 rfl 2 rfl ?_
    refine j_aload_n C dX3_copy_78 rfl 0 rfl ?_
    refine m_get0 C in_X3_copy_wsX30 2 (by decide) (by decide +kernel) rfl dX3_copy_79 ?_
    refine j_iload_n C dX3_copy_82 rfl 1 rfl ?_
    have b18 := zif_c hF hn
    replace hF := zif_t hF b18
    refine m_iald C (by decide) b18 dX3_copy_83 ?_
    refine j_callSi C hne mT_S hT (As := [.int (st 2 (i1).toNatClampNeg)]) (rest := [.int i2]) (kX3_leaves hl n (st 2 (i1).toNatClampNeg) st (zb_n hF hn)) (va_cwS 1 C.1.2.2.2.2 gX3_copy_X3_leaves rfl rfl rfl (by decide +kernel) ⟨(Nat.le_of_ble_eq_true rfl), (Nat.le_of_ble_eq_true rfl)⟩) rfl rfl (Nat.le_of_ble_eq_true rfl) dX3_copy_84 ⟨(Nat.le_of_ble_eq_true rfl), (Nat.le_of_ble_eq_true rfl)⟩ (fun _ _ h9 => zb_x hF h9) (Nat.le_of_ble_eq_true rfl) (Nat.le_of_ble_eq_true rfl) (fun v20 u19 h21 => ?_)
    replace hF := zb_l hF h21
    refine j_icmp_ge (tgt := 118) C dX3_copy_87 (by decide) (fun c22 => ?_) (fun c22 => ?_)
    · replace hF := zif_t hF c22
      refine j_sub [0, 1] rfl ?_
      exact hX_118 i1 u19 hF
    · replace hF := zif_f hF c22
      refine j_aload_n C dX3_copy_90 rfl 0 rfl ?_
      refine m_get0 C in_X3_copy_wsX30 4 (by decide) (by decide +kernel) rfl dX3_copy_91 ?_
      refine j_sipush (v := (4096 : Int32)) C dX3_copy_94 (by decide) ?_
      refine j_iload_n C dX3_copy_97 rfl 2 rfl ?_
      refine j_iadd C dX3_copy_98 ?_
      refine j_aload_n C dX3_copy_99 rfl 0 rfl ?_
      refine m_get0 C in_X3_copy_wsX30 4 (by decide) (by decide +kernel) rfl dX3_copy_100 ?_
      refine j_sipush (v := (256 : Int32)) C dX3_copy_103 (by decide) ?_
      refine j_iload_n C dX3_copy_106 rfl 1 rfl ?_
      refine j_imul C dX3_copy_107 ?_
      refine j_iload_n C dX3_copy_108 rfl 2 rfl ?_
      refine j_iadd C dX3_copy_109 ?_
      have b23 := zif_c hF hn
      replace hF := zif_t hF b23
      refine m_iald C (by decide) b23 dX3_copy_110 ?_
      have b24 := zif_c hF hn
      replace hF := zif_t hF b24
      refine m_iast C (by decide) b24 dX3_copy_111 ?_
      obtain ⟨s25, es25, hF⟩ := zl_e hF
      rw [← es25]
      refine j_iinc (lv' := [(2, .int (i2 + (1 : Int32))), (0, .ref (ad 0)), (1, .int i1)]) C dX3_copy_112 2 rfl rfl (by decide) rfl ?_
      refine j_goto (tgt := 77) C dX3_copy_115 (by decide) ?_
      refine j_sub [1, 2, 0] rfl ?_
      exact ih i1 (i2 + (1 : Int32)) s25 hF
def fX3_copy_14 (n : Nat)  (i1 : Int32) (it0 : Int32) (st : zS) : zF Int32 := (zb (fX3_free n  st) (fun (v6 : Int32) (u5 : zS) => (if v6 = (16 : Int32) then (zb (fX3_refuses n it0 (1 : Int32) u5) (fun (v31 : Int32) (u30 : zS) => (if v31 = 0 then fX3_copy_38 n (fun (i1 : Int32) (st : zS) => fX3_copy_77 n (fun (i1 : Int32) (st : zS) => (if inb i1 (ml 2) then (zb (fX3_keep n (st 2 (i1).toNatClampNeg) st) (fun (v36 : Int32) (u35 : zS) => some (.inl v36, u35))) else none)) n i1 (0 : Int32) st) n i1 (0 : Int32) u30 else some (.inl (0 : Int32), u30)))) else (zb (fX3_refuses n it0 (0 : Int32) u5) (fun (v10 : Int32) (u9 : zS) => (if v10 = 0 then fX3_copy_38 n (fun (i1 : Int32) (st : zS) => fX3_copy_77 n (fun (i1 : Int32) (st : zS) => (if inb i1 (ml 2) then (zb (fX3_keep n (st 2 (i1).toNatClampNeg) st) (fun (v28 : Int32) (u27 : zS) => some (.inl v28, u27))) else none)) n i1 (0 : Int32) st) n i1 (0 : Int32) u9 else some (.inl (0 : Int32), u9)))))))
set_option maxHeartbeats 4000000 in
set_option maxRecDepth 100000 in
theorem wX3_copy_14 (C : zC p s m args meth c cX3_copy RX3 wsX3_copy D zcl (mty cI cZ) 7 ad 3) (hne : ∀ x ∈ c.exceptionTable.toList, False) (hl : l.stackTraces = false) (hT : mT s.heap.size s) (hr : meth.sig.returnType = (some .int)) {F : zF Int32} (hn : F ≠ none) (n : Nat)   : ∀ (i1 : Int32) (it0 : Int32) (st : zS), fX3_copy_14 n  i1 it0 st = F → mJ (fun v : Int32 => some (.int v)) F 0 0 p l e rmX3_copy s m args below meth c D cI cZ ad 3 st 0 0 14 [(0, .ref (ad 0)), (1, .int i1)] [.int it0, .ref (ad 0)] := by
  intro i1 it0 st hF
  unfold fX3_copy_14 at hF
  refine j_aload_n C dX3_copy_14 rfl 0 rfl ?_
  refine j_callVi C hne mT_S hT (q0 := 0) (As := []) (rest := [.int it0, .ref (ad 0)]) (kX3_free hl n  st (zb_n hF hn)) (cwV 0 C.1.2.2.2.2 gX3_copy_X3_free rfl rfl rfl (by decide +kernel) ⟨(Nat.le_of_ble_eq_true rfl), (Nat.le_of_ble_eq_true rfl)⟩) (by decide) mce_0 rfl rfl rfl (Nat.le_of_ble_eq_true rfl) dX3_copy_15 ⟨(Nat.le_of_ble_eq_true rfl), (Nat.le_of_ble_eq_true rfl)⟩ (fun _ _ h9 => zb_x hF h9) (Nat.le_of_ble_eq_true rfl) (Nat.le_of_ble_eq_true rfl) (fun v6 u5 h7 => ?_)
  replace hF := zb_l hF h7
  refine j_bipush (v := (16 : Int32)) C dX3_copy_18 (by decide) ?_
  refine j_icmp_ne (tgt := 27) C dX3_copy_20 (by decide) (fun c8 => ?_) (fun c8 => ?_)
  · replace hF := zif_f hF c8
    refine j_iconst (v := (0 : Int32)) C dX3_copy_27 (by decide) ?_
    refine j_callVi C hne mT_S hT (q0 := 0) (As := [.int it0, .int (0 : Int32)]) (rest := []) (kX3_refuses hl n it0 (0 : Int32) u5 (zb_n hF hn)) (cwV 2 C.1.2.2.2.2 gX3_copy_X3_refuses rfl rfl rfl (by decide +kernel) ⟨(Nat.le_of_ble_eq_true rfl), (Nat.le_of_ble_eq_true rfl)⟩) (by decide) mce_0 rfl rfl rfl (Nat.le_of_ble_eq_true rfl) dX3_copy_28 ⟨(Nat.le_of_ble_eq_true rfl), (Nat.le_of_ble_eq_true rfl)⟩ (fun _ _ h9 => zb_x hF h9) (Nat.le_of_ble_eq_true rfl) (Nat.le_of_ble_eq_true rfl) (fun v10 u9 h11 => ?_)
    replace hF := zb_l hF h11
    refine j_if_eq (tgt := 36) C dX3_copy_31 (by decide) (fun c12 => ?_) (fun c12 => ?_)
    · replace hF := zif_t hF c12
      refine j_iconst (v := (0 : Int32)) C dX3_copy_36 (by decide) ?_
      refine j_istore_n (lv' := [(2, .int (0 : Int32)), (0, .ref (ad 0)), (1, .int i1)]) C dX3_copy_37 rfl (by decide) rfl ?_
      refine j_sub [1, 2, 0] rfl ?_
      refine wX3_copy_38 C hne hl hT hr hn n ?_ n i1 (0 : Int32) u9 hF
      · intro i1 st hF
        refine j_iconst (v := (0 : Int32)) C dX3_copy_75 (by decide) ?_
        refine j_istore_n (lv' := [(2, .int (0 : Int32)), (0, .ref (ad 0)), (1, .int i1)]) C dX3_copy_76 rfl (by decide) rfl ?_
        refine j_sub [1, 2, 0] rfl ?_
        refine wX3_copy_77 C hne hl hT hr hn n ?_ n i1 (0 : Int32) st hF
        · intro i1 st hF
          refine j_aload_n C dX3_copy_118 rfl 0 rfl ?_
          refine j_aload_n C dX3_copy_119 rfl 0 rfl ?_
          refine m_get0 C in_X3_copy_wsX30 2 (by decide) (by decide +kernel) rfl dX3_copy_120 ?_
          refine j_iload_n C dX3_copy_123 rfl 1 rfl ?_
          have b26 := zif_c hF hn
          replace hF := zif_t hF b26
          refine m_iald C (by decide) b26 dX3_copy_124 ?_
          refine j_callVi C hne mT_S hT (q0 := 0) (As := [.int (st 2 (i1).toNatClampNeg)]) (rest := []) (kX3_keep hl n (st 2 (i1).toNatClampNeg) st (zb_n hF hn)) (cwV 1 C.1.2.2.2.2 gX3_copy_X3_keep rfl rfl rfl (by decide +kernel) ⟨(Nat.le_of_ble_eq_true rfl), (Nat.le_of_ble_eq_true rfl)⟩) (by decide) mce_0 rfl rfl rfl (Nat.le_of_ble_eq_true rfl) dX3_copy_125 ⟨(Nat.le_of_ble_eq_true rfl), (Nat.le_of_ble_eq_true rfl)⟩ (fun _ _ h9 => zb_x hF h9) (Nat.le_of_ble_eq_true rfl) (Nat.le_of_ble_eq_true rfl) (fun v28 u27 h29 => ?_)
          replace hF := zb_l hF h29
          exact j_iret C hr hF (Nat.le_of_ble_eq_true rfl) (Nat.le_of_ble_eq_true rfl) dX3_copy_128
    · replace hF := zif_f hF c12
      refine j_iconst (v := (0 : Int32)) C dX3_copy_34 (by decide) ?_
      exact j_iret C hr hF (Nat.le_of_ble_eq_true rfl) (Nat.le_of_ble_eq_true rfl) dX3_copy_35
  · replace hF := zif_t hF c8
    refine j_iconst (v := (1 : Int32)) C dX3_copy_23 (by decide) ?_
    refine j_goto (tgt := 28) C dX3_copy_24 (by decide) ?_
    refine j_callVi C hne mT_S hT (q0 := 0) (As := [.int it0, .int (1 : Int32)]) (rest := []) (kX3_refuses hl n it0 (1 : Int32) u5 (zb_n hF hn)) (cwV 2 C.1.2.2.2.2 gX3_copy_X3_refuses rfl rfl rfl (by decide +kernel) ⟨(Nat.le_of_ble_eq_true rfl), (Nat.le_of_ble_eq_true rfl)⟩) (by decide) mce_0 rfl rfl rfl (Nat.le_of_ble_eq_true rfl) dX3_copy_28 ⟨(Nat.le_of_ble_eq_true rfl), (Nat.le_of_ble_eq_true rfl)⟩ (fun _ _ h9 => zb_x hF h9) (Nat.le_of_ble_eq_true rfl) (Nat.le_of_ble_eq_true rfl) (fun v31 u30 h32 => ?_)
    replace hF := zb_l hF h32
    refine j_if_eq (tgt := 36) C dX3_copy_31 (by decide) (fun c33 => ?_) (fun c33 => ?_)
    · replace hF := zif_t hF c33
      refine j_iconst (v := (0 : Int32)) C dX3_copy_36 (by decide) ?_
      refine j_istore_n (lv' := [(2, .int (0 : Int32)), (0, .ref (ad 0)), (1, .int i1)]) C dX3_copy_37 rfl (by decide) rfl ?_
      refine j_sub [1, 2, 0] rfl ?_
      refine wX3_copy_38 C hne hl hT hr hn n ?_ n i1 (0 : Int32) u30 hF
      · intro i1 st hF
        refine j_iconst (v := (0 : Int32)) C dX3_copy_75 (by decide) ?_
        refine j_istore_n (lv' := [(2, .int (0 : Int32)), (0, .ref (ad 0)), (1, .int i1)]) C dX3_copy_76 rfl (by decide) rfl ?_
        refine j_sub [1, 2, 0] rfl ?_
        refine wX3_copy_77 C hne hl hT hr hn n ?_ n i1 (0 : Int32) st hF
        · intro i1 st hF
          refine j_aload_n C dX3_copy_118 rfl 0 rfl ?_
          refine j_aload_n C dX3_copy_119 rfl 0 rfl ?_
          refine m_get0 C in_X3_copy_wsX30 2 (by decide) (by decide +kernel) rfl dX3_copy_120 ?_
          refine j_iload_n C dX3_copy_123 rfl 1 rfl ?_
          have b34 := zif_c hF hn
          replace hF := zif_t hF b34
          refine m_iald C (by decide) b34 dX3_copy_124 ?_
          refine j_callVi C hne mT_S hT (q0 := 0) (As := [.int (st 2 (i1).toNatClampNeg)]) (rest := []) (kX3_keep hl n (st 2 (i1).toNatClampNeg) st (zb_n hF hn)) (cwV 1 C.1.2.2.2.2 gX3_copy_X3_keep rfl rfl rfl (by decide +kernel) ⟨(Nat.le_of_ble_eq_true rfl), (Nat.le_of_ble_eq_true rfl)⟩) (by decide) mce_0 rfl rfl rfl (Nat.le_of_ble_eq_true rfl) dX3_copy_125 ⟨(Nat.le_of_ble_eq_true rfl), (Nat.le_of_ble_eq_true rfl)⟩ (fun _ _ h9 => zb_x hF h9) (Nat.le_of_ble_eq_true rfl) (Nat.le_of_ble_eq_true rfl) (fun v36 u35 h37 => ?_)
          replace hF := zb_l hF h37
          exact j_iret C hr hF (Nat.le_of_ble_eq_true rfl) (Nat.le_of_ble_eq_true rfl) dX3_copy_128
    · replace hF := zif_f hF c33
      refine j_iconst (v := (0 : Int32)) C dX3_copy_34 (by decide) ?_
      exact j_iret C hr hF (Nat.le_of_ble_eq_true rfl) (Nat.le_of_ble_eq_true rfl) dX3_copy_35
def fX3_copy (n : Nat) (i1 : Int32) (st : zS) : zF Int32 := (zb (fX3_isArray n i1 st) (fun (v2 : Int32) (u1 : zS) => (if v2 = 0 then fX3_copy_14 n i1 (1 : Int32) u1 else fX3_copy_14 n i1 (0 : Int32) u1)))
set_option maxHeartbeats 4000000 in
set_option maxRecDepth 100000 in
theorem kX3_copy (hl : l.stackTraces = false) (n : Nat) (i1 : Int32) (st : zS) (hn : fX3_copy n i1 st ≠ none) : zM (fun v : Int32 => some (.int v)) l yX3_copy wsX3_copy rmX3_copy D zcl (mty cI cZ) 7 ad (mce cI cZ ad) mT 0 0 [.ref (ad 0), .int i1] st (fX3_copy n i1 st) := by
  refine z_ofJ (cc := cX3_copy) (maxL := 3) (ret := (some .int)) (lv := [(0, .ref (ad 0)), (1, .int i1)]) (by decide) rfl (Nat.le_of_ble_eq_true rfl) rfl ?_
  intro p e s m args below meth c C hne hT hr
  obtain ⟨F, hFe⟩ : ∃ F, F = fX3_copy n i1 st := ⟨_, rfl⟩
  rw [← hFe] at hn ⊢
  have hF : fX3_copy n i1 st = F := hFe.symm
  clear hFe
  unfold fX3_copy at hF
  have C : zC p s m args meth c cX3_copy RX3 wsX3_copy D zcl (mty cI cZ) 7 ad 3 := C
  refine j_aload_n C dX3_copy_0 rfl 0 rfl ?_
  refine j_aload_n C dX3_copy_1 rfl 0 rfl ?_
  refine j_iload_n C dX3_copy_2 rfl 1 rfl ?_
  refine j_callVi C hne mT_S hT (q0 := 0) (As := [.int i1]) (rest := [.ref (ad 0)]) (kX3_isArray hl n i1 st (zb_n hF hn)) (cwV 1 C.1.2.2.2.2 gX3_copy_X3_isArray rfl rfl rfl (by decide +kernel) ⟨(Nat.le_of_ble_eq_true rfl), (Nat.le_of_ble_eq_true rfl)⟩) (by decide) mce_0 rfl rfl rfl (Nat.le_of_ble_eq_true rfl) dX3_copy_3 ⟨(Nat.le_of_ble_eq_true rfl), (Nat.le_of_ble_eq_true rfl)⟩ (fun _ _ h9 => zb_x hF h9) (Nat.le_of_ble_eq_true rfl) (Nat.le_of_ble_eq_true rfl) (fun v2 u1 h3 => ?_)
  replace hF := zb_l hF h3
  refine j_if_ne (tgt := 13) C dX3_copy_6 (by decide) (fun c4 => ?_) (fun c4 => ?_)
  · replace hF := zif_f hF c4
    refine j_iconst (v := (0 : Int32)) C dX3_copy_13 (by decide) ?_
    refine wX3_copy_14 C hne hl hT hr hn n  i1 (0 : Int32) u1 hF
  · replace hF := zif_t hF c4
    refine j_iconst (v := (1 : Int32)) C dX3_copy_9 (by decide) ?_
    refine j_goto (tgt := 14) C dX3_copy_10 (by decide) ?_
    refine wX3_copy_14 C hne hl hT hr hn n  i1 (1 : Int32) u1 hF
end
