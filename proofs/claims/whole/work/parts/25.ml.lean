/-! X3_change -/
def rmX3_change : Room := { frames := 12, cells := 0, slots := 0, locals := 200 }
theorem in_X3_change_wsX30 : ∀ w ∈ wsX30, w ∈ wsX3_change := by decide +kernel
section
variable {p : Program} {l : Launch} {e : Env} {s : State} {m : MethodId} {args : Array Value} {below : List Frame} {meth : Method} {c : Code} {D : va_G} {cI cZ : ClassId} {ad : Nat → Nat}
def fX3_change_105 (n : Nat) (B_59 : Int32 → Int32 → Int32 → Int32 → Int32 → Int32 → Int32 → Int32 → Int32 → zS → zF Unit) (i1 : Int32) (i2 : Int32) (i3 : Int32) (i4 : Int32) (i5 : Int32) (i6 : Int32) (i8 : Int32) (i9 : Int32) (it0 : Int32) (st : zS) : zF Unit := (if i8 = 0 then B_59 i1 i2 i3 i4 i5 i6 it0 (0 : Int32) (i9 + (1 : Int32)) st else (if inb i9 (ml 6) then (if inb ((16 : Int32) * i5) (ml 6) then (if (st 6 (i9).toNatClampNeg) = (st 6 (((16 : Int32) * i5)).toNatClampNeg) then B_59 i1 i2 i3 i4 i5 i6 it0 (1 : Int32) (i9 + (1 : Int32)) st else B_59 i1 i2 i3 i4 i5 i6 it0 (0 : Int32) (i9 + (1 : Int32)) st) else none) else none))
set_option maxHeartbeats 4000000 in
set_option maxRecDepth 100000 in
theorem wX3_change_105 (C : zC p s m args meth c cX3_change RX3 wsX3_change D zcl (mty cI cZ) 7 ad 11) (hne : ∀ x ∈ c.exceptionTable.toList, False) (hl : l.stackTraces = false) (hT : mT s.heap.size s) (hr : meth.sig.returnType = none) {F : zF Unit} (hn : F ≠ none) (n : Nat) {B_59 : Int32 → Int32 → Int32 → Int32 → Int32 → Int32 → Int32 → Int32 → Int32 → zS → zF Unit} (hB_59 : ∀ (i1 : Int32) (i2 : Int32) (i3 : Int32) (i4 : Int32) (i5 : Int32) (i6 : Int32) (i7 : Int32) (i8 : Int32) (i9 : Int32) (st : zS), B_59 i1 i2 i3 i4 i5 i6 i7 i8 i9 st = F → mJ (fun _ : Unit => none) F 0 0 p l e rmX3_change s m args below meth c D cI cZ ad 11 st 0 0 59 [(0, .ref (ad 0)), (1, .int i1), (2, .int i2), (3, .int i3), (4, .int i4), (5, .int i5), (6, .int i6), (7, .int i7), (8, .int i8), (9, .int i9)] []) : ∀ (i1 : Int32) (i2 : Int32) (i3 : Int32) (i4 : Int32) (i5 : Int32) (i6 : Int32) (i8 : Int32) (i9 : Int32) (it0 : Int32) (st : zS), fX3_change_105 n B_59 i1 i2 i3 i4 i5 i6 i8 i9 it0 st = F → mJ (fun _ : Unit => none) F 0 0 p l e rmX3_change s m args below meth c D cI cZ ad 11 st 0 0 105 [(0, .ref (ad 0)), (1, .int i1), (2, .int i2), (3, .int i3), (4, .int i4), (5, .int i5), (6, .int i6), (8, .int i8), (9, .int i9)] [.int it0] := by
  intro i1 i2 i3 i4 i5 i6 i8 i9 it0 st hF
  unfold fX3_change_105 at hF
  refine j_istore (lv' := [(7, .int it0), (0, .ref (ad 0)), (1, .int i1), (2, .int i2), (3, .int i3), (4, .int i4), (5, .int i5), (6, .int i6), (8, .int i8), (9, .int i9)]) C dX3_change_105 (by decide) rfl ?_
  refine j_iload C dX3_change_107 8 rfl ?_
  refine j_if_eq (tgt := 136) C dX3_change_109 (by decide) (fun c16 => ?_) (fun c16 => ?_)
  · replace hF := zif_t hF c16
    refine j_iconst (v := (0 : Int32)) C dX3_change_136 (by decide) ?_
    refine j_istore (lv' := [(8, .int (0 : Int32)), (7, .int it0), (0, .ref (ad 0)), (1, .int i1), (2, .int i2), (3, .int i3), (4, .int i4), (5, .int i5), (6, .int i6), (9, .int i9)]) C dX3_change_137 (by decide) rfl ?_
    refine j_iinc (lv' := [(9, .int (i9 + (1 : Int32))), (8, .int (0 : Int32)), (7, .int it0), (0, .ref (ad 0)), (1, .int i1), (2, .int i2), (3, .int i3), (4, .int i4), (5, .int i5), (6, .int i6)]) C dX3_change_139 9 rfl rfl (by decide) rfl ?_
    refine j_goto (tgt := 59) C dX3_change_142 (by decide) ?_
    refine j_sub [3, 4, 5, 6, 7, 8, 9, 2, 1, 0] rfl ?_
    exact hB_59 i1 i2 i3 i4 i5 i6 it0 (0 : Int32) (i9 + (1 : Int32)) st hF
  · replace hF := zif_f hF c16
    refine j_aload_n C dX3_change_112 rfl 1 rfl ?_
    refine m_get0 C in_X3_change_wsX30 7 (by decide) (by decide +kernel) rfl dX3_change_113 ?_
    refine j_iload C dX3_change_116 9 rfl ?_
    have b17 := zif_c hF hn
    replace hF := zif_t hF b17
    refine m_iald C (by decide) b17 dX3_change_118 ?_
    refine j_aload_n C dX3_change_119 rfl 1 rfl ?_
    refine m_get0 C in_X3_change_wsX30 7 (by decide) (by decide +kernel) rfl dX3_change_120 ?_
    refine j_bipush (v := (16 : Int32)) C dX3_change_123 (by decide) ?_
    refine j_iload C dX3_change_125 6 rfl ?_
    refine j_imul C dX3_change_127 ?_
    have b18 := zif_c hF hn
    replace hF := zif_t hF b18
    refine m_iald C (by decide) b18 dX3_change_128 ?_
    refine j_icmp_ne (tgt := 136) C dX3_change_129 (by decide) (fun c19 => ?_) (fun c19 => ?_)
    · replace hF := zif_f hF c19
      refine j_iconst (v := (0 : Int32)) C dX3_change_136 (by decide) ?_
      refine j_istore (lv' := [(8, .int (0 : Int32)), (7, .int it0), (0, .ref (ad 0)), (1, .int i1), (2, .int i2), (3, .int i3), (4, .int i4), (5, .int i5), (6, .int i6), (9, .int i9)]) C dX3_change_137 (by decide) rfl ?_
      refine j_iinc (lv' := [(9, .int (i9 + (1 : Int32))), (8, .int (0 : Int32)), (7, .int it0), (0, .ref (ad 0)), (1, .int i1), (2, .int i2), (3, .int i3), (4, .int i4), (5, .int i5), (6, .int i6)]) C dX3_change_139 9 rfl rfl (by decide) rfl ?_
      refine j_goto (tgt := 59) C dX3_change_142 (by decide) ?_
      refine j_sub [3, 4, 5, 6, 7, 8, 9, 2, 1, 0] rfl ?_
      exact hB_59 i1 i2 i3 i4 i5 i6 it0 (0 : Int32) (i9 + (1 : Int32)) st hF
    · replace hF := zif_t hF c19
      refine j_iconst (v := (1 : Int32)) C dX3_change_132 (by decide) ?_
      refine j_goto (tgt := 137) C dX3_change_133 (by decide) ?_
      refine j_istore (lv' := [(8, .int (1 : Int32)), (7, .int it0), (0, .ref (ad 0)), (1, .int i1), (2, .int i2), (3, .int i3), (4, .int i4), (5, .int i5), (6, .int i6), (9, .int i9)]) C dX3_change_137 (by decide) rfl ?_
      refine j_iinc (lv' := [(9, .int (i9 + (1 : Int32))), (8, .int (1 : Int32)), (7, .int it0), (0, .ref (ad 0)), (1, .int i1), (2, .int i2), (3, .int i3), (4, .int i4), (5, .int i5), (6, .int i6)]) C dX3_change_139 9 rfl rfl (by decide) rfl ?_
      refine j_goto (tgt := 59) C dX3_change_142 (by decide) ?_
      refine j_sub [3, 4, 5, 6, 7, 8, 9, 2, 1, 0] rfl ?_
      exact hB_59 i1 i2 i3 i4 i5 i6 it0 (1 : Int32) (i9 + (1 : Int32)) st hF
def fX3_change_104 (n : Nat) (B_59 : Int32 → Int32 → Int32 → Int32 → Int32 → Int32 → Int32 → Int32 → Int32 → zS → zF Unit) (i1 : Int32) (i2 : Int32) (i3 : Int32) (i4 : Int32) (i5 : Int32) (i6 : Int32) (i8 : Int32) (i9 : Int32) (st : zS) : zF Unit := fX3_change_105 n B_59 i1 i2 i3 i4 i5 i6 i8 i9 (0 : Int32) st
set_option maxHeartbeats 4000000 in
set_option maxRecDepth 100000 in
theorem wX3_change_104 (C : zC p s m args meth c cX3_change RX3 wsX3_change D zcl (mty cI cZ) 7 ad 11) (hne : ∀ x ∈ c.exceptionTable.toList, False) (hl : l.stackTraces = false) (hT : mT s.heap.size s) (hr : meth.sig.returnType = none) {F : zF Unit} (hn : F ≠ none) (n : Nat) {B_59 : Int32 → Int32 → Int32 → Int32 → Int32 → Int32 → Int32 → Int32 → Int32 → zS → zF Unit} (hB_59 : ∀ (i1 : Int32) (i2 : Int32) (i3 : Int32) (i4 : Int32) (i5 : Int32) (i6 : Int32) (i7 : Int32) (i8 : Int32) (i9 : Int32) (st : zS), B_59 i1 i2 i3 i4 i5 i6 i7 i8 i9 st = F → mJ (fun _ : Unit => none) F 0 0 p l e rmX3_change s m args below meth c D cI cZ ad 11 st 0 0 59 [(0, .ref (ad 0)), (1, .int i1), (2, .int i2), (3, .int i3), (4, .int i4), (5, .int i5), (6, .int i6), (7, .int i7), (8, .int i8), (9, .int i9)] []) : ∀ (i1 : Int32) (i2 : Int32) (i3 : Int32) (i4 : Int32) (i5 : Int32) (i6 : Int32) (i8 : Int32) (i9 : Int32) (st : zS), fX3_change_104 n B_59 i1 i2 i3 i4 i5 i6 i8 i9 st = F → mJ (fun _ : Unit => none) F 0 0 p l e rmX3_change s m args below meth c D cI cZ ad 11 st 0 0 104 [(0, .ref (ad 0)), (1, .int i1), (2, .int i2), (3, .int i3), (4, .int i4), (5, .int i5), (6, .int i6), (8, .int i8), (9, .int i9)] [] := by
  intro i1 i2 i3 i4 i5 i6 i8 i9 st hF
  unfold fX3_change_104 at hF
  refine j_iconst (v := (0 : Int32)) C dX3_change_104 (by decide) ?_
  refine wX3_change_105 C hne hl hT hr hn n hB_59 i1 i2 i3 i4 i5 i6 i8 i9 (0 : Int32) st hF
def fX3_change_59 (n : Nat) (X_145 : Int32 → Int32 → Int32 → Int32 → Int32 → Int32 → Int32 → zS → zF Unit) : Nat → Int32 → Int32 → Int32 → Int32 → Int32 → Int32 → Int32 → Int32 → Int32 → zS → zF Unit
  | 0, _, _, _, _, _, _, _, _, _, _ => none
  | k + 1, i1, i2, i3, i4, i5, i6, i7, i8, i9, st => (if (((16 : Int32) * i5) + i6) ≤ i9 then X_145 i1 i2 i3 i4 i5 i7 i8 st else (if i7 = 0 then fX3_change_104 n (fun (i1 : Int32) (i2 : Int32) (i3 : Int32) (i4 : Int32) (i5 : Int32) (i6 : Int32) (i7 : Int32) (i8 : Int32) (i9 : Int32) (st : zS) => fX3_change_59 n X_145 k i1 i2 i3 i4 i5 i6 i7 i8 i9 st) i1 i2 i3 i4 i5 i6 i8 i9 st else (if inb i9 (ml 6) then (if inb (((4096 : Int32) * i1) + i9) (ml 3) then (if (st 6 (i9).toNatClampNeg) = (st 3 ((((4096 : Int32) * i1) + i9)).toNatClampNeg) then fX3_change_105 n (fun (i1 : Int32) (i2 : Int32) (i3 : Int32) (i4 : Int32) (i5 : Int32) (i6 : Int32) (i7 : Int32) (i8 : Int32) (i9 : Int32) (st : zS) => fX3_change_59 n X_145 k i1 i2 i3 i4 i5 i6 i7 i8 i9 st) i1 i2 i3 i4 i5 i6 i8 i9 (1 : Int32) st else fX3_change_104 n (fun (i1 : Int32) (i2 : Int32) (i3 : Int32) (i4 : Int32) (i5 : Int32) (i6 : Int32) (i7 : Int32) (i8 : Int32) (i9 : Int32) (st : zS) => fX3_change_59 n X_145 k i1 i2 i3 i4 i5 i6 i7 i8 i9 st) i1 i2 i3 i4 i5 i6 i8 i9 st) else none) else none)))
set_option maxHeartbeats 4000000 in
set_option maxRecDepth 100000 in
theorem wX3_change_59 (C : zC p s m args meth c cX3_change RX3 wsX3_change D zcl (mty cI cZ) 7 ad 11) (hne : ∀ x ∈ c.exceptionTable.toList, False) (hl : l.stackTraces = false) (hT : mT s.heap.size s) (hr : meth.sig.returnType = none) {F : zF Unit} (hn : F ≠ none) (n : Nat) {X_145 : Int32 → Int32 → Int32 → Int32 → Int32 → Int32 → Int32 → zS → zF Unit} (hX_145 : ∀ (i1 : Int32) (i2 : Int32) (i3 : Int32) (i4 : Int32) (i5 : Int32) (i7 : Int32) (i8 : Int32) (st : zS), X_145 i1 i2 i3 i4 i5 i7 i8 st = F → mJ (fun _ : Unit => none) F 0 0 p l e rmX3_change s m args below meth c D cI cZ ad 11 st 0 0 145 [(0, .ref (ad 0)), (1, .int i1), (2, .int i2), (3, .int i3), (4, .int i4), (5, .int i5), (7, .int i7), (8, .int i8)] []) : ∀ (k : Nat) (i1 : Int32) (i2 : Int32) (i3 : Int32) (i4 : Int32) (i5 : Int32) (i6 : Int32) (i7 : Int32) (i8 : Int32) (i9 : Int32) (st : zS), fX3_change_59 n X_145 k i1 i2 i3 i4 i5 i6 i7 i8 i9 st = F → mJ (fun _ : Unit => none) F 0 0 p l e rmX3_change s m args below meth c D cI cZ ad 11 st 0 0 59 [(0, .ref (ad 0)), (1, .int i1), (2, .int i2), (3, .int i3), (4, .int i4), (5, .int i5), (6, .int i6), (7, .int i7), (8, .int i8), (9, .int i9)] [] := by
  intro k
  induction k with
  | zero =>
    intro i1 i2 i3 i4 i5 i6 i7 i8 i9 st hF
    exact absurd hF.symm hn
  | succ k ih =>
    intro i1 i2 i3 i4 i5 i6 i7 i8 i9 st hF
    rw [fX3_change_59] at hF
    refine j_iload C dX3_change_59 9 rfl ?_
    refine j_bipush (v := (16 : Int32)) C dX3_change_61 (by decide) ?_
    refine j_iload C dX3_change_63 5 rfl ?_
    refine j_imul C dX3_change_65 ?_
    refine j_iload C dX3_change_66 6 rfl ?_
    refine j_iadd C dX3_change_68 ?_
    refine j_icmp_ge (tgt := 145) C dX3_change_69 (by decide) (fun c14 => ?_) (fun c14 => ?_)
    · replace hF := zif_t hF c14
      refine j_sub [0, 1, 2, 3, 4, 5, 7, 8] rfl ?_
      exact hX_145 i1 i2 i3 i4 i5 i7 i8 st hF
    · replace hF := zif_f hF c14
      refine j_iload C dX3_change_72 7 rfl ?_
      refine j_if_eq (tgt := 104) C dX3_change_74 (by decide) (fun c15 => ?_) (fun c15 => ?_)
      · replace hF := zif_t hF c15
        refine j_sub [0, 1, 2, 3, 4, 5, 6, 8, 9] rfl ?_
        refine wX3_change_104 C hne hl hT hr hn n ?_ i1 i2 i3 i4 i5 i6 i8 i9 st hF
        · intro i1 i2 i3 i4 i5 i6 i7 i8 i9 st hF
          exact ih i1 i2 i3 i4 i5 i6 i7 i8 i9 st hF
      · replace hF := zif_f hF c15
        refine j_aload_n C dX3_change_77 rfl 0 rfl ?_
        refine m_get0 C in_X3_change_wsX30 7 (by decide) (by decide +kernel) rfl dX3_change_78 ?_
        refine j_iload C dX3_change_81 9 rfl ?_
        have b20 := zif_c hF hn
        replace hF := zif_t hF b20
        refine m_iald C (by decide) b20 dX3_change_83 ?_
        refine j_aload_n C dX3_change_84 rfl 0 rfl ?_
        refine m_get0 C in_X3_change_wsX30 3 (by decide) (by decide +kernel) rfl dX3_change_85 ?_
        refine j_sipush (v := (4096 : Int32)) C dX3_change_88 (by decide) ?_
        refine j_iload_n C dX3_change_91 rfl 1 rfl ?_
        refine j_imul C dX3_change_92 ?_
        refine j_iload C dX3_change_93 9 rfl ?_
        refine j_iadd C dX3_change_95 ?_
        have b21 := zif_c hF hn
        replace hF := zif_t hF b21
        refine m_iald C (by decide) b21 dX3_change_96 ?_
        refine j_icmp_ne (tgt := 104) C dX3_change_97 (by decide) (fun c22 => ?_) (fun c22 => ?_)
        · replace hF := zif_f hF c22
          refine j_sub [0, 1, 2, 3, 4, 5, 6, 8, 9] rfl ?_
          refine wX3_change_104 C hne hl hT hr hn n ?_ i1 i2 i3 i4 i5 i6 i8 i9 st hF
          · intro i1 i2 i3 i4 i5 i6 i7 i8 i9 st hF
            exact ih i1 i2 i3 i4 i5 i6 i7 i8 i9 st hF
        · replace hF := zif_t hF c22
          refine j_iconst (v := (1 : Int32)) C dX3_change_100 (by decide) ?_
          refine j_goto (tgt := 105) C dX3_change_101 (by decide) ?_
          refine j_sub [0, 1, 2, 3, 4, 5, 6, 8, 9] rfl ?_
          refine wX3_change_105 C hne hl hT hr hn n ?_ i1 i2 i3 i4 i5 i6 i8 i9 (1 : Int32) st hF
          · intro i1 i2 i3 i4 i5 i6 i7 i8 i9 st hF
            exact ih i1 i2 i3 i4 i5 i6 i7 i8 i9 st hF
def fX3_change_256 (n : Nat) (B_19 : Int32 → Int32 → Int32 → Int32 → Int32 → zS → zF Unit) (i1 : Int32) (i2 : Int32) (i3 : Int32) (i4 : Int32) (i5 : Int32) (i10 : Int32) (st : zS) : zF Unit := (if i10 = 0 then (zl (upA st 0 (upd (st 0) 6 ((st 0 6) + (0 : Int32)))) (fun (s28 : zS) => B_19 i1 i2 i3 i4 (i5 + (1 : Int32)) s28)) else (zl (upA st 0 (upd (st 0) 6 ((st 0 6) + (1 : Int32)))) (fun (s29 : zS) => B_19 i1 i2 i3 i4 (i5 + (1 : Int32)) s29)))
set_option maxHeartbeats 4000000 in
set_option maxRecDepth 100000 in
theorem wX3_change_256 (C : zC p s m args meth c cX3_change RX3 wsX3_change D zcl (mty cI cZ) 7 ad 11) (hne : ∀ x ∈ c.exceptionTable.toList, False) (hl : l.stackTraces = false) (hT : mT s.heap.size s) (hr : meth.sig.returnType = none) {F : zF Unit} (hn : F ≠ none) (n : Nat) {B_19 : Int32 → Int32 → Int32 → Int32 → Int32 → zS → zF Unit} (hB_19 : ∀ (i1 : Int32) (i2 : Int32) (i3 : Int32) (i4 : Int32) (i5 : Int32) (st : zS), B_19 i1 i2 i3 i4 i5 st = F → mJ (fun _ : Unit => none) F 0 0 p l e rmX3_change s m args below meth c D cI cZ ad 11 st 0 0 19 [(0, .ref (ad 0)), (1, .int i1), (2, .int i2), (3, .int i3), (4, .int i4), (5, .int i5)] []) : ∀ (i1 : Int32) (i2 : Int32) (i3 : Int32) (i4 : Int32) (i5 : Int32) (i10 : Int32) (st : zS), fX3_change_256 n B_19 i1 i2 i3 i4 i5 i10 st = F → mJ (fun _ : Unit => none) F 0 0 p l e rmX3_change s m args below meth c D cI cZ ad 11 st 0 0 256 [(0, .ref (ad 0)), (1, .int i1), (2, .int i2), (3, .int i3), (4, .int i4), (5, .int i5), (10, .int i10)] [] := by
  intro i1 i2 i3 i4 i5 i10 st hF
  unfold fX3_change_256 at hF
  refine j_aload_n C dX3_change_256 rfl 0 rfl ?_
  refine j_dup C dX3_change_257 rfl ?_
  refine m_get0 C in_X3_change_wsX30 6 (by decide) (by decide +kernel) rfl dX3_change_258 ?_
  refine j_iload C dX3_change_261 6 rfl ?_
  refine j_if_eq (tgt := 270) C dX3_change_263 (by decide) (fun c27 => ?_) (fun c27 => ?_)
  · replace hF := zif_t hF c27
    refine j_iconst (v := (0 : Int32)) C dX3_change_270 (by decide) ?_
    refine j_iadd C dX3_change_271 ?_
    refine m_put0 C in_X3_change_wsX30 6 (by decide) (by decide +kernel) dX3_change_272 ?_
    obtain ⟨s28, es28, hF⟩ := zl_e hF
    rw [← es28]
    refine j_iinc (lv' := [(5, .int (i5 + (1 : Int32))), (0, .ref (ad 0)), (1, .int i1), (2, .int i2), (3, .int i3), (4, .int i4), (10, .int i10)]) C dX3_change_275 5 rfl rfl (by decide) rfl ?_
    refine j_goto (tgt := 19) C dX3_change_278 (by decide) ?_
    refine j_sub [1, 2, 3, 4, 5, 0] rfl ?_
    exact hB_19 i1 i2 i3 i4 (i5 + (1 : Int32)) s28 hF
  · replace hF := zif_f hF c27
    refine j_iconst (v := (1 : Int32)) C dX3_change_266 (by decide) ?_
    refine j_goto (tgt := 271) C dX3_change_267 (by decide) ?_
    refine j_iadd C dX3_change_271 ?_
    refine m_put0 C in_X3_change_wsX30 6 (by decide) (by decide +kernel) dX3_change_272 ?_
    obtain ⟨s29, es29, hF⟩ := zl_e hF
    rw [← es29]
    refine j_iinc (lv' := [(5, .int (i5 + (1 : Int32))), (0, .ref (ad 0)), (1, .int i1), (2, .int i2), (3, .int i3), (4, .int i4), (10, .int i10)]) C dX3_change_275 5 rfl rfl (by decide) rfl ?_
    refine j_goto (tgt := 19) C dX3_change_278 (by decide) ?_
    refine j_sub [1, 2, 3, 4, 5, 0] rfl ?_
    exact hB_19 i1 i2 i3 i4 (i5 + (1 : Int32)) s29 hF
def fX3_change_255 (n : Nat) (B_19 : Int32 → Int32 → Int32 → Int32 → Int32 → zS → zF Unit) (i1 : Int32) (i2 : Int32) (i3 : Int32) (i4 : Int32) (i5 : Int32) (i10 : Int32) (it0 : Int32) (it1 : Int32) (st : zS) : zF Unit := (if inb it1 (ml 4) then (zl (upA st 4 (upd (st 4) (it1).toNatClampNeg it0)) (fun (s33 : zS) => fX3_change_256 n B_19 i1 i2 i3 i4 i5 i10 s33)) else none)
set_option maxHeartbeats 4000000 in
set_option maxRecDepth 100000 in
theorem wX3_change_255 (C : zC p s m args meth c cX3_change RX3 wsX3_change D zcl (mty cI cZ) 7 ad 11) (hne : ∀ x ∈ c.exceptionTable.toList, False) (hl : l.stackTraces = false) (hT : mT s.heap.size s) (hr : meth.sig.returnType = none) {F : zF Unit} (hn : F ≠ none) (n : Nat) {B_19 : Int32 → Int32 → Int32 → Int32 → Int32 → zS → zF Unit} (hB_19 : ∀ (i1 : Int32) (i2 : Int32) (i3 : Int32) (i4 : Int32) (i5 : Int32) (st : zS), B_19 i1 i2 i3 i4 i5 st = F → mJ (fun _ : Unit => none) F 0 0 p l e rmX3_change s m args below meth c D cI cZ ad 11 st 0 0 19 [(0, .ref (ad 0)), (1, .int i1), (2, .int i2), (3, .int i3), (4, .int i4), (5, .int i5)] []) : ∀ (i1 : Int32) (i2 : Int32) (i3 : Int32) (i4 : Int32) (i5 : Int32) (i10 : Int32) (it0 : Int32) (it1 : Int32) (st : zS), fX3_change_255 n B_19 i1 i2 i3 i4 i5 i10 it0 it1 st = F → mJ (fun _ : Unit => none) F 0 0 p l e rmX3_change s m args below meth c D cI cZ ad 11 st 0 0 255 [(0, .ref (ad 0)), (1, .int i1), (2, .int i2), (3, .int i3), (4, .int i4), (5, .int i5), (10, .int i10)] [.int it0, .int it1, .ref (ad 4)] := by
  intro i1 i2 i3 i4 i5 i10 it0 it1 st hF
  unfold fX3_change_255 at hF
  have b32 := zif_c hF hn
  replace hF := zif_t hF b32
  refine m_iast C (by decide) b32 dX3_change_255 ?_
  obtain ⟨s33, es33, hF⟩ := zl_e hF
  rw [← es33]
  refine wX3_change_256 C hne hl hT hr hn n hB_19 i1 i2 i3 i4 i5 i10 s33 hF
def fX3_change_192 (n : Nat) (B_19 : Int32 → Int32 → Int32 → Int32 → Int32 → zS → zF Unit) (i1 : Int32) (i2 : Int32) (i3 : Int32) (i4 : Int32) (i5 : Int32) (i7 : Int32) (i8 : Int32) (i9 : Int32) (it0 : Int32) (st : zS) : zF Unit := (if i4 = 0 then (if it0 = 0 then B_19 i1 i2 (i3 + (0 : Int32)) i4 (i5 + (1 : Int32)) st else B_19 i1 i2 (i3 + (1 : Int32)) i4 (i5 + (1 : Int32)) st) else (if i7 = 0 then (if i8 = 0 then (if it0 = 0 then fX3_change_255 n B_19 i1 i2 i3 i4 i5 it0 i9 (((256 : Int32) * i1) + i5) st else fX3_change_255 n B_19 i1 i2 i3 i4 i5 it0 (st 0 6) (((256 : Int32) * i1) + i5) st) else fX3_change_255 n B_19 i1 i2 i3 i4 i5 it0 ((-1) : Int32) (((256 : Int32) * i1) + i5) st) else fX3_change_256 n B_19 i1 i2 i3 i4 i5 it0 st))
set_option maxHeartbeats 4000000 in
set_option maxRecDepth 100000 in
theorem wX3_change_192 (C : zC p s m args meth c cX3_change RX3 wsX3_change D zcl (mty cI cZ) 7 ad 11) (hne : ∀ x ∈ c.exceptionTable.toList, False) (hl : l.stackTraces = false) (hT : mT s.heap.size s) (hr : meth.sig.returnType = none) {F : zF Unit} (hn : F ≠ none) (n : Nat) {B_19 : Int32 → Int32 → Int32 → Int32 → Int32 → zS → zF Unit} (hB_19 : ∀ (i1 : Int32) (i2 : Int32) (i3 : Int32) (i4 : Int32) (i5 : Int32) (st : zS), B_19 i1 i2 i3 i4 i5 st = F → mJ (fun _ : Unit => none) F 0 0 p l e rmX3_change s m args below meth c D cI cZ ad 11 st 0 0 19 [(0, .ref (ad 0)), (1, .int i1), (2, .int i2), (3, .int i3), (4, .int i4), (5, .int i5)] []) : ∀ (i1 : Int32) (i2 : Int32) (i3 : Int32) (i4 : Int32) (i5 : Int32) (i7 : Int32) (i8 : Int32) (i9 : Int32) (it0 : Int32) (st : zS), fX3_change_192 n B_19 i1 i2 i3 i4 i5 i7 i8 i9 it0 st = F → mJ (fun _ : Unit => none) F 0 0 p l e rmX3_change s m args below meth c D cI cZ ad 11 st 0 0 192 [(0, .ref (ad 0)), (1, .int i1), (2, .int i2), (3, .int i3), (4, .int i4), (5, .int i5), (7, .int i7), (8, .int i8), (9, .int i9)] [.int it0] := by
  intro i1 i2 i3 i4 i5 i7 i8 i9 it0 st hF
  unfold fX3_change_192 at hF
  refine j_istore (lv' := [(10, .int it0), (0, .ref (ad 0)), (1, .int i1), (2, .int i2), (3, .int i3), (4, .int i4), (5, .int i5), (7, .int i7), (8, .int i8), (9, .int i9)]) C dX3_change_192 (by decide) rfl ?_
  refine j_iload C dX3_change_194 5 rfl ?_
  refine j_if_ne (tgt := 215) C dX3_change_196 (by decide) (fun c25 => ?_) (fun c25 => ?_)
  · replace hF := zif_f hF c25
    refine j_iload C dX3_change_215 7 rfl ?_
    refine j_if_ne (tgt := 256) C dX3_change_217 (by decide) (fun c26 => ?_) (fun c26 => ?_)
    · replace hF := zif_f hF c26
      refine j_sub [1, 2, 3, 4, 5, 6, 0] rfl ?_
      refine wX3_change_256 C hne hl hT hr hn n hB_19 i1 i2 i3 i4 i5 it0 st hF
    · replace hF := zif_t hF c26
      refine j_aload_n C dX3_change_220 rfl 1 rfl ?_
      refine m_get0 C in_X3_change_wsX30 4 (by decide) (by decide +kernel) rfl dX3_change_221 ?_
      refine j_sipush (v := (256 : Int32)) C dX3_change_224 (by decide) ?_
      refine j_iload_n C dX3_change_227 rfl 2 rfl ?_
      refine j_imul C dX3_change_228 ?_
      refine j_iload C dX3_change_229 6 rfl ?_
      refine j_iadd C dX3_change_231 ?_
      refine j_iload C dX3_change_232 8 rfl ?_
      refine j_if_eq (tgt := 241) C dX3_change_234 (by decide) (fun c30 => ?_) (fun c30 => ?_)
      · replace hF := zif_t hF c30
        refine j_iload C dX3_change_241 0 rfl ?_
        refine j_if_eq (tgt := 253) C dX3_change_243 (by decide) (fun c31 => ?_) (fun c31 => ?_)
        · replace hF := zif_t hF c31
          refine j_iload C dX3_change_253 9 rfl ?_
          refine j_sub [1, 2, 3, 4, 5, 6, 0] rfl ?_
          refine wX3_change_255 C hne hl hT hr hn n hB_19 i1 i2 i3 i4 i5 it0 i9 (((256 : Int32) * i1) + i5) st hF
        · replace hF := zif_f hF c31
          refine j_aload_n C dX3_change_246 rfl 1 rfl ?_
          refine m_get0 C in_X3_change_wsX30 6 (by decide) (by decide +kernel) rfl dX3_change_247 ?_
          refine j_goto (tgt := 255) C dX3_change_250 (by decide) ?_
          refine j_sub [1, 2, 3, 4, 5, 6, 0] rfl ?_
          refine wX3_change_255 C hne hl hT hr hn n hB_19 i1 i2 i3 i4 i5 it0 (st 0 6) (((256 : Int32) * i1) + i5) st hF
      · replace hF := zif_f hF c30
        refine j_iconst (v := ((-1) : Int32)) C dX3_change_237 (by decide) ?_
        refine j_goto (tgt := 255) C dX3_change_238 (by decide) ?_
        refine j_sub [1, 2, 3, 4, 5, 6, 0] rfl ?_
        refine wX3_change_255 C hne hl hT hr hn n hB_19 i1 i2 i3 i4 i5 it0 ((-1) : Int32) (((256 : Int32) * i1) + i5) st hF
  · replace hF := zif_t hF c25
    refine j_iload_n C dX3_change_199 rfl 4 rfl ?_
    refine j_iload C dX3_change_200 0 rfl ?_
    refine j_if_eq (tgt := 209) C dX3_change_202 (by decide) (fun c34 => ?_) (fun c34 => ?_)
    · replace hF := zif_t hF c34
      refine j_iconst (v := (0 : Int32)) C dX3_change_209 (by decide) ?_
      refine j_iadd C dX3_change_210 ?_
      refine j_istore_n (lv' := [(3, .int (i3 + (0 : Int32))), (10, .int it0), (0, .ref (ad 0)), (1, .int i1), (2, .int i2), (4, .int i4), (5, .int i5), (7, .int i7), (8, .int i8), (9, .int i9)]) C dX3_change_211 rfl (by decide) rfl ?_
      refine j_goto (tgt := 275) C dX3_change_212 (by decide) ?_
      refine j_iinc (lv' := [(5, .int (i5 + (1 : Int32))), (3, .int (i3 + (0 : Int32))), (10, .int it0), (0, .ref (ad 0)), (1, .int i1), (2, .int i2), (4, .int i4), (7, .int i7), (8, .int i8), (9, .int i9)]) C dX3_change_275 6 rfl rfl (by decide) rfl ?_
      refine j_goto (tgt := 19) C dX3_change_278 (by decide) ?_
      refine j_sub [3, 4, 5, 1, 6, 0] rfl ?_
      exact hB_19 i1 i2 (i3 + (0 : Int32)) i4 (i5 + (1 : Int32)) st hF
    · replace hF := zif_f hF c34
      refine j_iconst (v := (1 : Int32)) C dX3_change_205 (by decide) ?_
      refine j_goto (tgt := 210) C dX3_change_206 (by decide) ?_
      refine j_iadd C dX3_change_210 ?_
      refine j_istore_n (lv' := [(3, .int (i3 + (1 : Int32))), (10, .int it0), (0, .ref (ad 0)), (1, .int i1), (2, .int i2), (4, .int i4), (5, .int i5), (7, .int i7), (8, .int i8), (9, .int i9)]) C dX3_change_211 rfl (by decide) rfl ?_
      refine j_goto (tgt := 275) C dX3_change_212 (by decide) ?_
      refine j_iinc (lv' := [(5, .int (i5 + (1 : Int32))), (3, .int (i3 + (1 : Int32))), (10, .int it0), (0, .ref (ad 0)), (1, .int i1), (2, .int i2), (4, .int i4), (7, .int i7), (8, .int i8), (9, .int i9)]) C dX3_change_275 6 rfl rfl (by decide) rfl ?_
      refine j_goto (tgt := 19) C dX3_change_278 (by decide) ?_
      refine j_sub [3, 4, 5, 1, 6, 0] rfl ?_
      exact hB_19 i1 i2 (i3 + (1 : Int32)) i4 (i5 + (1 : Int32)) st hF
def fX3_change_191 (n : Nat) (B_19 : Int32 → Int32 → Int32 → Int32 → Int32 → zS → zF Unit) (i1 : Int32) (i2 : Int32) (i3 : Int32) (i4 : Int32) (i5 : Int32) (i7 : Int32) (i8 : Int32) (i9 : Int32) (st : zS) : zF Unit := fX3_change_192 n B_19 i1 i2 i3 i4 i5 i7 i8 i9 (0 : Int32) st
set_option maxHeartbeats 4000000 in
set_option maxRecDepth 100000 in
theorem wX3_change_191 (C : zC p s m args meth c cX3_change RX3 wsX3_change D zcl (mty cI cZ) 7 ad 11) (hne : ∀ x ∈ c.exceptionTable.toList, False) (hl : l.stackTraces = false) (hT : mT s.heap.size s) (hr : meth.sig.returnType = none) {F : zF Unit} (hn : F ≠ none) (n : Nat) {B_19 : Int32 → Int32 → Int32 → Int32 → Int32 → zS → zF Unit} (hB_19 : ∀ (i1 : Int32) (i2 : Int32) (i3 : Int32) (i4 : Int32) (i5 : Int32) (st : zS), B_19 i1 i2 i3 i4 i5 st = F → mJ (fun _ : Unit => none) F 0 0 p l e rmX3_change s m args below meth c D cI cZ ad 11 st 0 0 19 [(0, .ref (ad 0)), (1, .int i1), (2, .int i2), (3, .int i3), (4, .int i4), (5, .int i5)] []) : ∀ (i1 : Int32) (i2 : Int32) (i3 : Int32) (i4 : Int32) (i5 : Int32) (i7 : Int32) (i8 : Int32) (i9 : Int32) (st : zS), fX3_change_191 n B_19 i1 i2 i3 i4 i5 i7 i8 i9 st = F → mJ (fun _ : Unit => none) F 0 0 p l e rmX3_change s m args below meth c D cI cZ ad 11 st 0 0 191 [(0, .ref (ad 0)), (1, .int i1), (2, .int i2), (3, .int i3), (4, .int i4), (5, .int i5), (7, .int i7), (8, .int i8), (9, .int i9)] [] := by
  intro i1 i2 i3 i4 i5 i7 i8 i9 st hF
  unfold fX3_change_191 at hF
  refine j_iconst (v := (0 : Int32)) C dX3_change_191 (by decide) ?_
  refine wX3_change_192 C hne hl hT hr hn n hB_19 i1 i2 i3 i4 i5 i7 i8 i9 (0 : Int32) st hF
def fX3_change_187 (n : Nat) (B_19 : Int32 → Int32 → Int32 → Int32 → Int32 → zS → zF Unit) (i1 : Int32) (i2 : Int32) (i3 : Int32) (i4 : Int32) (i5 : Int32) (i7 : Int32) (i8 : Int32) (i9 : Int32) (st : zS) : zF Unit := fX3_change_192 n B_19 i1 i2 i3 i4 i5 i7 i8 i9 (1 : Int32) st
set_option maxHeartbeats 4000000 in
set_option maxRecDepth 100000 in
theorem wX3_change_187 (C : zC p s m args meth c cX3_change RX3 wsX3_change D zcl (mty cI cZ) 7 ad 11) (hne : ∀ x ∈ c.exceptionTable.toList, False) (hl : l.stackTraces = false) (hT : mT s.heap.size s) (hr : meth.sig.returnType = none) {F : zF Unit} (hn : F ≠ none) (n : Nat) {B_19 : Int32 → Int32 → Int32 → Int32 → Int32 → zS → zF Unit} (hB_19 : ∀ (i1 : Int32) (i2 : Int32) (i3 : Int32) (i4 : Int32) (i5 : Int32) (st : zS), B_19 i1 i2 i3 i4 i5 st = F → mJ (fun _ : Unit => none) F 0 0 p l e rmX3_change s m args below meth c D cI cZ ad 11 st 0 0 19 [(0, .ref (ad 0)), (1, .int i1), (2, .int i2), (3, .int i3), (4, .int i4), (5, .int i5)] []) : ∀ (i1 : Int32) (i2 : Int32) (i3 : Int32) (i4 : Int32) (i5 : Int32) (i7 : Int32) (i8 : Int32) (i9 : Int32) (st : zS), fX3_change_187 n B_19 i1 i2 i3 i4 i5 i7 i8 i9 st = F → mJ (fun _ : Unit => none) F 0 0 p l e rmX3_change s m args below meth c D cI cZ ad 11 st 0 0 187 [(0, .ref (ad 0)), (1, .int i1), (2, .int i2), (3, .int i3), (4, .int i4), (5, .int i5), (7, .int i7), (8, .int i8), (9, .int i9)] [] := by
  intro i1 i2 i3 i4 i5 i7 i8 i9 st hF
  unfold fX3_change_187 at hF
  refine j_iconst (v := (1 : Int32)) C dX3_change_187 (by decide) ?_
  refine j_goto (tgt := 192) C dX3_change_188 (by decide) ?_
  refine wX3_change_192 C hne hl hT hr hn n hB_19 i1 i2 i3 i4 i5 i7 i8 i9 (1 : Int32) st hF
def fX3_change_19 (n : Nat) (X_281 : Int32 → Int32 → Int32 → Int32 → zS → zF Unit) : Nat → Int32 → Int32 → Int32 → Int32 → Int32 → zS → zF Unit
  | 0, _, _, _, _, _, _ => none
  | k + 1, i1, i2, i3, i4, i5, st => (if inb i1 (ml 2) then (zb (fX3_leaves n (st 2 (i1).toNatClampNeg) st) (fun (v7 : Int32) (u6 : zS) => (if v7 ≤ i5 then X_281 i1 i2 i3 i4 u6 else (if inb i1 (ml 2) then (zb (fX3_inLeaf n (u6 2 (i1).toNatClampNeg) i5 u6) (fun (v12 : Int32) (u11 : zS) => fX3_change_59 n (fun (i1 : Int32) (i2 : Int32) (i3 : Int32) (i4 : Int32) (i5 : Int32) (i7 : Int32) (i8 : Int32) (st : zS) => (if inb (((256 : Int32) * i1) + i5) (ml 4) then (if i7 = 0 then (if i8 = 0 then (if (st 4 ((((256 : Int32) * i1) + i5)).toNatClampNeg) = ((-1) : Int32) then fX3_change_187 n (fun (i1 : Int32) (i2 : Int32) (i3 : Int32) (i4 : Int32) (i5 : Int32) (st : zS) => fX3_change_19 n X_281 k i1 i2 i3 i4 i5 st) i1 i2 i3 i4 i5 i7 i8 (st 4 ((((256 : Int32) * i1) + i5)).toNatClampNeg) st else (if inb (st 4 ((((256 : Int32) * i1) + i5)).toNatClampNeg) (ml 5) then (if (st 5 ((st 4 ((((256 : Int32) * i1) + i5)).toNatClampNeg)).toNatClampNeg) ≤ (1 : Int32) then fX3_change_191 n (fun (i1 : Int32) (i2 : Int32) (i3 : Int32) (i4 : Int32) (i5 : Int32) (st : zS) => fX3_change_19 n X_281 k i1 i2 i3 i4 i5 st) i1 i2 i3 i4 i5 i7 i8 (st 4 ((((256 : Int32) * i1) + i5)).toNatClampNeg) st else fX3_change_187 n (fun (i1 : Int32) (i2 : Int32) (i3 : Int32) (i4 : Int32) (i5 : Int32) (st : zS) => fX3_change_19 n X_281 k i1 i2 i3 i4 i5 st) i1 i2 i3 i4 i5 i7 i8 (st 4 ((((256 : Int32) * i1) + i5)).toNatClampNeg) st) else none)) else fX3_change_191 n (fun (i1 : Int32) (i2 : Int32) (i3 : Int32) (i4 : Int32) (i5 : Int32) (st : zS) => fX3_change_19 n X_281 k i1 i2 i3 i4 i5 st) i1 i2 i3 i4 i5 i7 i8 (st 4 ((((256 : Int32) * i1) + i5)).toNatClampNeg) st) else fX3_change_191 n (fun (i1 : Int32) (i2 : Int32) (i3 : Int32) (i4 : Int32) (i5 : Int32) (st : zS) => fX3_change_19 n X_281 k i1 i2 i3 i4 i5 st) i1 i2 i3 i4 i5 i7 i8 (st 4 ((((256 : Int32) * i1) + i5)).toNatClampNeg) st) else none)) n i1 i2 i3 i4 i5 v12 (1 : Int32) (1 : Int32) ((16 : Int32) * i5) u11)) else none)))) else none)
set_option maxHeartbeats 4000000 in
set_option maxRecDepth 100000 in
theorem wX3_change_19 (C : zC p s m args meth c cX3_change RX3 wsX3_change D zcl (mty cI cZ) 7 ad 11) (hne : ∀ x ∈ c.exceptionTable.toList, False) (hl : l.stackTraces = false) (hT : mT s.heap.size s) (hr : meth.sig.returnType = none) {F : zF Unit} (hn : F ≠ none) (n : Nat) {X_281 : Int32 → Int32 → Int32 → Int32 → zS → zF Unit} (hX_281 : ∀ (i1 : Int32) (i2 : Int32) (i3 : Int32) (i4 : Int32) (st : zS), X_281 i1 i2 i3 i4 st = F → mJ (fun _ : Unit => none) F 0 0 p l e rmX3_change s m args below meth c D cI cZ ad 11 st 0 0 281 [(0, .ref (ad 0)), (1, .int i1), (2, .int i2), (3, .int i3), (4, .int i4)] []) : ∀ (k : Nat) (i1 : Int32) (i2 : Int32) (i3 : Int32) (i4 : Int32) (i5 : Int32) (st : zS), fX3_change_19 n X_281 k i1 i2 i3 i4 i5 st = F → mJ (fun _ : Unit => none) F 0 0 p l e rmX3_change s m args below meth c D cI cZ ad 11 st 0 0 19 [(0, .ref (ad 0)), (1, .int i1), (2, .int i2), (3, .int i3), (4, .int i4), (5, .int i5)] [] := by
  intro k
  induction k with
  | zero =>
    intro i1 i2 i3 i4 i5 st hF
    exact absurd hF.symm hn
  | succ k ih =>
    intro i1 i2 i3 i4 i5 st hF
    rw [fX3_change_19] at hF
    refine j_iload C dX3_change_19 5 rfl ?_
    refine j_aload_n C dX3_change_21 rfl 0 rfl ?_
    refine m_get0 C in_X3_change_wsX30 2 (by decide) (by decide +kernel) rfl dX3_change_22 ?_
    refine j_iload_n C dX3_change_25 rfl 1 rfl ?_
    have b5 := zif_c hF hn
    replace hF := zif_t hF b5
    refine m_iald C (by decide) b5 dX3_change_26 ?_
    refine j_callSi C hne mT_S hT (As := [.int (st 2 (i1).toNatClampNeg)]) (rest := [.int i5]) (kX3_leaves hl n (st 2 (i1).toNatClampNeg) st (zb_n hF hn)) (va_cwS 1 C.1.2.2.2.2 gX3_change_X3_leaves rfl rfl rfl (by decide +kernel) ⟨(Nat.le_of_ble_eq_true rfl), (Nat.le_of_ble_eq_true rfl)⟩) rfl rfl (Nat.le_of_ble_eq_true rfl) dX3_change_27 ⟨(Nat.le_of_ble_eq_true rfl), (Nat.le_of_ble_eq_true rfl)⟩ (fun _ _ h9 => zb_x hF h9) (Nat.le_of_ble_eq_true rfl) (Nat.le_of_ble_eq_true rfl) (fun v7 u6 h8 => ?_)
    replace hF := zb_l hF h8
    refine j_icmp_ge (tgt := 281) C dX3_change_30 (by decide) (fun c9 => ?_) (fun c9 => ?_)
    · replace hF := zif_t hF c9
      refine j_sub [0, 1, 2, 3, 4] rfl ?_
      exact hX_281 i1 i2 i3 i4 u6 hF
    · replace hF := zif_f hF c9
      refine j_aload_n C dX3_change_33 rfl 0 rfl ?_
      refine m_get0 C in_X3_change_wsX30 2 (by decide) (by decide +kernel) rfl dX3_change_34 ?_
      refine j_iload_n C dX3_change_37 rfl 1 rfl ?_
      have b10 := zif_c hF hn
      replace hF := zif_t hF b10
      refine m_iald C (by decide) b10 dX3_change_38 ?_
      refine j_iload C dX3_change_39 5 rfl ?_
      refine j_callSi C hne mT_S hT (As := [.int (u6 2 (i1).toNatClampNeg), .int i5]) (rest := []) (kX3_inLeaf hl n (u6 2 (i1).toNatClampNeg) i5 u6 (zb_n hF hn)) (va_cwS 2 C.1.2.2.2.2 gX3_change_X3_inLeaf rfl rfl rfl (by decide +kernel) ⟨(Nat.le_of_ble_eq_true rfl), (Nat.le_of_ble_eq_true rfl)⟩) rfl rfl (Nat.le_of_ble_eq_true rfl) dX3_change_41 ⟨(Nat.le_of_ble_eq_true rfl), (Nat.le_of_ble_eq_true rfl)⟩ (fun _ _ h9 => zb_x hF h9) (Nat.le_of_ble_eq_true rfl) (Nat.le_of_ble_eq_true rfl) (fun v12 u11 h13 => ?_)
      replace hF := zb_l hF h13
      refine j_istore (lv' := [(6, .int v12), (0, .ref (ad 0)), (1, .int i1), (2, .int i2), (3, .int i3), (4, .int i4), (5, .int i5)]) C dX3_change_44 (by decide) rfl ?_
      refine j_iconst (v := (1 : Int32)) C dX3_change_46 (by decide) ?_
      refine j_istore (lv' := [(7, .int (1 : Int32)), (6, .int v12), (0, .ref (ad 0)), (1, .int i1), (2, .int i2), (3, .int i3), (4, .int i4), (5, .int i5)]) C dX3_change_47 (by decide) rfl ?_
      refine j_iconst (v := (1 : Int32)) C dX3_change_49 (by decide) ?_
      refine j_istore (lv' := [(8, .int (1 : Int32)), (7, .int (1 : Int32)), (6, .int v12), (0, .ref (ad 0)), (1, .int i1), (2, .int i2), (3, .int i3), (4, .int i4), (5, .int i5)]) C dX3_change_50 (by decide) rfl ?_
      refine j_bipush (v := (16 : Int32)) C dX3_change_52 (by decide) ?_
      refine j_iload C dX3_change_54 8 rfl ?_
      refine j_imul C dX3_change_56 ?_
      refine j_istore (lv' := [(9, .int ((16 : Int32) * i5)), (8, .int (1 : Int32)), (7, .int (1 : Int32)), (6, .int v12), (0, .ref (ad 0)), (1, .int i1), (2, .int i2), (3, .int i3), (4, .int i4), (5, .int i5)]) C dX3_change_57 (by decide) rfl ?_
      refine j_sub [4, 5, 6, 7, 8, 9, 3, 2, 1, 0] rfl ?_
      refine wX3_change_59 C hne hl hT hr hn n ?_ n i1 i2 i3 i4 i5 v12 (1 : Int32) (1 : Int32) ((16 : Int32) * i5) u11 hF
      · intro i1 i2 i3 i4 i5 i7 i8 st hF
        refine j_aload_n C dX3_change_145 rfl 0 rfl ?_
        refine m_get0 C in_X3_change_wsX30 4 (by decide) (by decide +kernel) rfl dX3_change_146 ?_
        refine j_sipush (v := (256 : Int32)) C dX3_change_149 (by decide) ?_
        refine j_iload_n C dX3_change_152 rfl 1 rfl ?_
        refine j_imul C dX3_change_153 ?_
        refine j_iload C dX3_change_154 5 rfl ?_
        refine j_iadd C dX3_change_156 ?_
        have b23 := zif_c hF hn
        replace hF := zif_t hF b23
        refine m_iald C (by decide) b23 dX3_change_157 ?_
        refine j_istore (lv' := [(9, .int (st 4 ((((256 : Int32) * i1) + i5)).toNatClampNeg)), (0, .ref (ad 0)), (1, .int i1), (2, .int i2), (3, .int i3), (4, .int i4), (5, .int i5), (7, .int i7), (8, .int i8)]) C dX3_change_158 (by decide) rfl ?_
        refine j_iload C dX3_change_160 7 rfl ?_
        refine j_if_ne (tgt := 191) C dX3_change_162 (by decide) (fun c24 => ?_) (fun c24 => ?_)
        · replace hF := zif_f hF c24
          refine j_sub [1, 2, 3, 4, 5, 6, 7, 8, 0] rfl ?_
          refine wX3_change_191 C hne hl hT hr hn n ?_ i1 i2 i3 i4 i5 i7 i8 (st 4 ((((256 : Int32) * i1) + i5)).toNatClampNeg) st hF
          · intro i1 i2 i3 i4 i5 st hF
            exact ih i1 i2 i3 i4 i5 st hF
        · replace hF := zif_t hF c24
          refine j_iload C dX3_change_165 8 rfl ?_
          refine j_if_ne (tgt := 191) C dX3_change_167 (by decide) (fun c35 => ?_) (fun c35 => ?_)
          · replace hF := zif_f hF c35
            refine j_sub [1, 2, 3, 4, 5, 6, 7, 8, 0] rfl ?_
            refine wX3_change_191 C hne hl hT hr hn n ?_ i1 i2 i3 i4 i5 i7 i8 (st 4 ((((256 : Int32) * i1) + i5)).toNatClampNeg) st hF
            · intro i1 i2 i3 i4 i5 st hF
              exact ih i1 i2 i3 i4 i5 st hF
          · replace hF := zif_t hF c35
            refine j_iload C dX3_change_170 0 rfl ?_
            refine j_iconst (v := ((-1) : Int32)) C dX3_change_172 (by decide) ?_
            refine j_icmp_eq (tgt := 187) C dX3_change_173 (by decide) (fun c36 => ?_) (fun c36 => ?_)
            · replace hF := zif_t hF c36
              refine j_sub [1, 2, 3, 4, 5, 6, 7, 8, 0] rfl ?_
              refine wX3_change_187 C hne hl hT hr hn n ?_ i1 i2 i3 i4 i5 i7 i8 (st 4 ((((256 : Int32) * i1) + i5)).toNatClampNeg) st hF
              · intro i1 i2 i3 i4 i5 st hF
                exact ih i1 i2 i3 i4 i5 st hF
            · replace hF := zif_f hF c36
              refine j_aload_n C dX3_change_176 rfl 1 rfl ?_
              refine m_get0 C in_X3_change_wsX30 5 (by decide) (by decide +kernel) rfl dX3_change_177 ?_
              refine j_iload C dX3_change_180 0 rfl ?_
              have b37 := zif_c hF hn
              replace hF := zif_t hF b37
              refine m_iald C (by decide) b37 dX3_change_182 ?_
              refine j_iconst (v := (1 : Int32)) C dX3_change_183 (by decide) ?_
              refine j_icmp_le (tgt := 191) C dX3_change_184 (by decide) (fun c38 => ?_) (fun c38 => ?_)
              · replace hF := zif_t hF c38
                refine j_sub [1, 2, 3, 4, 5, 6, 7, 8, 0] rfl ?_
                refine wX3_change_191 C hne hl hT hr hn n ?_ i1 i2 i3 i4 i5 i7 i8 (st 4 ((((256 : Int32) * i1) + i5)).toNatClampNeg) st hF
                · intro i1 i2 i3 i4 i5 st hF
                  exact ih i1 i2 i3 i4 i5 st hF
              · replace hF := zif_f hF c38
                refine j_sub [1, 2, 3, 4, 5, 6, 7, 8, 0] rfl ?_
                refine wX3_change_187 C hne hl hT hr hn n ?_ i1 i2 i3 i4 i5 i7 i8 (st 4 ((((256 : Int32) * i1) + i5)).toNatClampNeg) st hF
                · intro i1 i2 i3 i4 i5 st hF
                  exact ih i1 i2 i3 i4 i5 st hF
def fX3_change_10 (n : Nat) (X_315 : Int32 → zS → zF Unit) (X_308 : zS → zF Unit) : Nat → Int32 → Int32 → Int32 → Int32 → zS → zF Unit
  | 0, _, _, _, _, _ => none
  | k + 1, i1, i2, i3, i4, st => (if (2 : Int32) ≤ i4 then X_315 i1 st else fX3_change_19 n (fun (i1 : Int32) (i2 : Int32) (i3 : Int32) (i4 : Int32) (st : zS) => (if i4 = 0 then (if i3 ≤ ((512 : Int32) - i2) then (zb (fX3_refuses n (0 : Int32) (0 : Int32) st) (fun (v42 : Int32) (u41 : zS) => (if v42 = 0 then fX3_change_10 n X_315 X_308 k i1 i2 i3 (i4 + (1 : Int32)) u41 else X_308 u41))) else (zb (fX3_refuses n (0 : Int32) (1 : Int32) st) (fun (v46 : Int32) (u45 : zS) => (if v46 = 0 then fX3_change_10 n X_315 X_308 k i1 i2 i3 (i4 + (1 : Int32)) u45 else X_308 u45)))) else fX3_change_10 n X_315 X_308 k i1 i2 i3 (i4 + (1 : Int32)) st)) n i1 i2 i3 i4 (0 : Int32) st)
set_option maxHeartbeats 4000000 in
set_option maxRecDepth 100000 in
theorem wX3_change_10 (C : zC p s m args meth c cX3_change RX3 wsX3_change D zcl (mty cI cZ) 7 ad 11) (hne : ∀ x ∈ c.exceptionTable.toList, False) (hl : l.stackTraces = false) (hT : mT s.heap.size s) (hr : meth.sig.returnType = none) {F : zF Unit} (hn : F ≠ none) (n : Nat) {X_315 : Int32 → zS → zF Unit} {X_308 : zS → zF Unit} (hX_315 : ∀ (i1 : Int32) (st : zS), X_315 i1 st = F → mJ (fun _ : Unit => none) F 0 0 p l e rmX3_change s m args below meth c D cI cZ ad 11 st 0 0 315 [(0, .ref (ad 0)), (1, .int i1)] []) (hX_308 : ∀  (st : zS), X_308 st = F → mJ (fun _ : Unit => none) F 0 0 p l e rmX3_change s m args below meth c D cI cZ ad 11 st 0 0 308 [] []) : ∀ (k : Nat) (i1 : Int32) (i2 : Int32) (i3 : Int32) (i4 : Int32) (st : zS), fX3_change_10 n X_315 X_308 k i1 i2 i3 i4 st = F → mJ (fun _ : Unit => none) F 0 0 p l e rmX3_change s m args below meth c D cI cZ ad 11 st 0 0 10 [(0, .ref (ad 0)), (1, .int i1), (2, .int i2), (3, .int i3), (4, .int i4)] [] := by
  intro k
  induction k with
  | zero =>
    intro i1 i2 i3 i4 st hF
    exact absurd hF.symm hn
  | succ k ih =>
    intro i1 i2 i3 i4 st hF
    rw [fX3_change_10] at hF
    refine j_iload C dX3_change_10 4 rfl ?_
    refine j_iconst (v := (2 : Int32)) C dX3_change_12 (by decide) ?_
    refine j_icmp_ge (tgt := 315) C dX3_change_13 (by decide) (fun c4 => ?_) (fun c4 => ?_)
    · replace hF := zif_t hF c4
      refine j_sub [0, 1] rfl ?_
      exact hX_315 i1 st hF
    · replace hF := zif_f hF c4
      refine j_iconst (v := (0 : Int32)) C dX3_change_16 (by decide) ?_
      refine j_istore (lv' := [(5, .int (0 : Int32)), (0, .ref (ad 0)), (1, .int i1), (2, .int i2), (3, .int i3), (4, .int i4)]) C dX3_change_17 (by decide) rfl ?_
      refine j_sub [1, 2, 3, 4, 5, 0] rfl ?_
      refine wX3_change_19 C hne hl hT hr hn n ?_ n i1 i2 i3 i4 (0 : Int32) st hF
      · intro i1 i2 i3 i4 st hF
        refine j_iload C dX3_change_281 4 rfl ?_
        refine j_if_ne (tgt := 309) C dX3_change_283 (by decide) (fun c39 => ?_) (fun c39 => ?_)
        · replace hF := zif_f hF c39
          refine j_iinc (lv' := [(4, .int (i4 + (1 : Int32))), (0, .ref (ad 0)), (1, .int i1), (2, .int i2), (3, .int i3)]) C dX3_change_309 4 rfl rfl (by decide) rfl ?_
          refine j_goto (tgt := 10) C dX3_change_312 (by decide) ?_
          refine j_sub [1, 2, 3, 4, 0] rfl ?_
          exact ih i1 i2 i3 (i4 + (1 : Int32)) st hF
        · replace hF := zif_t hF c39
          refine j_aload_n C dX3_change_286 rfl 0 rfl ?_
          refine j_iconst (v := (0 : Int32)) C dX3_change_287 (by decide) ?_
          refine j_iload_n C dX3_change_288 rfl 3 rfl ?_
          refine j_sipush (v := (512 : Int32)) C dX3_change_289 (by decide) ?_
          refine j_iload_n C dX3_change_292 rfl 2 rfl ?_
          refine j_isub C dX3_change_293 ?_
          refine j_icmp_le (tgt := 301) C dX3_change_294 (by decide) (fun c40 => ?_) (fun c40 => ?_)
          · replace hF := zif_t hF c40
            refine j_iconst (v := (0 : Int32)) C dX3_change_301 (by decide) ?_
            refine j_callVi C hne mT_S hT (q0 := 0) (As := [.int (0 : Int32), .int (0 : Int32)]) (rest := []) (kX3_refuses hl n (0 : Int32) (0 : Int32) st (zb_n hF hn)) (cwV 2 C.1.2.2.2.2 gX3_change_X3_refuses rfl rfl rfl (by decide +kernel) ⟨(Nat.le_of_ble_eq_true rfl), (Nat.le_of_ble_eq_true rfl)⟩) (by decide) mce_0 rfl rfl rfl (Nat.le_of_ble_eq_true rfl) dX3_change_302 ⟨(Nat.le_of_ble_eq_true rfl), (Nat.le_of_ble_eq_true rfl)⟩ (fun _ _ h9 => zb_x hF h9) (Nat.le_of_ble_eq_true rfl) (Nat.le_of_ble_eq_true rfl) (fun v42 u41 h43 => ?_)
            replace hF := zb_l hF h43
            refine j_if_eq (tgt := 309) C dX3_change_305 (by decide) (fun c44 => ?_) (fun c44 => ?_)
            · replace hF := zif_t hF c44
              refine j_iinc (lv' := [(4, .int (i4 + (1 : Int32))), (0, .ref (ad 0)), (1, .int i1), (2, .int i2), (3, .int i3)]) C dX3_change_309 4 rfl rfl (by decide) rfl ?_
              refine j_goto (tgt := 10) C dX3_change_312 (by decide) ?_
              refine j_sub [1, 2, 3, 4, 0] rfl ?_
              exact ih i1 i2 i3 (i4 + (1 : Int32)) u41 hF
            · replace hF := zif_f hF c44
              refine j_sub [] rfl ?_
              exact hX_308 u41 hF
          · replace hF := zif_f hF c40
            refine j_iconst (v := (1 : Int32)) C dX3_change_297 (by decide) ?_
            refine j_goto (tgt := 302) C dX3_change_298 (by decide) ?_
            refine j_callVi C hne mT_S hT (q0 := 0) (As := [.int (0 : Int32), .int (1 : Int32)]) (rest := []) (kX3_refuses hl n (0 : Int32) (1 : Int32) st (zb_n hF hn)) (cwV 2 C.1.2.2.2.2 gX3_change_X3_refuses rfl rfl rfl (by decide +kernel) ⟨(Nat.le_of_ble_eq_true rfl), (Nat.le_of_ble_eq_true rfl)⟩) (by decide) mce_0 rfl rfl rfl (Nat.le_of_ble_eq_true rfl) dX3_change_302 ⟨(Nat.le_of_ble_eq_true rfl), (Nat.le_of_ble_eq_true rfl)⟩ (fun _ _ h9 => zb_x hF h9) (Nat.le_of_ble_eq_true rfl) (Nat.le_of_ble_eq_true rfl) (fun v46 u45 h47 => ?_)
            replace hF := zb_l hF h47
            refine j_if_eq (tgt := 309) C dX3_change_305 (by decide) (fun c48 => ?_) (fun c48 => ?_)
            · replace hF := zif_t hF c48
              refine j_iinc (lv' := [(4, .int (i4 + (1 : Int32))), (0, .ref (ad 0)), (1, .int i1), (2, .int i2), (3, .int i3)]) C dX3_change_309 4 rfl rfl (by decide) rfl ?_
              refine j_goto (tgt := 10) C dX3_change_312 (by decide) ?_
              refine j_sub [1, 2, 3, 4, 0] rfl ?_
              exact ih i1 i2 i3 (i4 + (1 : Int32)) u45 hF
            · replace hF := zif_f hF c48
              refine j_sub [] rfl ?_
              exact hX_308 u45 hF
def fX3_change_318 (n : Nat) (X_355 : zS → zF Unit) : Nat → Int32 → Int32 → zS → zF Unit
  | 0, _, _, _ => none
  | k + 1, i1, i4, st => (if inb i1 (ml 2) then (if (st 2 (i1).toNatClampNeg) ≤ i4 then X_355 st else (if inb i4 (ml 6) then (if inb (((4096 : Int32) * i1) + i4) (ml 3) then (zl (upA st 3 (upd (st 3) ((((4096 : Int32) * i1) + i4)).toNatClampNeg (st 6 (i4).toNatClampNeg))) (fun (s53 : zS) => fX3_change_318 n X_355 k i1 (i4 + (1 : Int32)) s53)) else none) else none)) else none)
set_option maxHeartbeats 4000000 in
set_option maxRecDepth 100000 in
theorem wX3_change_318 (C : zC p s m args meth c cX3_change RX3 wsX3_change D zcl (mty cI cZ) 7 ad 11) (hne : ∀ x ∈ c.exceptionTable.toList, False) (hl : l.stackTraces = false) (hT : mT s.heap.size s) (hr : meth.sig.returnType = none) {F : zF Unit} (hn : F ≠ none) (n : Nat) {X_355 : zS → zF Unit} (hX_355 : ∀  (st : zS), X_355 st = F → mJ (fun _ : Unit => none) F 0 0 p l e rmX3_change s m args below meth c D cI cZ ad 11 st 0 0 355 [] []) : ∀ (k : Nat) (i1 : Int32) (i4 : Int32) (st : zS), fX3_change_318 n X_355 k i1 i4 st = F → mJ (fun _ : Unit => none) F 0 0 p l e rmX3_change s m args below meth c D cI cZ ad 11 st 0 0 318 [(0, .ref (ad 0)), (1, .int i1), (4, .int i4)] [] := by
  intro k
  induction k with
  | zero =>
    intro i1 i4 st hF
    exact absurd hF.symm hn
  | succ k ih =>
    intro i1 i4 st hF
    rw [fX3_change_318] at hF
    refine j_iload C dX3_change_318 2 rfl ?_
    refine j_aload_n C dX3_change_320 rfl 0 rfl ?_
    refine m_get0 C in_X3_change_wsX30 2 (by decide) (by decide +kernel) rfl dX3_change_321 ?_
    refine j_iload_n C dX3_change_324 rfl 1 rfl ?_
    have b49 := zif_c hF hn
    replace hF := zif_t hF b49
    refine m_iald C (by decide) b49 dX3_change_325 ?_
    refine j_icmp_ge (tgt := 355) C dX3_change_326 (by decide) (fun c50 => ?_) (fun c50 => ?_)
    · replace hF := zif_t hF c50
      refine j_sub [] rfl ?_
      exact hX_355 st hF
    · replace hF := zif_f hF c50
      refine j_aload_n C dX3_change_329 rfl 0 rfl ?_
      refine m_get0 C in_X3_change_wsX30 3 (by decide) (by decide +kernel) rfl dX3_change_330 ?_
      refine j_sipush (v := (4096 : Int32)) C dX3_change_333 (by decide) ?_
      refine j_iload_n C dX3_change_336 rfl 1 rfl ?_
      refine j_imul C dX3_change_337 ?_
      refine j_iload C dX3_change_338 2 rfl ?_
      refine j_iadd C dX3_change_340 ?_
      refine j_aload_n C dX3_change_341 rfl 0 rfl ?_
      refine m_get0 C in_X3_change_wsX30 7 (by decide) (by decide +kernel) rfl dX3_change_342 ?_
      refine j_iload C dX3_change_345 2 rfl ?_
      have b51 := zif_c hF hn
      replace hF := zif_t hF b51
      refine m_iald C (by decide) b51 dX3_change_347 ?_
      have b52 := zif_c hF hn
      replace hF := zif_t hF b52
      refine m_iast C (by decide) b52 dX3_change_348 ?_
      obtain ⟨s53, es53, hF⟩ := zl_e hF
      rw [← es53]
      refine j_iinc (lv' := [(4, .int (i4 + (1 : Int32))), (0, .ref (ad 0)), (1, .int i1)]) C dX3_change_349 2 rfl rfl (by decide) rfl ?_
      refine j_goto (tgt := 318) C dX3_change_352 (by decide) ?_
      refine j_sub [1, 2, 0] rfl ?_
      exact ih i1 (i4 + (1 : Int32)) s53 hF
def fX3_change (n : Nat) (i1 : Int32) (st : zS) : zF Unit := (zb (fX3_countAll n  st) (fun (v2 : Int32) (u1 : zS) => fX3_change_10 n (fun (i1 : Int32) (st : zS) => fX3_change_318 n (fun  (st : zS) => some (.inl (), st)) n i1 (0 : Int32) st) (fun  (st : zS) => some (.inl (), st)) n i1 v2 (0 : Int32) (0 : Int32) u1))
set_option maxHeartbeats 4000000 in
set_option maxRecDepth 100000 in
theorem kX3_change (hl : l.stackTraces = false) (n : Nat) (i1 : Int32) (st : zS) (hn : fX3_change n i1 st ≠ none) : zM (fun _ : Unit => none) l yX3_change wsX3_change rmX3_change D zcl (mty cI cZ) 7 ad (mce cI cZ ad) mT 0 0 [.ref (ad 0), .int i1] st (fX3_change n i1 st) := by
  refine z_ofJ (cc := cX3_change) (maxL := 11) (ret := none) (lv := [(0, .ref (ad 0)), (1, .int i1)]) (by decide) rfl (Nat.le_of_ble_eq_true rfl) rfl ?_
  intro p e s m args below meth c C hne hT hr
  obtain ⟨F, hFe⟩ : ∃ F, F = fX3_change n i1 st := ⟨_, rfl⟩
  rw [← hFe] at hn ⊢
  have hF : fX3_change n i1 st = F := hFe.symm
  clear hFe
  unfold fX3_change at hF
  have C : zC p s m args meth c cX3_change RX3 wsX3_change D zcl (mty cI cZ) 7 ad 11 := C
  refine j_aload_n C dX3_change_0 rfl 0 rfl ?_
  refine j_callVi C hne mT_S hT (q0 := 0) (As := []) (rest := []) (kX3_countAll hl n  st (zb_n hF hn)) (cwV 0 C.1.2.2.2.2 gX3_change_X3_countAll rfl rfl rfl (by decide +kernel) ⟨(Nat.le_of_ble_eq_true rfl), (Nat.le_of_ble_eq_true rfl)⟩) (by decide) mce_0 rfl rfl rfl (Nat.le_of_ble_eq_true rfl) dX3_change_1 ⟨(Nat.le_of_ble_eq_true rfl), (Nat.le_of_ble_eq_true rfl)⟩ (fun _ _ h9 => zb_x hF h9) (Nat.le_of_ble_eq_true rfl) (Nat.le_of_ble_eq_true rfl) (fun v2 u1 h3 => ?_)
  replace hF := zb_l hF h3
  refine j_istore_n (lv' := [(2, .int v2), (0, .ref (ad 0)), (1, .int i1)]) C dX3_change_4 rfl (by decide) rfl ?_
  refine j_iconst (v := (0 : Int32)) C dX3_change_5 (by decide) ?_
  refine j_istore_n (lv' := [(3, .int (0 : Int32)), (2, .int v2), (0, .ref (ad 0)), (1, .int i1)]) C dX3_change_6 rfl (by decide) rfl ?_
  refine j_iconst (v := (0 : Int32)) C dX3_change_7 (by decide) ?_
  refine j_istore (lv' := [(4, .int (0 : Int32)), (3, .int (0 : Int32)), (2, .int v2), (0, .ref (ad 0)), (1, .int i1)]) C dX3_change_8 (by decide) rfl ?_
  refine j_sub [3, 4, 2, 1, 0] rfl ?_
  refine wX3_change_10 C hne hl hT hr hn n ?_ ?_ n i1 v2 (0 : Int32) (0 : Int32) u1 hF
  · intro i1 st hF
    refine j_iconst (v := (0 : Int32)) C dX3_change_315 (by decide) ?_
    refine j_istore (lv' := [(4, .int (0 : Int32)), (0, .ref (ad 0)), (1, .int i1)]) C dX3_change_316 (by decide) rfl ?_
    refine j_sub [1, 2, 0] rfl ?_
    refine wX3_change_318 C hne hl hT hr hn n ?_ n i1 (0 : Int32) st hF
    · intro  st hF
      exact j_vret C hr hF (Nat.le_of_ble_eq_true rfl) (Nat.le_of_ble_eq_true rfl) dX3_change_355
  · intro  st hF
    exact j_vret C hr hF (Nat.le_of_ble_eq_true rfl) (Nat.le_of_ble_eq_true rfl) dX3_change_308
end
