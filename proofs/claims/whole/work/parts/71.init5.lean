/-! the class's constructor -/
def rmSL : Room := { frames := 16, cells := 56, slots := 25941, locals := 400 }
set_option maxHeartbeats 1000000 in
set_option maxRecDepth 100000 in
theorem c_SL (l : Launch) (D : va_G) (cI : ClassId) (q0 sz : Nat) : Met l yX2_init wsX2_init rmSL (va_Pc [.ref q0] (fun U => U.heap.size = sz ∧ va_P D zcl (wS0 q0) U.heap ∧ va_K D zcl [(cI, .int)] U ∧ va_D (fun _ => True) (wS0 q0) ∧ va_AO RX1 U))
    (va_Qv (fun u : (Nat → Nat) × ClassId × zS => Ini u.2.2) (fun u t => u.1 0 = q0 ∧ va_K D zcl (zty cI u.2.1) t ∧ va_P D zcl (zw 57 u.1 (sce cI u.2.1 u.1 u.2.2)) t.heap ∧ va_D (va_A (wS0 q0) sz) (zw 57 u.1 (sce cI u.2.1 u.1 u.2.2))) (va_A (wS0 q0) sz)) 56 25941 (va_A (wS0 q0) sz) := by
  refine Met.ofW (cc := cX2_init) (maxL := 2) (ret := none) (by decide) rfl ?_
  intro p e s m args below meth c s₁ B hml hv
  obtain ⟨rfl, hsz, hP, hK, hD0, hAO⟩ := hv
  have hx := B.exec
  have hb := B.bytes
  have hr := B.returns
  have hts := atoms_spec (ws := wsX2_init) B.pre
  have hown : s.vm.findClass RX2 = some m.cls := findClass_of_methodNamed B.named
  have hlocks := B.notSynchronized
  have hin : meth.name = "<init>" := (name_of_methodNamed B.named B.method).1
  subst hsz
  have hD := hD0.self (sz := s.heap.size)
  generalize hAe : va_A (wS0 q0) s.heap.size = A at hD ⊢
  have hA : ∀ q : Nat, s.heap.size ≤ q → A q := fun q h => by rw [← hAe]; exact Or.inr h
  have hS : va_S A s.heap s.heap [] := va_S.rf
  have hl := lv_entry ([.ref q0]) (n := 2) (Nat.le_of_ble_eq_true rfl)
  rw [lg_entry_eq]
  generalize (lg_sl ([.ref q0]) ++ List.replicate (2 - (lg_sl ([.ref q0])).length) Slot.unset).toArray = ls at hl ⊢
  have hl : lv_has ls 2 [(0, .ref q0)] := hl
  refine lv_aload_n hx hb dX2_init_0 rfl (lv_at hl 0 rfl) ?_
  refine W.objInit hx hb hown (hts (.methodLink RX2 1 objectInit) (by decide +kernel)) (hts (.instanceMethod objectInit) (by decide +kernel)) (hts _ (List.mem_cons_of_mem _ (List.mem_append_left _ (List.mem_append_left _ (List.mem_append_left _ (List.mem_append_left _ (List.mem_of_getElem? (i := 2) rfl))))))) rfl (by rw [hml]; exact hl.1) rfl dX2_init_1 (Nat.le_of_ble_eq_true rfl) (Nat.le_of_ble_eq_true rfl) ?_
  refine W.eq (g2 := F0 m 4 ls []) rfl ?_
  refine lv_aload_n hx hb dX2_init_4 rfl (lv_at hl 0 rfl) ?_
  refine lv_bipush (v := nI 16) hx hb dX2_init_5 (by decide) ?_
  refine va_newq (N' := 16) hx hb hown (hts (.classLink RX2 9 RX1) (by decide +kernel)) hAO hK hP hD hS hA (nI_nn (by omega)) (ncl (by omega)) (by show 16 * 4 ≤ 536870912; decide) (Nat.le_of_ble_eq_true rfl) (Nat.le_of_ble_eq_true rfl) dX2_init_7 (fun r cR H hK hP hD hS => ?_)
  have hK : va_K D zcl [(cI, .int), (cR, .object RX1)] s := hK
  have hP : va_P D zcl [(q0, .inr (2, [.null, .null, .null, .null, .null])), (r, .inl (cR, 16, .inr (.inr (.inr (.inr (fun _ => none))))))] H := hP
  have hD : va_D A [(q0, .inr (2, [.null, .null, .null, .null, .null])), (r, .inl (cR, 16, .inr (.inr (.inr (.inr (fun _ => none))))))] := hD
  refine va_putF (D := D) (ci := 2) (v := .ref r) (ty := .array (.object "SharedLeaves$Row")) (C := RX2) (T := TX2) (N := 5) hx hb hts (by decide +kernel) tyX2 tyX2_ok nmX2 hown hK hP hD hS 0 rfl rfl 0 (by decide) (hts (.fieldLink RX2 11 "SharedLeaves" "rows" "[LSharedLeaves$Row;") (by decide +kernel)) (fun _ h9 => h9) rfl hin rfl (by decide +kernel) rfl rfl (Nat.le_of_ble_eq_true rfl) dX2_init_10 (fun H locs hP hD hS => ?_)
  have hP : va_P D zcl [(q0, .inr (2, [.ref r, .null, .null, .null, .null])), (r, .inl (cR, 16, .inr (.inr (.inr (.inr (fun _ => none))))))] H := hP
  have hD : va_D A [(q0, .inr (2, [.ref r, .null, .null, .null, .null])), (r, .inl (cR, 16, .inr (.inr (.inr (.inr (fun _ => none))))))] := hD
  refine lv_aload_n hx hb dX2_init_13 rfl (lv_at hl 0 rfl) ?_
  refine va_new (ci := 0) (fs := [.null, .null, .null, .int 0, .int 0]) (C := RX0) (T := TX0) (N := 5) hx hb hts (by decide +kernel) tyX0 tyX0_ok hown (hts (.classLink RX2 15 RX0) (by decide +kernel)) (hts (.instantiable RX0 5) (by decide +kernel)) (hts (.initialized RX0) (by decide +kernel)) hK hP hD hS hA rfl (fun j hj => by rcases (show j = 0 ∨ j = 1 ∨ j = 2 ∨ j = 3 ∨ j = 4 by omega) with rfl | rfl | rfl | rfl | rfl <;> rfl) (Nat.le_of_ble_eq_true rfl) (Nat.le_of_ble_eq_true rfl) dX2_init_14 (fun b0 H hP hD hS => ?_)
  refine lv_dup hx hb dX2_init_17 rfl ?_
  have hFc := va_free1 hD hS hA
  refine va_callv (va_runI (As := []) (rest := [.ref b0, .ref q0]) ⟨hx, hb, hml, hown, hts⟩ (c_Places l D cI b0 H.size) (cwI 0 hts gX2_init_X0_init rfl rfl rfl (hts (.initialized RX0) (by decide +kernel)) (hts (.methodLink RX2 17 yX0_init) (by decide +kernel)) (hts (.instanceMethod yX0_init) (by decide +kernel)) rfl (by decide +kernel) ⟨Nat.le_of_ble_eq_true rfl, Nat.le_of_ble_eq_true rfl⟩) ⟨fun a U g mk q => by obtain ⟨q0, q1, qP, qK, qD⟩ := q; exact ⟨q0, q1, qP, va_K.moved (u := U) (U := U.calling g mk a) (Vm.Alike.refl U.vm) qK, qD⟩, fun U hU hW => ⟨rfl, by rw [hU], by rw [hU]; exact va_P1 hP, va_K.moved hW.alike (hK.sub (tys' := [(cI, .int)]) [0] rfl), va_D1 trivial⟩⟩ rfl rfl hl.1 rfl (lv_room (Nat.le_of_ble_eq_true rfl)) dX2_init_18 ⟨Nat.le_of_ble_eq_true rfl, Nat.le_of_ble_eq_true rfl⟩) hS (fun q _ h => hFc q h) hFc (fun u t H1 locs ht hvm _ hB hz1 hk1 hS => ?_)
  obtain ⟨⟨b1, b2, b3⟩, fr⟩ := u
  obtain ⟨hfr, hP1, hD1⟩ := hB
  rw [ht] at hP1
  obtain ⟨hP, hD⟩ := va_glue hP hD hk1 hFc hP1 hD1
  generalize H1 = H at hP hS ⊢
  dsimp only at hfr
  have hP : va_P D zcl [(q0, .inr (2, [.ref r, .null, .null, .null, .null])), (r, .inl (cR, 16, .inr (.inr (.inr (.inr (fun _ => none)))))), (b0, .inr (0, [.ref b1, .ref b2, .ref b3, .int (nI 512), .int 0])), (b1, .inl (cI, 8192, .inl (fun _ => 0))), (b2, .inl (cI, 512, .inl (fun _ => 0))), (b3, .inl (cI, 512, .inl fr))] H := hP
  have hD : va_D A [(q0, .inr (2, [.ref r, .null, .null, .null, .null])), (r, .inl (cR, 16, .inr (.inr (.inr (.inr (fun _ => none)))))), (b0, .inr (0, [.ref b1, .ref b2, .ref b3, .int (nI 512), .int 0])), (b1, .inl (cI, 8192, .inl (fun _ => 0))), (b2, .inl (cI, 512, .inl (fun _ => 0))), (b3, .inl (cI, 512, .inl fr))] := hD
  refine va_putF (D := D) (ci := 2) (v := .ref b0) (ty := .object "SharedLeaves$Places") (C := RX2) (T := TX2) (N := 5) hx hb hts (by decide +kernel) tyX2 tyX2_ok nmX2 hown hK hP hD hS 0 rfl rfl 1 (by decide) (hts (.fieldLink RX2 18 "SharedLeaves" "places" "LSharedLeaves$Places;") (by decide +kernel)) (fun _ h9 => h9) rfl hin rfl (by decide +kernel) rfl rfl (Nat.le_of_ble_eq_true rfl) dX2_init_21 (fun H locs hP hD hS => ?_)
  have hP : va_P D zcl [(q0, .inr (2, [.ref r, .ref b0, .null, .null, .null])), (r, .inl (cR, 16, .inr (.inr (.inr (.inr (fun _ => none)))))), (b0, .inr (0, [.ref b1, .ref b2, .ref b3, .int (nI 512), .int 0])), (b1, .inl (cI, 8192, .inl (fun _ => 0))), (b2, .inl (cI, 512, .inl (fun _ => 0))), (b3, .inl (cI, 512, .inl fr))] H := hP
  have hD : va_D A [(q0, .inr (2, [.ref r, .ref b0, .null, .null, .null])), (r, .inl (cR, 16, .inr (.inr (.inr (.inr (fun _ => none)))))), (b0, .inr (0, [.ref b1, .ref b2, .ref b3, .int (nI 512), .int 0])), (b1, .inl (cI, 8192, .inl (fun _ => 0))), (b2, .inl (cI, 512, .inl (fun _ => 0))), (b3, .inl (cI, 512, .inl fr))] := hD
  refine lv_aload_n hx hb dX2_init_24 rfl (lv_at hl 0 rfl) ?_
  refine lv_sipush (v := nI 4096) hx hb dX2_init_25 (by decide) ?_
  refine va_newa (ty := .int) (N' := 4096) (atype := .int) (a0 := (4096, .inl (fun _ => 0))) hx hb (hts (.arrayClass .int) (by decide +kernel)) rfl hK hP hD hS hA (fun cA => vp_cell_i cA 4096 (fun _ => 0)) (nI_nn (by omega)) (ncl (by omega)) (by show 4096 * 4 ≤ 536870912; decide) (Nat.le_of_ble_eq_true rfl) (Nat.le_of_ble_eq_true rfl) dX2_init_28 (fun x1 cx1 H hK1 hP hD hS => ?_)
  obtain rfl : cI = cx1 := ka_eq hK1 0 2 rfl rfl
  have hP : va_P D zcl [(q0, .inr (2, [.ref r, .ref b0, .null, .null, .null])), (r, .inl (cR, 16, .inr (.inr (.inr (.inr (fun _ => none)))))), (b0, .inr (0, [.ref b1, .ref b2, .ref b3, .int (nI 512), .int 0])), (b1, .inl (cI, 8192, .inl (fun _ => 0))), (b2, .inl (cI, 512, .inl (fun _ => 0))), (b3, .inl (cI, 512, .inl fr)), (x1, .inl (cI, 4096, .inl (fun _ => 0)))] H := hP
  have hD : va_D A [(q0, .inr (2, [.ref r, .ref b0, .null, .null, .null])), (r, .inl (cR, 16, .inr (.inr (.inr (.inr (fun _ => none)))))), (b0, .inr (0, [.ref b1, .ref b2, .ref b3, .int (nI 512), .int 0])), (b1, .inl (cI, 8192, .inl (fun _ => 0))), (b2, .inl (cI, 512, .inl (fun _ => 0))), (b3, .inl (cI, 512, .inl fr)), (x1, .inl (cI, 4096, .inl (fun _ => 0)))] := hD
  refine va_putF (D := D) (ci := 2) (v := .ref x1) (ty := .array .int) (C := RX2) (T := TX2) (N := 5) hx hb hts (by decide +kernel) tyX2 tyX2_ok nmX2 hown hK hP hD hS 0 rfl rfl 2 (by decide) (hts (.fieldLink RX2 22 "SharedLeaves" "next" "[I") (by decide +kernel)) (fun _ h9 => h9) rfl hin rfl (by decide +kernel) rfl rfl (Nat.le_of_ble_eq_true rfl) dX2_init_30 (fun H locs hP hD hS => ?_)
  have hP : va_P D zcl [(q0, .inr (2, [.ref r, .ref b0, .ref x1, .null, .null])), (r, .inl (cR, 16, .inr (.inr (.inr (.inr (fun _ => none)))))), (b0, .inr (0, [.ref b1, .ref b2, .ref b3, .int (nI 512), .int 0])), (b1, .inl (cI, 8192, .inl (fun _ => 0))), (b2, .inl (cI, 512, .inl (fun _ => 0))), (b3, .inl (cI, 512, .inl fr)), (x1, .inl (cI, 4096, .inl (fun _ => 0)))] H := hP
  have hD : va_D A [(q0, .inr (2, [.ref r, .ref b0, .ref x1, .null, .null])), (r, .inl (cR, 16, .inr (.inr (.inr (.inr (fun _ => none)))))), (b0, .inr (0, [.ref b1, .ref b2, .ref b3, .int (nI 512), .int 0])), (b1, .inl (cI, 8192, .inl (fun _ => 0))), (b2, .inl (cI, 512, .inl (fun _ => 0))), (b3, .inl (cI, 512, .inl fr)), (x1, .inl (cI, 4096, .inl (fun _ => 0)))] := hD
  refine lv_aload_n hx hb dX2_init_33 rfl (lv_at hl 0 rfl) ?_
  refine lv_sipush (v := nI 4096) hx hb dX2_init_34 (by decide) ?_
  refine va_newa (ty := .int) (N' := 4096) (atype := .int) (a0 := (4096, .inl (fun _ => 0))) hx hb (hts (.arrayClass .int) (by decide +kernel)) rfl hK hP hD hS hA (fun cA => vp_cell_i cA 4096 (fun _ => 0)) (nI_nn (by omega)) (ncl (by omega)) (by show 4096 * 4 ≤ 536870912; decide) (Nat.le_of_ble_eq_true rfl) (Nat.le_of_ble_eq_true rfl) dX2_init_37 (fun x2 cx2 H hK1 hP hD hS => ?_)
  obtain rfl : cI = cx2 := ka_eq hK1 0 2 rfl rfl
  have hP : va_P D zcl [(q0, .inr (2, [.ref r, .ref b0, .ref x1, .null, .null])), (r, .inl (cR, 16, .inr (.inr (.inr (.inr (fun _ => none)))))), (b0, .inr (0, [.ref b1, .ref b2, .ref b3, .int (nI 512), .int 0])), (b1, .inl (cI, 8192, .inl (fun _ => 0))), (b2, .inl (cI, 512, .inl (fun _ => 0))), (b3, .inl (cI, 512, .inl fr)), (x1, .inl (cI, 4096, .inl (fun _ => 0))), (x2, .inl (cI, 4096, .inl (fun _ => 0)))] H := hP
  have hD : va_D A [(q0, .inr (2, [.ref r, .ref b0, .ref x1, .null, .null])), (r, .inl (cR, 16, .inr (.inr (.inr (.inr (fun _ => none)))))), (b0, .inr (0, [.ref b1, .ref b2, .ref b3, .int (nI 512), .int 0])), (b1, .inl (cI, 8192, .inl (fun _ => 0))), (b2, .inl (cI, 512, .inl (fun _ => 0))), (b3, .inl (cI, 512, .inl fr)), (x1, .inl (cI, 4096, .inl (fun _ => 0))), (x2, .inl (cI, 4096, .inl (fun _ => 0)))] := hD
  refine va_putF (D := D) (ci := 2) (v := .ref x2) (ty := .array .int) (C := RX2) (T := TX2) (N := 5) hx hb hts (by decide +kernel) tyX2 tyX2_ok nmX2 hown hK hP hD hS 0 rfl rfl 3 (by decide) (hts (.fieldLink RX2 26 "SharedLeaves" "spare" "[I") (by decide +kernel)) (fun _ h9 => h9) rfl hin rfl (by decide +kernel) rfl rfl (Nat.le_of_ble_eq_true rfl) dX2_init_39 (fun H locs hP hD hS => ?_)
  have hP : va_P D zcl [(q0, .inr (2, [.ref r, .ref b0, .ref x1, .ref x2, .null])), (r, .inl (cR, 16, .inr (.inr (.inr (.inr (fun _ => none)))))), (b0, .inr (0, [.ref b1, .ref b2, .ref b3, .int (nI 512), .int 0])), (b1, .inl (cI, 8192, .inl (fun _ => 0))), (b2, .inl (cI, 512, .inl (fun _ => 0))), (b3, .inl (cI, 512, .inl fr)), (x1, .inl (cI, 4096, .inl (fun _ => 0))), (x2, .inl (cI, 4096, .inl (fun _ => 0)))] H := hP
  have hD : va_D A [(q0, .inr (2, [.ref r, .ref b0, .ref x1, .ref x2, .null])), (r, .inl (cR, 16, .inr (.inr (.inr (.inr (fun _ => none)))))), (b0, .inr (0, [.ref b1, .ref b2, .ref b3, .int (nI 512), .int 0])), (b1, .inl (cI, 8192, .inl (fun _ => 0))), (b2, .inl (cI, 512, .inl (fun _ => 0))), (b3, .inl (cI, 512, .inl fr)), (x1, .inl (cI, 4096, .inl (fun _ => 0))), (x2, .inl (cI, 4096, .inl (fun _ => 0)))] := hD
  refine lv_aload_n hx hb dX2_init_42 rfl (lv_at hl 0 rfl) ?_
  refine lv_sipush (v := nI 256) hx hb dX2_init_43 (by decide) ?_
  refine va_newa (ty := .int) (N' := 256) (atype := .int) (a0 := (256, .inl (fun _ => 0))) hx hb (hts (.arrayClass .int) (by decide +kernel)) rfl hK hP hD hS hA (fun cA => vp_cell_i cA 256 (fun _ => 0)) (nI_nn (by omega)) (ncl (by omega)) (by show 256 * 4 ≤ 536870912; decide) (Nat.le_of_ble_eq_true rfl) (Nat.le_of_ble_eq_true rfl) dX2_init_46 (fun x3 cx3 H hK1 hP hD hS => ?_)
  obtain rfl : cI = cx3 := ka_eq hK1 0 2 rfl rfl
  have hP : va_P D zcl [(q0, .inr (2, [.ref r, .ref b0, .ref x1, .ref x2, .null])), (r, .inl (cR, 16, .inr (.inr (.inr (.inr (fun _ => none)))))), (b0, .inr (0, [.ref b1, .ref b2, .ref b3, .int (nI 512), .int 0])), (b1, .inl (cI, 8192, .inl (fun _ => 0))), (b2, .inl (cI, 512, .inl (fun _ => 0))), (b3, .inl (cI, 512, .inl fr)), (x1, .inl (cI, 4096, .inl (fun _ => 0))), (x2, .inl (cI, 4096, .inl (fun _ => 0))), (x3, .inl (cI, 256, .inl (fun _ => 0)))] H := hP
  have hD : va_D A [(q0, .inr (2, [.ref r, .ref b0, .ref x1, .ref x2, .null])), (r, .inl (cR, 16, .inr (.inr (.inr (.inr (fun _ => none)))))), (b0, .inr (0, [.ref b1, .ref b2, .ref b3, .int (nI 512), .int 0])), (b1, .inl (cI, 8192, .inl (fun _ => 0))), (b2, .inl (cI, 512, .inl (fun _ => 0))), (b3, .inl (cI, 512, .inl fr)), (x1, .inl (cI, 4096, .inl (fun _ => 0))), (x2, .inl (cI, 4096, .inl (fun _ => 0))), (x3, .inl (cI, 256, .inl (fun _ => 0)))] := hD
  refine va_putF (D := D) (ci := 2) (v := .ref x3) (ty := .array .int) (C := RX2) (T := TX2) (N := 5) hx hb hts (by decide +kernel) tyX2 tyX2_ok nmX2 hown hK hP hD hS 0 rfl rfl 4 (by decide) (hts (.fieldLink RX2 29 "SharedLeaves" "plans" "[I") (by decide +kernel)) (fun _ h9 => h9) rfl hin rfl (by decide +kernel) rfl rfl (Nat.le_of_ble_eq_true rfl) dX2_init_48 (fun H locs hP hD hS => ?_)
  have hP : va_P D zcl [(q0, .inr (2, [.ref r, .ref b0, .ref x1, .ref x2, .ref x3])), (r, .inl (cR, 16, .inr (.inr (.inr (.inr (fun _ => none)))))), (b0, .inr (0, [.ref b1, .ref b2, .ref b3, .int (nI 512), .int 0])), (b1, .inl (cI, 8192, .inl (fun _ => 0))), (b2, .inl (cI, 512, .inl (fun _ => 0))), (b3, .inl (cI, 512, .inl fr)), (x1, .inl (cI, 4096, .inl (fun _ => 0))), (x2, .inl (cI, 4096, .inl (fun _ => 0))), (x3, .inl (cI, 256, .inl (fun _ => 0)))] H := hP
  have hD : va_D A [(q0, .inr (2, [.ref r, .ref b0, .ref x1, .ref x2, .ref x3])), (r, .inl (cR, 16, .inr (.inr (.inr (.inr (fun _ => none)))))), (b0, .inr (0, [.ref b1, .ref b2, .ref b3, .int (nI 512), .int 0])), (b1, .inl (cI, 8192, .inl (fun _ => 0))), (b2, .inl (cI, 512, .inl (fun _ => 0))), (b3, .inl (cI, 512, .inl fr)), (x1, .inl (cI, 4096, .inl (fun _ => 0))), (x2, .inl (cI, 4096, .inl (fun _ => 0))), (x3, .inl (cI, 256, .inl (fun _ => 0)))] := hD
  refine lv_iconst (v := nI 0) hx hb dX2_init_51 (by decide) ?_
  refine lv_istore_n (lv' := [(1, .int (nI 0)), (0, .ref q0)]) hx hb dX2_init_52 rfl hl (by decide) rfl (fun ls hl => ?_)
  have loop : ∀ (d i : Nat) (f : Nat → Option Nat) (ra pa na : Nat → Nat) (mf : Nat → Nat → Int32) (H : Heap) (locs : List Loc) (ls : Array Slot), 16 - i < d → i ≤ 16 → (∀ j, j < i → f j = some (ra j)) → (∀ j, j < i → ∀ k, k < 256 → mf j k = M1) → va_P D zcl (wS9 cI cR q0 r b0 b1 b2 b3 x1 x2 x3 fr f ++ plR cI ra pa na mf i) H → va_D A (wS9 cI cR q0 r b0 b1 b2 b3 x1 x2 x3 fr f ++ plR cI ra pa na mf i) → va_S A s.heap H locs → lv_has ls 2 [(1, .int (nI i)), (0, .ref q0)] →
      W p l e (headSpec wsX2_init rmSL).room s m (([.ref q0] : List Value).toArray) below meth c H locs (8 + 3 * i) (17685 + 516 * i) (MQ below (va_Qv (fun u : (Nat → Nat) × ClassId × zS => Ini u.2.2) (fun u t => u.1 0 = q0 ∧ va_K D zcl (zty cI u.2.1) t ∧ va_P D zcl (zw 57 u.1 (sce cI u.2.1 u.1 u.2.2)) t.heap ∧ va_D (A) (zw 57 u.1 (sce cI u.2.1 u.1 u.2.2))) A) (([.ref q0] : List Value).toArray) s 56 25941 A) (F0 m 53 ls []) := by
    intro d
    induction d with
    | zero => intro i f ra pa na mf H locs ls h; omega
    | succ d ih =>
      intro i f ra pa na mf H locs ls hd hi hf hmf hP hD hS hl
      have hRc : (headSpec wsX2_init rmSL).room.cells = 56 := rfl
      have hRs : (headSpec wsX2_init rmSL).room.slots = 25941 := rfl
      refine lv_iload_n hx hb dX2_init_53 rfl (lv_at hl 0 rfl) ?_
      refine lv_bipush (v := nI 16) hx hb dX2_init_54 (by decide) ?_
      refine lv_icmp_ge (tgt := 78) hx hb dX2_init_56 (by decide) (fun c9 => ?_) (fun c9 => ?_)
      · have e16 : i = 16 := by rw [nle (by omega) (by omega)] at c9; omega
        subst e16
        obtain ⟨hP9, hD9⟩ := adS_P hf hP hD
        refine W.widen (k := 56) (n := 25941) (by omega) (by omega) ?_
        exact W.vret hx hb hr (fun t ht hW => ⟨⟨(adS q0 r b0 b1 b2 b3 x1 x2 x3 ra pa na, cR, stS fr mf), rfl, stS_ini hfr hmf, rfl, va_K.moved hW.alike hK, by rw [ht]; exact hP9, hD9⟩, hS.F ht⟩) hS.2.2 dX2_init_78 (hlocks := hlocks)
      · have hlt : i < 16 := by rw [nle (by omega) (by omega)] at c9; omega
        refine lv_aload_n hx hb dX2_init_59 rfl (lv_at hl 1 rfl) ?_
        refine va_get (D := D) (ci := 2) (v := .ref r) (C := RX2) (T := TX2) (N := 5) hx hb hts (by decide +kernel) hown hK hP 0 rfl rfl 0 (by decide) (hts (.fieldLink RX2 11 "SharedLeaves" "rows" "[LSharedLeaves$Row;") (by decide +kernel)) (fun _ h9 => h9) rfl dX2_init_60 ?_
        refine lv_iload_n hx hb dX2_init_63 rfl (lv_at hl 0 rfl) ?_
        refine va_new (ci := 1) (fs := [.null, .null, .int 0, .int 0]) (C := RX1) (T := TX1) (N := 4) hx hb hts (by decide +kernel) tyX1 tyX1_ok hown (hts (.classLink RX2 9 RX1) (by decide +kernel)) (hts (.instantiable RX1 4) (by decide +kernel)) (hts (.initialized RX1) (by decide +kernel)) hK hP hD hS hA rfl (fun j hj => by rcases (show j = 0 ∨ j = 1 ∨ j = 2 ∨ j = 3 by omega) with rfl | rfl | rfl | rfl <;> rfl) (by rw [hRc]; omega) (by rw [hRs]; omega) dX2_init_64 (fun q H hP hD hS => ?_)
        refine lv_dup hx hb dX2_init_67 rfl ?_
        have hFc := va_free1 hD hS hA
        refine va_callv (va_runI (As := []) (rest := [.ref q, .int (nI i), .ref r]) ⟨hx, hb, hml, hown, hts⟩ (c_Row l D cI q H.size) (cwI 0 hts gX2_init_X1_init rfl rfl rfl (hts (.initialized RX1) (by decide +kernel)) (hts (.methodLink RX2 32 yX1_init) (by decide +kernel)) (hts (.instanceMethod yX1_init) (by decide +kernel)) rfl (by decide +kernel) ⟨Nat.le_of_ble_eq_true rfl, Nat.le_of_ble_eq_true rfl⟩) ⟨fun a U g mk q => by obtain ⟨q0, q1, qP, qK, qD⟩ := q; exact ⟨q0, q1, qP, va_K.moved (u := U) (U := U.calling g mk a) (Vm.Alike.refl U.vm) qK, qD⟩, fun U hU hW => ⟨rfl, by rw [hU], by rw [hU]; exact va_P1 hP, va_K.moved hW.alike (hK.sub (tys' := [(cI, .int)]) [0] rfl), va_D1 trivial⟩⟩ rfl rfl hl.1 rfl (lv_room (Nat.le_of_ble_eq_true rfl)) dX2_init_68 ⟨by rw [hRc]; omega, by rw [hRs]; omega⟩) hS (fun q _ h => hFc q h) hFc (fun u t H1 locs ht hvm _ hB hz1 hk1 hS => ?_)
        obtain ⟨⟨a1, a2⟩, g⟩ := u
        obtain ⟨hg, hP1, hD1⟩ := hB
        rw [ht] at hP1
        obtain ⟨hP, hD⟩ := va_glue hP hD hk1 hFc hP1 hD1
        generalize H1 = H at hP hS ⊢
        dsimp only at hg
        have hkeep : plR cI (upN ra i q) (upN pa i a1) (upN na i a2) (upM mf i g) i = plR cI ra pa na mf i := plR_c i (fun j hj => by unfold upN upM; rw [if_neg (by omega), if_neg (by omega), if_neg (by omega), if_neg (by omega)]; exact ⟨rfl, rfl, rfl, rfl⟩)
        have hw : (wS9 cI cR q0 r b0 b1 b2 b3 x1 x2 x3 fr f ++ plR cI ra pa na mf i) ++ [(q, .inr (1, [.ref a1, .ref a2, .int 0, .int 0])), (a1, .inl (cI, 256, .inl g)), (a2, .inl (cI, 256, .inl (fun _ => 0)))] = wS9 cI cR q0 r b0 b1 b2 b3 x1 x2 x3 fr f ++ plR cI (upN ra i q) (upN pa i a1) (upN na i a2) (upM mf i g) (i + 1) := by
          rw [plR, hkeep, List.append_assoc]
          unfold upN upM
          rw [if_pos rfl, if_pos rfl, if_pos rfl, if_pos rfl]
        have hP : va_P D zcl (wS9 cI cR q0 r b0 b1 b2 b3 x1 x2 x3 fr f ++ plR cI (upN ra i q) (upN pa i a1) (upN na i a2) (upM mf i g) (i + 1)) H := by rw [← hw]; exact hP
        have hD : va_D A (wS9 cI cR q0 r b0 b1 b2 b3 x1 x2 x3 fr f ++ plR cI (upN ra i q) (upN pa i a1) (upN na i a2) (upM mf i g) (i + 1)) := by rw [← hw]; exact hD
        obtain ⟨hrow, -, -⟩ := plR_at (cI := cI) (ra := upN ra i q) (pa := upN pa i a1) (na := upN na i a2) (mf := upM mf i g) (i + 1) i (by omega)
        have hq : upN ra i q i = q := if_pos rfl
        rw [hq] at hrow
        refine va_astq (r := (RX1, TX1, 4)) hx hb hK hP hD hS 1 1 (9 + 3 * i) 1 rfl rfl (by rw [List.getElem?_append_right (by show 9 ≤ 9 + 3 * i; omega)]; show (plR cI (upN ra i q) (upN pa i a1) (upN na i a2) (upM mf i g) (i + 1))[9 + 3 * i - 9]? = _; rw [show 9 + 3 * i - 9 = 3 * i by omega]; exact hrow) rfl (vp_in_nI hlt (by omega)) dX2_init_71 (fun H locs hP hD hS => ?_)
        have hP : va_P D zcl (wS9 cI cR q0 r b0 b1 b2 b3 x1 x2 x3 fr (va_up f (nI i).toNatClampNeg (some q)) ++ plR cI (upN ra i q) (upN pa i a1) (upN na i a2) (upM mf i g) (i + 1)) H := hP
        have hD : va_D A (wS9 cI cR q0 r b0 b1 b2 b3 x1 x2 x3 fr (va_up f (nI i).toNatClampNeg (some q)) ++ plR cI (upN ra i q) (upN pa i a1) (upN na i a2) (upM mf i g) (i + 1)) := hD
        rw [ncl (by omega)] at hP hD
        refine lv_iinc (v := nI (i + 1)) (lv' := [(1, .int (nI (i + 1))), (0, .ref q0)]) hx hb dX2_init_72 hl (k := 0) rfl (nI_1 i) (by decide) rfl (fun ls hl => ?_)
        refine lv_goto (tgt := 53) hx hb dX2_init_75 (by decide) ?_
        refine W.widen (k := 8 + 3 * (i + 1)) (n := 17685 + 516 * (i + 1)) (by omega) (by omega) ?_
        refine ih (i + 1) (va_up f i (some q)) (upN ra i q) (upN pa i a1) (upN na i a2) (upM mf i g) H locs ls (by omega) (by omega) (fun j hj => ?_) (fun j hj k hk => ?_) hP hD hS hl
        · unfold va_up upN
          by_cases e : j = i
          · rw [if_pos e, if_pos e]
          · rw [if_neg e, if_neg e]; exact hf j (by omega)
        · unfold upM
          by_cases e : j = i
          · rw [if_pos e]; exact hg k hk
          · rw [if_neg e]; exact hmf j (by omega) k hk
  exact loop 17 0 (fun _ => none) (fun _ => 0) (fun _ => 0) (fun _ => 0) (fun _ _ => 0) H locs ls (by omega) (by omega) (fun j hj => by omega) (fun j hj => by omega) (by rw [plR, List.append_nil]; exact hP) (by rw [plR, List.append_nil]; exact hD) hS hl
