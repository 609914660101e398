/-! constructors: SharedLeavesModel -/
def rmModel : Room := { frames := 12, cells := 6, slots := 218112, locals := 300 }
set_option maxHeartbeats 1000000 in
set_option maxRecDepth 100000 in
theorem c_Model (l : Launch) (D : va_G) (cI cZ : ClassId) (q0 sz : Nat) : Met l yX3_init wsX3_init rmModel (va_Pc [.ref q0] (fun U => U.heap.size = sz ∧ va_P D zcl [(q0, .inr (3, [.int 0, .null, .null, .null, .null, .null, .int 0, .null]))] U.heap ∧ va_K D zcl [(cI, .int), (cZ, .boolean)] U ∧ va_D (fun _ => True) [(q0, .inr (3, [.int 0, .null, .null, .null, .null, .null, .int 0, .null]))]))
    (va_Qv (fun _ : Nat × Nat × Nat × Nat × Nat × Nat => True) (fun u t => va_P D zcl [(q0, .inr (3, [.int 0, .ref u.1, .ref u.2.1, .ref u.2.2.1, .ref u.2.2.2.1, .ref u.2.2.2.2.1, .int 0, .ref u.2.2.2.2.2])), (u.1, .inl (cZ, 16, .inl (fun _ => 0))), (u.2.1, .inl (cI, 16, .inl (fun _ => 0))), (u.2.2.1, .inl (cI, 69632, .inl (fun _ => 0))), (u.2.2.2.1, .inl (cI, 4352, .inl (fun _ => 0))), (u.2.2.2.2.1, .inl (cI, 140000, .inl (fun _ => 0))), (u.2.2.2.2.2, .inl (cI, 4096, .inl (fun _ => 0)))] t.heap ∧ va_D (va_A [(q0, .inr (3, [.int 0, .null, .null, .null, .null, .null, .int 0, .null]))] sz) [(q0, .inr (3, [.int 0, .ref u.1, .ref u.2.1, .ref u.2.2.1, .ref u.2.2.2.1, .ref u.2.2.2.2.1, .int 0, .ref u.2.2.2.2.2])), (u.1, .inl (cZ, 16, .inl (fun _ => 0))), (u.2.1, .inl (cI, 16, .inl (fun _ => 0))), (u.2.2.1, .inl (cI, 69632, .inl (fun _ => 0))), (u.2.2.2.1, .inl (cI, 4352, .inl (fun _ => 0))), (u.2.2.2.2.1, .inl (cI, 140000, .inl (fun _ => 0))), (u.2.2.2.2.2, .inl (cI, 4096, .inl (fun _ => 0)))]) (va_A [(q0, .inr (3, [.int 0, .null, .null, .null, .null, .null, .int 0, .null]))] sz)) 6 218112 (va_A [(q0, .inr (3, [.int 0, .null, .null, .null, .null, .null, .int 0, .null]))] sz) := by
  refine Met.ofW (cc := cX3_init) (maxL := 1) (ret := none) (by decide) rfl ?_
  intro p e s m args below meth c s₁ B hml hv
  obtain ⟨rfl, hsz, hP, hK, hD0⟩ := hv
  have hx := B.exec
  have hb := B.bytes
  have hr := B.returns
  have hts := atoms_spec (ws := wsX3_init) B.pre
  have hown : s.vm.findClass RX3 = some m.cls := findClass_of_methodNamed B.named
  have hlocks := B.notSynchronized
  have hin : meth.name = "<init>" := (name_of_methodNamed B.named B.method).1
  subst hsz
  have hD := hD0.self (sz := s.heap.size)
  generalize hAe : va_A [(q0, .inr (3, [.int 0, .null, .null, .null, .null, .null, .int 0, .null]))] s.heap.size = A at hD ⊢
  have hA : ∀ q : Nat, s.heap.size ≤ q → A q := fun q h => by rw [← hAe]; exact Or.inr h
  have hS : va_S A s.heap s.heap [] := va_S.rf
  have hl := lv_entry ([.ref q0]) (n := 1) (Nat.le_of_ble_eq_true rfl)
  rw [lg_entry_eq]
  generalize (lg_sl ([.ref q0]) ++ List.replicate (1 - (lg_sl ([.ref q0])).length) Slot.unset).toArray = ls at hl ⊢
  have hl : lv_has ls 1 [(0, .ref q0)] := hl
  refine lv_aload_n hx hb dX3_init_0 rfl (lv_at hl 0 rfl) ?_
  refine W.objInit hx hb hown (hts (.methodLink RX3 1 objectInit) (by decide +kernel)) (hts (.instanceMethod objectInit) (by decide +kernel)) (hts _ (List.mem_cons_of_mem _ (List.mem_append_left _ (List.mem_of_getElem? (i := 2) rfl)))) rfl (by rw [hml]; exact hl.1) rfl dX3_init_1 (Nat.le_of_ble_eq_true rfl) (Nat.le_of_ble_eq_true rfl) ?_
  refine W.eq (g2 := F0 m 4 ls []) rfl ?_
  refine lv_aload_n hx hb dX3_init_4 rfl (lv_at hl 0 rfl) ?_
  refine lv_bipush (v := nI 16) hx hb dX3_init_5 (by decide) ?_
  refine va_newa (ty := .boolean) (N' := 16) (atype := .boolean) (a0 := (16, .inl (fun _ => 0))) hx hb (hts (.arrayClass .boolean) (by decide +kernel)) rfl hK hP hD hS hA (fun cA => vp_cell_i cA 16 (fun _ => 0)) (nI_nn (by omega)) (ncl (by omega)) (by show 16 * 1 ≤ 536870912; decide) (Nat.le_of_ble_eq_true rfl) (Nat.le_of_ble_eq_true rfl) dX3_init_7 (fun a1 c1 H hK1 hP hD hS => ?_)
  have ec : c1 = cZ := (ka_eq hK1 1 2 rfl rfl).symm
  subst ec
  have hP : va_P D zcl [(q0, .inr (3, [.int 0, .null, .null, .null, .null, .null, .int 0, .null])), (a1, .inl (c1, 16, .inl (fun _ => 0)))] H := hP
  have hD : va_D A [(q0, .inr (3, [.int 0, .null, .null, .null, .null, .null, .int 0, .null])), (a1, .inl (c1, 16, .inl (fun _ => 0)))] := hD
  refine va_putF (D := D) (ci := 3) (v := .ref a1) (ty := .array .boolean) (C := RX3) (T := TX3) (N := 8) hx hb hts (by decide +kernel) tyX3 tyX3_ok nmX3 hown hK hP hD hS 0 rfl rfl 1 (by decide) (hts (.fieldLink RX3 7 "SharedLeavesModel" "there" "[Z") (by decide +kernel)) (fun _ h9 => h9) rfl hin rfl (by decide +kernel) rfl rfl (Nat.le_of_ble_eq_true rfl) dX3_init_9 (fun H locs hP hD hS => ?_)
  have hP : va_P D zcl [(q0, .inr (3, [.int 0, .ref a1, .null, .null, .null, .null, .int 0, .null])), (a1, .inl (c1, 16, .inl (fun _ => 0)))] H := hP
  have hD : va_D A [(q0, .inr (3, [.int 0, .ref a1, .null, .null, .null, .null, .int 0, .null])), (a1, .inl (c1, 16, .inl (fun _ => 0)))] := hD
  refine lv_aload_n hx hb dX3_init_12 rfl (lv_at hl 0 rfl) ?_
  refine lv_bipush (v := nI 16) hx hb dX3_init_13 (by decide) ?_
  refine va_newa (ty := .int) (N' := 16) (atype := .int) (a0 := (16, .inl (fun _ => 0))) hx hb (hts (.arrayClass .int) (by decide +kernel)) rfl hK hP hD hS hA (fun cA => vp_cell_i cA 16 (fun _ => 0)) (nI_nn (by omega)) (ncl (by omega)) (by show 16 * 4 ≤ 536870912; decide) (Nat.le_of_ble_eq_true rfl) (Nat.le_of_ble_eq_true rfl) dX3_init_15 (fun a2 c2 H hK1 hP hD hS => ?_)
  have ec : c2 = cI := (ka_eq hK1 0 2 rfl rfl).symm
  subst ec
  have hP : va_P D zcl [(q0, .inr (3, [.int 0, .ref a1, .null, .null, .null, .null, .int 0, .null])), (a1, .inl (c1, 16, .inl (fun _ => 0))), (a2, .inl (c2, 16, .inl (fun _ => 0)))] H := hP
  have hD : va_D A [(q0, .inr (3, [.int 0, .ref a1, .null, .null, .null, .null, .int 0, .null])), (a1, .inl (c1, 16, .inl (fun _ => 0))), (a2, .inl (c2, 16, .inl (fun _ => 0)))] := hD
  refine va_putF (D := D) (ci := 3) (v := .ref a2) (ty := .array .int) (C := RX3) (T := TX3) (N := 8) hx hb hts (by decide +kernel) tyX3 tyX3_ok nmX3 hown hK hP hD hS 0 rfl rfl 2 (by decide) (hts (.fieldLink RX3 13 "SharedLeavesModel" "length" "[I") (by decide +kernel)) (fun _ h9 => h9) rfl hin rfl (by decide +kernel) rfl rfl (Nat.le_of_ble_eq_true rfl) dX3_init_17 (fun H locs hP hD hS => ?_)
  have hP : va_P D zcl [(q0, .inr (3, [.int 0, .ref a1, .ref a2, .null, .null, .null, .int 0, .null])), (a1, .inl (c1, 16, .inl (fun _ => 0))), (a2, .inl (c2, 16, .inl (fun _ => 0)))] H := hP
  have hD : va_D A [(q0, .inr (3, [.int 0, .ref a1, .ref a2, .null, .null, .null, .int 0, .null])), (a1, .inl (c1, 16, .inl (fun _ => 0))), (a2, .inl (c2, 16, .inl (fun _ => 0)))] := hD
  refine lv_aload_n hx hb dX3_init_20 rfl (lv_at hl 0 rfl) ?_
  refine lv_ldc hx hb hown (hts (.constant RX3 17 (69632)) (by decide +kernel)) dX3_init_21 ?_
  refine va_newa (ty := .int) (N' := 69632) (atype := .int) (a0 := (69632, .inl (fun _ => 0))) hx hb (hts (.arrayClass .int) (by decide +kernel)) rfl hK hP hD hS hA (fun cA => vp_cell_i cA 69632 (fun _ => 0)) (by decide) (by decide) (by show 69632 * 4 ≤ 536870912; decide) (Nat.le_of_ble_eq_true rfl) (Nat.le_of_ble_eq_true rfl) dX3_init_23 (fun a3 c3 H hK1 hP hD hS => ?_)
  have ec : c3 = c2 := (ka_eq hK1 0 2 rfl rfl).symm
  subst ec
  have hP : va_P D zcl [(q0, .inr (3, [.int 0, .ref a1, .ref a2, .null, .null, .null, .int 0, .null])), (a1, .inl (c1, 16, .inl (fun _ => 0))), (a2, .inl (c3, 16, .inl (fun _ => 0))), (a3, .inl (c3, 69632, .inl (fun _ => 0)))] H := hP
  have hD : va_D A [(q0, .inr (3, [.int 0, .ref a1, .ref a2, .null, .null, .null, .int 0, .null])), (a1, .inl (c1, 16, .inl (fun _ => 0))), (a2, .inl (c3, 16, .inl (fun _ => 0))), (a3, .inl (c3, 69632, .inl (fun _ => 0)))] := hD
  refine va_putF (D := D) (ci := 3) (v := .ref a3) (ty := .array .int) (C := RX3) (T := TX3) (N := 8) hx hb hts (by decide +kernel) tyX3 tyX3_ok nmX3 hown hK hP hD hS 0 rfl rfl 3 (by decide) (hts (.fieldLink RX3 18 "SharedLeavesModel" "value" "[I") (by decide +kernel)) (fun _ h9 => h9) rfl hin rfl (by decide +kernel) rfl rfl (Nat.le_of_ble_eq_true rfl) dX3_init_25 (fun H locs hP hD hS => ?_)
  have hP : va_P D zcl [(q0, .inr (3, [.int 0, .ref a1, .ref a2, .ref a3, .null, .null, .int 0, .null])), (a1, .inl (c1, 16, .inl (fun _ => 0))), (a2, .inl (c3, 16, .inl (fun _ => 0))), (a3, .inl (c3, 69632, .inl (fun _ => 0)))] H := hP
  have hD : va_D A [(q0, .inr (3, [.int 0, .ref a1, .ref a2, .ref a3, .null, .null, .int 0, .null])), (a1, .inl (c1, 16, .inl (fun _ => 0))), (a2, .inl (c3, 16, .inl (fun _ => 0))), (a3, .inl (c3, 69632, .inl (fun _ => 0)))] := hD
  refine lv_aload_n hx hb dX3_init_28 rfl (lv_at hl 0 rfl) ?_
  refine lv_sipush (v := nI 4352) hx hb dX3_init_29 (by decide) ?_
  refine va_newa (ty := .int) (N' := 4352) (atype := .int) (a0 := (4352, .inl (fun _ => 0))) hx hb (hts (.arrayClass .int) (by decide +kernel)) rfl hK hP hD hS hA (fun cA => vp_cell_i cA 4352 (fun _ => 0)) (nI_nn (by omega)) (ncl (by omega)) (by show 4352 * 4 ≤ 536870912; decide) (Nat.le_of_ble_eq_true rfl) (Nat.le_of_ble_eq_true rfl) dX3_init_32 (fun a4 c4 H hK1 hP hD hS => ?_)
  have ec : c4 = c3 := (ka_eq hK1 0 2 rfl rfl).symm
  subst ec
  have hP : va_P D zcl [(q0, .inr (3, [.int 0, .ref a1, .ref a2, .ref a3, .null, .null, .int 0, .null])), (a1, .inl (c1, 16, .inl (fun _ => 0))), (a2, .inl (c4, 16, .inl (fun _ => 0))), (a3, .inl (c4, 69632, .inl (fun _ => 0))), (a4, .inl (c4, 4352, .inl (fun _ => 0)))] H := hP
  have hD : va_D A [(q0, .inr (3, [.int 0, .ref a1, .ref a2, .ref a3, .null, .null, .int 0, .null])), (a1, .inl (c1, 16, .inl (fun _ => 0))), (a2, .inl (c4, 16, .inl (fun _ => 0))), (a3, .inl (c4, 69632, .inl (fun _ => 0))), (a4, .inl (c4, 4352, .inl (fun _ => 0)))] := hD
  refine va_putF (D := D) (ci := 3) (v := .ref a4) (ty := .array .int) (C := RX3) (T := TX3) (N := 8) hx hb hts (by decide +kernel) tyX3 tyX3_ok nmX3 hown hK hP hD hS 0 rfl rfl 4 (by decide) (hts (.fieldLink RX3 21 "SharedLeavesModel" "mark" "[I") (by decide +kernel)) (fun _ h9 => h9) rfl hin rfl (by decide +kernel) rfl rfl (Nat.le_of_ble_eq_true rfl) dX3_init_34 (fun H locs hP hD hS => ?_)
  have hP : va_P D zcl [(q0, .inr (3, [.int 0, .ref a1, .ref a2, .ref a3, .ref a4, .null, .int 0, .null])), (a1, .inl (c1, 16, .inl (fun _ => 0))), (a2, .inl (c4, 16, .inl (fun _ => 0))), (a3, .inl (c4, 69632, .inl (fun _ => 0))), (a4, .inl (c4, 4352, .inl (fun _ => 0)))] H := hP
  have hD : va_D A [(q0, .inr (3, [.int 0, .ref a1, .ref a2, .ref a3, .ref a4, .null, .int 0, .null])), (a1, .inl (c1, 16, .inl (fun _ => 0))), (a2, .inl (c4, 16, .inl (fun _ => 0))), (a3, .inl (c4, 69632, .inl (fun _ => 0))), (a4, .inl (c4, 4352, .inl (fun _ => 0)))] := hD
  refine lv_aload_n hx hb dX3_init_37 rfl (lv_at hl 0 rfl) ?_
  refine lv_ldc hx hb hown (hts (.constant RX3 24 (140000)) (by decide +kernel)) dX3_init_38 ?_
  refine va_newa (ty := .int) (N' := 140000) (atype := .int) (a0 := (140000, .inl (fun _ => 0))) hx hb (hts (.arrayClass .int) (by decide +kernel)) rfl hK hP hD hS hA (fun cA => vp_cell_i cA 140000 (fun _ => 0)) (by decide) (by decide) (by show 140000 * 4 ≤ 536870912; decide) (Nat.le_of_ble_eq_true rfl) (Nat.le_of_ble_eq_true rfl) dX3_init_40 (fun a5 c5 H hK1 hP hD hS => ?_)
  have ec : c5 = c4 := (ka_eq hK1 0 2 rfl rfl).symm
  subst ec
  have hP : va_P D zcl [(q0, .inr (3, [.int 0, .ref a1, .ref a2, .ref a3, .ref a4, .null, .int 0, .null])), (a1, .inl (c1, 16, .inl (fun _ => 0))), (a2, .inl (c5, 16, .inl (fun _ => 0))), (a3, .inl (c5, 69632, .inl (fun _ => 0))), (a4, .inl (c5, 4352, .inl (fun _ => 0))), (a5, .inl (c5, 140000, .inl (fun _ => 0)))] H := hP
  have hD : va_D A [(q0, .inr (3, [.int 0, .ref a1, .ref a2, .ref a3, .ref a4, .null, .int 0, .null])), (a1, .inl (c1, 16, .inl (fun _ => 0))), (a2, .inl (c5, 16, .inl (fun _ => 0))), (a3, .inl (c5, 69632, .inl (fun _ => 0))), (a4, .inl (c5, 4352, .inl (fun _ => 0))), (a5, .inl (c5, 140000, .inl (fun _ => 0)))] := hD
  refine va_putF (D := D) (ci := 3) (v := .ref a5) (ty := .array .int) (C := RX3) (T := TX3) (N := 8) hx hb hts (by decide +kernel) tyX3 tyX3_ok nmX3 hown hK hP hD hS 0 rfl rfl 5 (by decide) (hts (.fieldLink RX3 25 "SharedLeavesModel" "count" "[I") (by decide +kernel)) (fun _ h9 => h9) rfl hin rfl (by decide +kernel) rfl rfl (Nat.le_of_ble_eq_true rfl) dX3_init_42 (fun H locs hP hD hS => ?_)
  have hP : va_P D zcl [(q0, .inr (3, [.int 0, .ref a1, .ref a2, .ref a3, .ref a4, .ref a5, .int 0, .null])), (a1, .inl (c1, 16, .inl (fun _ => 0))), (a2, .inl (c5, 16, .inl (fun _ => 0))), (a3, .inl (c5, 69632, .inl (fun _ => 0))), (a4, .inl (c5, 4352, .inl (fun _ => 0))), (a5, .inl (c5, 140000, .inl (fun _ => 0)))] H := hP
  have hD : va_D A [(q0, .inr (3, [.int 0, .ref a1, .ref a2, .ref a3, .ref a4, .ref a5, .int 0, .null])), (a1, .inl (c1, 16, .inl (fun _ => 0))), (a2, .inl (c5, 16, .inl (fun _ => 0))), (a3, .inl (c5, 69632, .inl (fun _ => 0))), (a4, .inl (c5, 4352, .inl (fun _ => 0))), (a5, .inl (c5, 140000, .inl (fun _ => 0)))] := hD
  refine lv_aload_n hx hb dX3_init_45 rfl (lv_at hl 0 rfl) ?_
  refine lv_sipush (v := nI 4096) hx hb dX3_init_46 (by decide) ?_
  refine va_newa (ty := .int) (N' := 4096) (atype := .int) (a0 := (4096, .inl (fun _ => 0))) hx hb (hts (.arrayClass .int) (by decide +kernel)) rfl hK hP hD hS hA (fun cA => vp_cell_i cA 4096 (fun _ => 0)) (nI_nn (by omega)) (ncl (by omega)) (by show 4096 * 4 ≤ 536870912; decide) (Nat.le_of_ble_eq_true rfl) (Nat.le_of_ble_eq_true rfl) dX3_init_49 (fun a6 c6 H hK1 hP hD hS => ?_)
  have ec : c6 = c5 := (ka_eq hK1 0 2 rfl rfl).symm
  subst ec
  have hP : va_P D zcl [(q0, .inr (3, [.int 0, .ref a1, .ref a2, .ref a3, .ref a4, .ref a5, .int 0, .null])), (a1, .inl (c1, 16, .inl (fun _ => 0))), (a2, .inl (c6, 16, .inl (fun _ => 0))), (a3, .inl (c6, 69632, .inl (fun _ => 0))), (a4, .inl (c6, 4352, .inl (fun _ => 0))), (a5, .inl (c6, 140000, .inl (fun _ => 0))), (a6, .inl (c6, 4096, .inl (fun _ => 0)))] H := hP
  have hD : va_D A [(q0, .inr (3, [.int 0, .ref a1, .ref a2, .ref a3, .ref a4, .ref a5, .int 0, .null])), (a1, .inl (c1, 16, .inl (fun _ => 0))), (a2, .inl (c6, 16, .inl (fun _ => 0))), (a3, .inl (c6, 69632, .inl (fun _ => 0))), (a4, .inl (c6, 4352, .inl (fun _ => 0))), (a5, .inl (c6, 140000, .inl (fun _ => 0))), (a6, .inl (c6, 4096, .inl (fun _ => 0)))] := hD
  refine va_putF (D := D) (ci := 3) (v := .ref a6) (ty := .array .int) (C := RX3) (T := TX3) (N := 8) hx hb hts (by decide +kernel) tyX3 tyX3_ok nmX3 hown hK hP hD hS 0 rfl rfl 7 (by decide) (hts (.fieldLink RX3 28 "SharedLeavesModel" "row" "[I") (by decide +kernel)) (fun _ h9 => h9) rfl hin rfl (by decide +kernel) rfl rfl (Nat.le_of_ble_eq_true rfl) dX3_init_51 (fun H locs hP hD hS => ?_)
  have hP : va_P D zcl [(q0, .inr (3, [.int 0, .ref a1, .ref a2, .ref a3, .ref a4, .ref a5, .int 0, .ref a6])), (a1, .inl (c1, 16, .inl (fun _ => 0))), (a2, .inl (c6, 16, .inl (fun _ => 0))), (a3, .inl (c6, 69632, .inl (fun _ => 0))), (a4, .inl (c6, 4352, .inl (fun _ => 0))), (a5, .inl (c6, 140000, .inl (fun _ => 0))), (a6, .inl (c6, 4096, .inl (fun _ => 0)))] H := hP
  have hD : va_D A [(q0, .inr (3, [.int 0, .ref a1, .ref a2, .ref a3, .ref a4, .ref a5, .int 0, .ref a6])), (a1, .inl (c1, 16, .inl (fun _ => 0))), (a2, .inl (c6, 16, .inl (fun _ => 0))), (a3, .inl (c6, 69632, .inl (fun _ => 0))), (a4, .inl (c6, 4352, .inl (fun _ => 0))), (a5, .inl (c6, 140000, .inl (fun _ => 0))), (a6, .inl (c6, 4096, .inl (fun _ => 0)))] := hD
  exact W.vret hx hb hr (fun t ht hW => ⟨⟨(a1, a2, a3, a4, a5, a6), rfl, trivial, by rw [ht]; exact hP, hD⟩, hS.F ht⟩) hS.2.2 dX3_init_54 (hlocks := hlocks)
