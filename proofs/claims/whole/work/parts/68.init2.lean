/-! constructors: Places -/
def rmPlaces : Room := { frames := 12, cells := 3, slots := 9216, locals := 300 }
set_option maxHeartbeats 1000000 in
set_option maxRecDepth 100000 in
theorem c_Places (l : Launch) (D : va_G) (cI : ClassId) (q0 sz : Nat) : Met l yX0_init wsX0_init rmPlaces (va_Pc [.ref q0] (fun U => U.heap.size = sz ∧ va_P D zcl [(q0, .inr (0, [.null, .null, .null, .int 0, .int 0]))] U.heap ∧ va_K D zcl [(cI, .int)] U ∧ va_D (fun _ => True) [(q0, .inr (0, [.null, .null, .null, .int 0, .int 0]))]))
    (va_Qv (fun _ : (Nat × Nat × Nat) × (Nat → Int32) => True) (fun u t => (∀ j, j < 512 → u.2 j = nI j) ∧ va_P D zcl [(q0, .inr (0, [.ref u.1.1, .ref u.1.2.1, .ref u.1.2.2, .int (nI 512), .int 0])), (u.1.1, .inl (cI, 8192, .inl (fun _ => 0))), (u.1.2.1, .inl (cI, 512, .inl (fun _ => 0))), (u.1.2.2, .inl (cI, 512, .inl u.2))] t.heap ∧ va_D (va_A [(q0, .inr (0, [.null, .null, .null, .int 0, .int 0]))] sz) [(q0, .inr (0, [.ref u.1.1, .ref u.1.2.1, .ref u.1.2.2, .int (nI 512), .int 0])), (u.1.1, .inl (cI, 8192, .inl (fun _ => 0))), (u.1.2.1, .inl (cI, 512, .inl (fun _ => 0))), (u.1.2.2, .inl (cI, 512, .inl u.2))]) (va_A [(q0, .inr (0, [.null, .null, .null, .int 0, .int 0]))] sz)) 3 9216 (va_A [(q0, .inr (0, [.null, .null, .null, .int 0, .int 0]))] sz) := by
  refine Met.ofW (cc := cX0_init) (maxL := 2) (ret := none) (by decide) rfl ?_
  intro p e s m args below meth c s₁ B hml hv
  obtain ⟨rfl, hsz, hP, hK, hD0⟩ := hv
  have hx := B.exec
  have hb := B.bytes
  have hr := B.returns
  have hts := atoms_spec (ws := wsX0_init) B.pre
  have hown : s.vm.findClass RX0 = some m.cls := findClass_of_methodNamed B.named
  have hlocks := B.notSynchronized
  have hin : meth.name = "<init>" := (name_of_methodNamed B.named B.method).1
  subst hsz
  have hD := hD0.self (sz := s.heap.size)
  generalize hAe : va_A [(q0, .inr (0, [.null, .null, .null, .int 0, .int 0]))] s.heap.size = A at hD ⊢
  have hA : ∀ q : Nat, s.heap.size ≤ q → A q := fun q h => by rw [← hAe]; exact Or.inr h
  have hS : va_S A s.heap s.heap [] := va_S.rf
  have hl := lv_entry ([.ref q0]) (n := 2) (Nat.le_of_ble_eq_true rfl)
  rw [lg_entry_eq]
  generalize (lg_sl ([.ref q0]) ++ List.replicate (2 - (lg_sl ([.ref q0])).length) Slot.unset).toArray = ls at hl ⊢
  have hl : lv_has ls 2 [(0, .ref q0)] := hl
  refine lv_aload_n hx hb dX0_init_0 rfl (lv_at hl 0 rfl) ?_
  refine W.objInit hx hb hown (hts (.methodLink RX0 3 objectInit) (by decide +kernel)) (hts (.instanceMethod objectInit) (by decide +kernel)) (hts _ (List.mem_cons_of_mem _ (List.mem_append_left _ (List.mem_of_getElem? (i := 2) rfl)))) rfl (by rw [hml]; exact hl.1) rfl dX0_init_1 (Nat.le_of_ble_eq_true rfl) (Nat.le_of_ble_eq_true rfl) ?_
  refine W.eq (g2 := F0 m 4 ls []) rfl ?_
  refine lv_aload_n hx hb dX0_init_4 rfl (lv_at hl 0 rfl) ?_
  refine lv_sipush (v := nI 8192) hx hb dX0_init_5 (by decide) ?_
  refine va_newa (ty := .int) (N' := 8192) (atype := .int) (a0 := (8192, .inl (fun _ => 0))) hx hb (hts (.arrayClass .int) (by decide +kernel)) rfl hK hP hD hS hA (fun cA => vp_cell_i cA 8192 (fun _ => 0)) (nI_nn (by omega)) (ncl (by omega)) (by show 8192 * 4 ≤ 536870912; decide) (Nat.le_of_ble_eq_true rfl) (Nat.le_of_ble_eq_true rfl) dX0_init_8 (fun a1 c1 H hK1 hP hD hS => ?_)
  have ec : c1 = cI := (ka_eq hK1 0 1 rfl rfl).symm
  subst ec
  have hP : va_P D zcl [(q0, .inr (0, [.null, .null, .null, .int 0, .int 0])), (a1, .inl (c1, 8192, .inl (fun _ => 0)))] H := hP
  have hD : va_D A [(q0, .inr (0, [.null, .null, .null, .int 0, .int 0])), (a1, .inl (c1, 8192, .inl (fun _ => 0)))] := hD
  refine va_putF (D := D) (ci := 0) (v := .ref a1) (ty := .array .int) (C := RX0) (T := TX0) (N := 5) hx hb hts (by decide +kernel) tyX0 tyX0_ok nmX0 hown hK hP hD hS 0 rfl rfl 0 (by decide) (hts (.fieldLink RX0 9 "SharedLeaves$Places" "values" "[I") (by decide +kernel)) (fun _ h9 => h9) rfl hin rfl (by decide +kernel) rfl rfl (Nat.le_of_ble_eq_true rfl) dX0_init_10 (fun H locs hP hD hS => ?_)
  have hP : va_P D zcl [(q0, .inr (0, [.ref a1, .null, .null, .int 0, .int 0])), (a1, .inl (c1, 8192, .inl (fun _ => 0)))] H := hP
  have hD : va_D A [(q0, .inr (0, [.ref a1, .null, .null, .int 0, .int 0])), (a1, .inl (c1, 8192, .inl (fun _ => 0)))] := hD
  refine lv_aload_n hx hb dX0_init_13 rfl (lv_at hl 0 rfl) ?_
  refine lv_sipush (v := nI 512) hx hb dX0_init_14 (by decide) ?_
  refine va_newa (ty := .int) (N' := 512) (atype := .int) (a0 := (512, .inl (fun _ => 0))) hx hb (hts (.arrayClass .int) (by decide +kernel)) rfl hK hP hD hS hA (fun cA => vp_cell_i cA 512 (fun _ => 0)) (nI_nn (by omega)) (ncl (by omega)) (by show 512 * 4 ≤ 536870912; decide) (Nat.le_of_ble_eq_true rfl) (Nat.le_of_ble_eq_true rfl) dX0_init_17 (fun a2 c2 H hK1 hP hD hS => ?_)
  have ec : c2 = c1 := (ka_eq hK1 0 1 rfl rfl).symm
  subst ec
  have hP : va_P D zcl [(q0, .inr (0, [.ref a1, .null, .null, .int 0, .int 0])), (a1, .inl (c2, 8192, .inl (fun _ => 0))), (a2, .inl (c2, 512, .inl (fun _ => 0)))] H := hP
  have hD : va_D A [(q0, .inr (0, [.ref a1, .null, .null, .int 0, .int 0])), (a1, .inl (c2, 8192, .inl (fun _ => 0))), (a2, .inl (c2, 512, .inl (fun _ => 0)))] := hD
  refine va_putF (D := D) (ci := 0) (v := .ref a2) (ty := .array .int) (C := RX0) (T := TX0) (N := 5) hx hb hts (by decide +kernel) tyX0 tyX0_ok nmX0 hown hK hP hD hS 0 rfl rfl 1 (by decide) (hts (.fieldLink RX0 15 "SharedLeaves$Places" "holders" "[I") (by decide +kernel)) (fun _ h9 => h9) rfl hin rfl (by decide +kernel) rfl rfl (Nat.le_of_ble_eq_true rfl) dX0_init_19 (fun H locs hP hD hS => ?_)
  have hP : va_P D zcl [(q0, .inr (0, [.ref a1, .ref a2, .null, .int 0, .int 0])), (a1, .inl (c2, 8192, .inl (fun _ => 0))), (a2, .inl (c2, 512, .inl (fun _ => 0)))] H := hP
  have hD : va_D A [(q0, .inr (0, [.ref a1, .ref a2, .null, .int 0, .int 0])), (a1, .inl (c2, 8192, .inl (fun _ => 0))), (a2, .inl (c2, 512, .inl (fun _ => 0)))] := hD
  refine lv_aload_n hx hb dX0_init_22 rfl (lv_at hl 0 rfl) ?_
  refine lv_sipush (v := nI 512) hx hb dX0_init_23 (by decide) ?_
  refine va_newa (ty := .int) (N' := 512) (atype := .int) (a0 := (512, .inl (fun _ => 0))) hx hb (hts (.arrayClass .int) (by decide +kernel)) rfl hK hP hD hS hA (fun cA => vp_cell_i cA 512 (fun _ => 0)) (nI_nn (by omega)) (ncl (by omega)) (by show 512 * 4 ≤ 536870912; decide) (Nat.le_of_ble_eq_true rfl) (Nat.le_of_ble_eq_true rfl) dX0_init_26 (fun a3 c3 H hK1 hP hD hS => ?_)
  have ec : c3 = c2 := (ka_eq hK1 0 1 rfl rfl).symm
  subst ec
  have hP : va_P D zcl [(q0, .inr (0, [.ref a1, .ref a2, .null, .int 0, .int 0])), (a1, .inl (c3, 8192, .inl (fun _ => 0))), (a2, .inl (c3, 512, .inl (fun _ => 0))), (a3, .inl (c3, 512, .inl (fun _ => 0)))] H := hP
  have hD : va_D A [(q0, .inr (0, [.ref a1, .ref a2, .null, .int 0, .int 0])), (a1, .inl (c3, 8192, .inl (fun _ => 0))), (a2, .inl (c3, 512, .inl (fun _ => 0))), (a3, .inl (c3, 512, .inl (fun _ => 0)))] := hD
  refine va_putF (D := D) (ci := 0) (v := .ref a3) (ty := .array .int) (C := RX0) (T := TX0) (N := 5) hx hb hts (by decide +kernel) tyX0 tyX0_ok nmX0 hown hK hP hD hS 0 rfl rfl 2 (by decide) (hts (.fieldLink RX0 18 "SharedLeaves$Places" "free" "[I") (by decide +kernel)) (fun _ h9 => h9) rfl hin rfl (by decide +kernel) rfl rfl (Nat.le_of_ble_eq_true rfl) dX0_init_28 (fun H locs hP hD hS => ?_)
  have hP : va_P D zcl [(q0, .inr (0, [.ref a1, .ref a2, .ref a3, .int 0, .int 0])), (a1, .inl (c3, 8192, .inl (fun _ => 0))), (a2, .inl (c3, 512, .inl (fun _ => 0))), (a3, .inl (c3, 512, .inl (fun _ => 0)))] H := hP
  have hD : va_D A [(q0, .inr (0, [.ref a1, .ref a2, .ref a3, .int 0, .int 0])), (a1, .inl (c3, 8192, .inl (fun _ => 0))), (a2, .inl (c3, 512, .inl (fun _ => 0))), (a3, .inl (c3, 512, .inl (fun _ => 0)))] := hD
  refine lv_aload_n hx hb dX0_init_31 rfl (lv_at hl 0 rfl) ?_
  refine lv_sipush (v := nI 512) hx hb dX0_init_32 (by decide) ?_
  refine va_put (D := D) (ci := 0) (v := .int (nI 512)) (ty := .int) (C := RX0) (T := TX0) (N := 5) hx hb hts (by decide +kernel) tyX0 tyX0_ok nmX0 hown hK hP hD hS 0 rfl rfl 3 (by decide) (hts (.fieldLink RX0 21 "SharedLeaves$Places" "freeCount" "I") (by decide +kernel)) (fun _ h9 => h9) rfl (by decide +kernel) rfl rfl (Nat.le_of_ble_eq_true rfl) dX0_init_35 (fun H locs hP hD hS => ?_)
  have hP : va_P D zcl [(q0, .inr (0, [.ref a1, .ref a2, .ref a3, .int (nI 512), .int 0])), (a1, .inl (c3, 8192, .inl (fun _ => 0))), (a2, .inl (c3, 512, .inl (fun _ => 0))), (a3, .inl (c3, 512, .inl (fun _ => 0)))] H := hP
  have hD : va_D A [(q0, .inr (0, [.ref a1, .ref a2, .ref a3, .int (nI 512), .int 0])), (a1, .inl (c3, 8192, .inl (fun _ => 0))), (a2, .inl (c3, 512, .inl (fun _ => 0))), (a3, .inl (c3, 512, .inl (fun _ => 0)))] := hD
  refine lv_aload_n hx hb dX0_init_38 rfl (lv_at hl 0 rfl) ?_
  refine lv_iconst (v := 0) hx hb dX0_init_39 (by decide) ?_
  refine va_put (D := D) (ci := 0) (v := .int 0) (ty := .int) (C := RX0) (T := TX0) (N := 5) hx hb hts (by decide +kernel) tyX0 tyX0_ok nmX0 hown hK hP hD hS 0 rfl rfl 4 (by decide) (hts (.fieldLink RX0 25 "SharedLeaves$Places" "everTaken" "I") (by decide +kernel)) (fun _ h9 => h9) rfl (by decide +kernel) rfl rfl (Nat.le_of_ble_eq_true rfl) dX0_init_40 (fun H locs hP hD hS => ?_)
  have hP : va_P D zcl [(q0, .inr (0, [.ref a1, .ref a2, .ref a3, .int (nI 512), .int 0])), (a1, .inl (c3, 8192, .inl (fun _ => 0))), (a2, .inl (c3, 512, .inl (fun _ => 0))), (a3, .inl (c3, 512, .inl (fun _ => 0)))] H := hP
  have hD : va_D A [(q0, .inr (0, [.ref a1, .ref a2, .ref a3, .int (nI 512), .int 0])), (a1, .inl (c3, 8192, .inl (fun _ => 0))), (a2, .inl (c3, 512, .inl (fun _ => 0))), (a3, .inl (c3, 512, .inl (fun _ => 0)))] := hD
  refine lv_iconst (v := nI 0) hx hb dX0_init_43 (by decide) ?_
  refine lv_istore_n (lv' := [(1, .int (nI 0)), (0, .ref q0)]) hx hb dX0_init_44 rfl hl (by decide) rfl (fun ls hl => ?_)
  have loop : ∀ (d i : Nat) (g : Nat → Int32) (H : Heap) (locs : List Loc) (ls : Array Slot), 512 - i < d → i ≤ 512 → (∀ j, j < i → g j = nI j) → va_P D zcl [(q0, .inr (0, [.ref a1, .ref a2, .ref a3, .int (nI 512), .int 0])), (a1, .inl (c3, 8192, .inl (fun _ => 0))), (a2, .inl (c3, 512, .inl (fun _ => 0))), (a3, .inl (c3, 512, .inl g))] H → va_D A [(q0, .inr (0, [.ref a1, .ref a2, .ref a3, .int (nI 512), .int 0])), (a1, .inl (c3, 8192, .inl (fun _ => 0))), (a2, .inl (c3, 512, .inl (fun _ => 0))), (a3, .inl (c3, 512, .inl g))] → va_S A s.heap H locs → lv_has ls 2 [(1, .int (nI i)), (0, .ref q0)] →
      W p l e (headSpec wsX0_init rmPlaces).room s m (([.ref q0] : List Value).toArray) below meth c H locs 3 9216 (MQ below (va_Qv (fun _ : (Nat × Nat × Nat) × (Nat → Int32) => True) (fun u t => (∀ j, j < 512 → u.2 j = nI j) ∧ va_P D zcl [(q0, .inr (0, [.ref u.1.1, .ref u.1.2.1, .ref u.1.2.2, .int (nI 512), .int 0])), (u.1.1, .inl (c3, 8192, .inl (fun _ => 0))), (u.1.2.1, .inl (c3, 512, .inl (fun _ => 0))), (u.1.2.2, .inl (c3, 512, .inl u.2))] t.heap ∧ va_D (A) [(q0, .inr (0, [.ref u.1.1, .ref u.1.2.1, .ref u.1.2.2, .int (nI 512), .int 0])), (u.1.1, .inl (c3, 8192, .inl (fun _ => 0))), (u.1.2.1, .inl (c3, 512, .inl (fun _ => 0))), (u.1.2.2, .inl (c3, 512, .inl u.2))]) A) (([.ref q0] : List Value).toArray) s 3 9216 A) (F0 m 45 ls []) := by
    intro d
    induction d with
    | zero => intro i g H locs ls h; omega
    | succ d ih =>
      intro i g H locs ls hd hi hg hP hD hS hl
      refine lv_iload_n hx hb dX0_init_45 rfl (lv_at hl 0 rfl) ?_
      refine lv_sipush (v := nI 512) hx hb dX0_init_46 (by decide) ?_
      refine lv_icmp_ge (tgt := 65) hx hb dX0_init_49 (by decide) (fun c9 => ?_) (fun c9 => ?_)
      · have : 512 ≤ i := by rw [nle (by omega) (by omega)] at c9; exact c9
        exact W.vret hx hb hr (fun t ht hW => ⟨⟨((a1, a2, a3), g), rfl, trivial, fun j hj => hg j (by omega), by rw [ht]; exact hP, hD⟩, hS.F ht⟩) hS.2.2 dX0_init_65 (hlocks := hlocks)
      · have hlt : i < 512 := by rw [nle (by omega) (by omega)] at c9; omega
        refine lv_aload_n hx hb dX0_init_52 rfl (lv_at hl 1 rfl) ?_
        refine va_get (D := D) (ci := 0) (v := .ref a3) (C := RX0) (T := TX0) (N := 5) hx hb hts (by decide +kernel) hown hK hP 0 rfl rfl 2 (by decide) (hts (.fieldLink RX0 18 "SharedLeaves$Places" "free" "[I") (by decide +kernel)) (fun _ h9 => h9) rfl dX0_init_53 ?_
        refine lv_iload_n hx hb dX0_init_56 rfl (lv_at hl 0 rfl) ?_
        refine lv_iload_n hx hb dX0_init_57 rfl (lv_at hl 0 rfl) ?_
        refine va_iast hx hb hK hP hD hS 3 0 rfl rfl (vp_in_nI hlt (by omega)) dX0_init_58 (fun H locs hP hD hS => ?_)
        have hP : va_P D zcl [(q0, .inr (0, [.ref a1, .ref a2, .ref a3, .int (nI 512), .int 0])), (a1, .inl (c3, 8192, .inl (fun _ => 0))), (a2, .inl (c3, 512, .inl (fun _ => 0))), (a3, .inl (c3, 512, .inl (upd g (nI i).toNatClampNeg (nI i))))] H := hP
        have hD : va_D A [(q0, .inr (0, [.ref a1, .ref a2, .ref a3, .int (nI 512), .int 0])), (a1, .inl (c3, 8192, .inl (fun _ => 0))), (a2, .inl (c3, 512, .inl (fun _ => 0))), (a3, .inl (c3, 512, .inl (upd g (nI i).toNatClampNeg (nI i))))] := hD
        rw [ncl (by omega)] at hP hD
        refine lv_iinc (v := nI (i + 1)) (lv' := [(1, .int (nI (i + 1))), (0, .ref q0)]) hx hb dX0_init_59 hl (k := 0) rfl (nI_1 i) (by decide) rfl (fun ls hl => ?_)
        refine lv_goto (tgt := 45) hx hb dX0_init_62 (by decide) ?_
        refine ih (i + 1) (upd g i (nI i)) H locs ls (by omega) (by omega) (fun j hj => ?_) hP hD hS hl
        unfold upd
        by_cases e : j = i
        · rw [if_pos e, e]
        · rw [if_neg e]; exact hg j (by omega)
  exact loop 513 0 (fun _ => 0) H locs ls (by omega) (by omega) (fun j hj => by omega) hP hD hS hl
