/-! constructors: Arrays.fill(int[], int), Row -/
theorem ka_eq {D : va_G} {cl : List vw_C} {tys : List (ClassId × FieldType)} {s : State} {cA cB : ClassId} {ty : FieldType} (hK : va_K D cl tys s) (i j : Nat) (hi : tys[i]? = some (cA, ty)) (hj : tys[j]? = some (cB, ty)) : cA = cB := by
  have h1 := (hK.2 i _ hi).2
  have h2 := (hK.2 j _ hj).2
  cases ty with
  | object C =>
    obtain ⟨_, _, _, _, _, a1⟩ := h1
    obtain ⟨_, _, _, _, _, a2⟩ := h2
    exact Option.some.inj (a1.symm.trans a2)
  | _ => exact Option.some.inj (Eq.trans (Eq.symm h1) h2)
def rmFill : Room := { frames := 8, cells := 0, slots := 0, locals := 100 }
set_option maxHeartbeats 1000000 in
set_option maxRecDepth 100000 in
theorem c_fill (l : Launch) (D : va_G) (cI : ClassId) (a n sz : Nat) (f : Nat → Int32) (v : Int32) (hn : n < 2147483648) : Met l yJ7_fill_53178 wsJ7_fill_53178 rmFill (va_Pc [.ref a, .int v] (fun U => U.heap.size = sz ∧ va_P D zcl [(a, .inl (cI, n, .inl f))] U.heap ∧ va_K D zcl [(cI, .int)] U ∧ va_D (fun _ => True) [(a, .inl (cI, n, .inl f))]))
    (va_Qv (fun g : Nat → Int32 => ∀ j, j < n → g j = v) (fun g t => va_P D zcl [(a, .inl (cI, n, .inl g))] t.heap) (va_A [(a, .inl (cI, n, .inl f))] sz)) 0 0 (va_A [(a, .inl (cI, n, .inl f))] sz) := by
  refine Met.ofW (cc := cJ7_fill_53178) (maxL := 4) (ret := none) (by decide) rfl ?_
  intro p e s m args below meth c s₁ B hml hv
  obtain ⟨rfl, hsz, hP, hK, hD0⟩ := hv
  have hx := B.exec
  have hb := B.bytes
  have hr := B.returns
  have hts := atoms_spec (ws := wsJ7_fill_53178) B.pre
  have hown : s.vm.findClass RJ7 = some m.cls := findClass_of_methodNamed B.named
  have hlocks := B.notSynchronized
  subst hsz
  have hD := hD0.self (sz := s.heap.size)
  generalize hAe : va_A [(a, .inl (cI, n, .inl f))] s.heap.size = A at hD ⊢
  have hA : ∀ q : Nat, s.heap.size ≤ q → A q := fun q h => by rw [← hAe]; exact Or.inr h
  have hS : va_S A s.heap s.heap [] := va_S.rf
  have hl := lv_entry ([.ref a, .int v]) (n := 4) (Nat.le_of_ble_eq_true rfl)
  rw [lg_entry_eq]
  generalize (lg_sl ([.ref a, .int v]) ++ List.replicate (4 - (lg_sl ([.ref a, .int v])).length) Slot.unset).toArray = ls at hl ⊢
  have hl : lv_has ls 4 [(0, .ref a), (1, .int v)] := hl
  refine lv_iconst (v := 0) hx hb dJ7_fill_53178_0 (by decide) ?_
  refine lv_istore_n (lv' := [(2, .int 0), (0, .ref a), (1, .int v)]) hx hb dJ7_fill_53178_1 rfl hl (by decide) rfl (fun ls hl => ?_)
  refine lv_aload_n hx hb dJ7_fill_53178_2 rfl (lv_at hl 1 rfl) ?_
  refine va_alen hx hb hK hP 0 0 rfl rfl rfl dJ7_fill_53178_3 ?_
  refine lv_istore_n (lv' := [(3, .int (nI n)), (2, .int 0), (0, .ref a), (1, .int v)]) hx hb dJ7_fill_53178_4 rfl hl (by decide) rfl (fun ls hl => ?_)
  -- the loop
  have loop : ∀ (d i : Nat) (g : Nat → Int32) (H : Heap) (locs : List Loc) (ls : Array Slot), n - i < d → i ≤ n → (∀ j, j < i → g j = v) → va_P D zcl [(a, .inl (cI, n, .inl g))] H → va_D A [(a, .inl (cI, n, .inl g))] → va_S A s.heap H locs → lv_has ls 4 [(2, .int (nI i)), (3, .int (nI n)), (0, .ref a), (1, .int v)] →
      W p l e (headSpec wsJ7_fill_53178 rmFill).room s m (([.ref a, .int v] : List Value).toArray) below meth c H locs 0 0 (MQ below (va_Qv (fun g : Nat → Int32 => ∀ j, j < n → g j = v) (fun g t => va_P D zcl [(a, .inl (cI, n, .inl g))] t.heap) A) (([.ref a, .int v] : List Value).toArray) s 0 0 A) (F0 m 5 ls []) := by
    intro d
    induction d with
    | zero => intro i g H locs ls h; omega
    | succ d ih =>
      intro i g H locs ls hd hi hg hP hD hS hl
      refine lv_iload_n hx hb dJ7_fill_53178_5 rfl (lv_at hl 0 rfl) ?_
      refine lv_iload_n hx hb dJ7_fill_53178_6 rfl (lv_at hl 1 rfl) ?_
      refine lv_icmp_ge (tgt := 20) hx hb dJ7_fill_53178_7 (by decide) (fun c1 => ?_) (fun c1 => ?_)
      · have : n ≤ i := by rw [nle hn (by omega)] at c1; exact c1
        exact W.vret hx hb hr (fun t ht hW => ⟨⟨g, rfl, fun j hj => hg j (by omega), by show va_P D zcl _ t.heap; rw [ht]; exact hP⟩, hS.F ht⟩) hS.2.2 dJ7_fill_53178_20 (hlocks := hlocks)
      · have hlt : i < n := by rw [nle hn (by omega)] at c1; omega
        refine lv_aload_n hx hb dJ7_fill_53178_10 rfl (lv_at hl 2 rfl) ?_
        refine lv_iload_n hx hb dJ7_fill_53178_11 rfl (lv_at hl 0 rfl) ?_
        refine lv_iload_n hx hb dJ7_fill_53178_12 rfl (lv_at hl 3 rfl) ?_
        refine va_iast hx hb hK hP hD hS 0 0 rfl rfl (vp_in_nI hlt (by omega)) dJ7_fill_53178_13 (fun H locs hP hD hS => ?_)
        have hP : va_P D zcl [(a, .inl (cI, n, .inl (upd g (nI i).toNatClampNeg v)))] H := hP
        have hD : va_D A [(a, .inl (cI, n, .inl (upd g (nI i).toNatClampNeg v)))] := hD
        rw [ncl (by omega)] at hP hD
        refine lv_iinc (v := nI (i + 1)) (lv' := [(2, .int (nI (i + 1))), (3, .int (nI n)), (0, .ref a), (1, .int v)]) hx hb dJ7_fill_53178_14 hl (k := 0) rfl (nI_1 i) (by decide) rfl (fun ls hl => ?_)
        refine lv_goto (tgt := 5) hx hb dJ7_fill_53178_17 (by decide) ?_
        refine ih (i + 1) (upd g i v) H locs ls (by omega) (by omega) (fun j hj => ?_) hP hD hS hl
        unfold upd
        by_cases e : j = i
        · rw [if_pos e]
        · rw [if_neg e]; exact hg j (by omega)
  exact loop (n + 1) 0 f _ _ ls (by omega) (by omega) (fun j hj => by omega) hP hD hS (lv_sub hl [1, 0, 2, 3] rfl)
def rmRow : Room := { frames := 12, cells := 2, slots := 512, locals := 300 }
set_option maxHeartbeats 1000000 in
set_option maxRecDepth 100000 in
theorem c_Row (l : Launch) (D : va_G) (cI : ClassId) (q0 sz : Nat) : Met l yX1_init wsX1_init rmRow (va_Pc [.ref q0] (fun U => U.heap.size = sz ∧ va_P D zcl [(q0, .inr (1, [.null, .null, .int 0, .int 0]))] U.heap ∧ va_K D zcl [(cI, .int)] U ∧ va_D (fun _ => True) [(q0, .inr (1, [.null, .null, .int 0, .int 0]))]))
    (va_Qv (fun _ : (Nat × Nat) × (Nat → Int32) => True) (fun u t => (∀ j, j < 256 → u.2 j = M1) ∧ va_P D zcl [(q0, .inr (1, [.ref u.1.1, .ref u.1.2, .int 0, .int 0])), (u.1.1, .inl (cI, 256, .inl u.2)), (u.1.2, .inl (cI, 256, .inl (fun _ => 0)))] t.heap ∧ va_D (va_A [(q0, .inr (1, [.null, .null, .int 0, .int 0]))] sz) [(q0, .inr (1, [.ref u.1.1, .ref u.1.2, .int 0, .int 0])), (u.1.1, .inl (cI, 256, .inl u.2)), (u.1.2, .inl (cI, 256, .inl (fun _ => 0)))]) (va_A [(q0, .inr (1, [.null, .null, .int 0, .int 0]))] sz)) 2 512 (va_A [(q0, .inr (1, [.null, .null, .int 0, .int 0]))] sz) := by
  refine Met.ofW (cc := cX1_init) (maxL := 1) (ret := none) (by decide) rfl ?_
  intro p e s m args below meth c s₁ B hml hv
  obtain ⟨rfl, hsz, hP, hK, hD0⟩ := hv
  have hx := B.exec
  have hb := B.bytes
  have hr := B.returns
  have hts := atoms_spec (ws := wsX1_init) B.pre
  have hown : s.vm.findClass RX1 = some m.cls := findClass_of_methodNamed B.named
  have hlocks := B.notSynchronized
  have hin : meth.name = "<init>" := (name_of_methodNamed B.named B.method).1
  subst hsz
  have hD := hD0.self (sz := s.heap.size)
  generalize hAe : va_A [(q0, .inr (1, [.null, .null, .int 0, .int 0]))] s.heap.size = A at hD ⊢
  have hA : ∀ q : Nat, s.heap.size ≤ q → A q := fun q h => by rw [← hAe]; exact Or.inr h
  have hS : va_S A s.heap s.heap [] := va_S.rf
  have hl := lv_entry ([.ref q0]) (n := 1) (Nat.le_of_ble_eq_true rfl)
  rw [lg_entry_eq]
  generalize (lg_sl ([.ref q0]) ++ List.replicate (1 - (lg_sl ([.ref q0])).length) Slot.unset).toArray = ls at hl ⊢
  have hl : lv_has ls 1 [(0, .ref q0)] := hl
  refine lv_aload_n hx hb dX1_init_0 rfl (lv_at hl 0 rfl) ?_
  refine W.objInit hx hb hown (hts (.methodLink RX1 3 objectInit) (by decide +kernel)) (hts (.instanceMethod objectInit) (by decide +kernel)) (hts _ (List.mem_cons_of_mem _ (List.mem_append_left _ (List.mem_of_getElem? (i := 2) rfl)))) rfl (by rw [hml]; exact hl.1) rfl dX1_init_1 (Nat.le_of_ble_eq_true rfl) (Nat.le_of_ble_eq_true rfl) ?_
  refine W.eq (g2 := F0 m 4 ls []) rfl ?_
  refine lv_aload_n hx hb dX1_init_4 rfl (lv_at hl 0 rfl) ?_
  refine lv_sipush (v := nI 256) hx hb dX1_init_5 (by decide) ?_
  refine va_newa (ty := .int) (N' := 256) (atype := .int) (a0 := (256, .inl (fun _ => 0))) hx hb (hts (.arrayClass .int) (by decide +kernel)) rfl hK hP hD hS hA (fun cA => vp_cell_i cA 256 (fun _ => 0)) (nI_nn (by omega)) (ncl (by omega)) (by show 256 * 4 ≤ 536870912; decide) (Nat.le_of_ble_eq_true rfl) (Nat.le_of_ble_eq_true rfl) dX1_init_8 (fun a1 cA H hK1 hP hD hS => ?_)
  have ec : cA = cI := (ka_eq hK1 0 1 rfl rfl).symm
  subst ec
  have hP : va_P D zcl [(q0, .inr (1, [.null, .null, .int 0, .int 0])), (a1, .inl (cA, 256, .inl (fun _ => 0)))] H := hP
  have hD : va_D A [(q0, .inr (1, [.null, .null, .int 0, .int 0])), (a1, .inl (cA, 256, .inl (fun _ => 0)))] := hD
  refine va_putF (D := D) (ci := 1) (v := .ref a1) (ty := .array .int) (C := RX1) (T := TX1) (N := 4) hx hb hts (by decide +kernel) tyX1 tyX1_ok nmX1 hown hK hP hD hS 0 rfl rfl 0 (by decide) (hts (.fieldLink RX1 9 "SharedLeaves$Row" "leafPlaces" "[I") (by decide +kernel)) (fun _ h9 => h9) rfl hin rfl (by decide +kernel) rfl rfl (Nat.le_of_ble_eq_true rfl) dX1_init_10 (fun H locs hP hD hS => ?_)
  have hP : va_P D zcl [(q0, .inr (1, [.ref a1, .null, .int 0, .int 0])), (a1, .inl (cA, 256, .inl (fun _ => 0)))] H := hP
  have hD : va_D A [(q0, .inr (1, [.ref a1, .null, .int 0, .int 0])), (a1, .inl (cA, 256, .inl (fun _ => 0)))] := hD
  refine lv_aload_n hx hb dX1_init_13 rfl (lv_at hl 0 rfl) ?_
  refine lv_sipush (v := nI 256) hx hb dX1_init_14 (by decide) ?_
  refine va_newa (ty := .int) (N' := 256) (atype := .int) (a0 := (256, .inl (fun _ => 0))) hx hb (hts (.arrayClass .int) (by decide +kernel)) rfl hK hP hD hS hA (fun cA => vp_cell_i cA 256 (fun _ => 0)) (nI_nn (by omega)) (ncl (by omega)) (by show 256 * 4 ≤ 536870912; decide) (Nat.le_of_ble_eq_true rfl) (Nat.le_of_ble_eq_true rfl) dX1_init_17 (fun a2 cB H hK2 hP hD hS => ?_)
  have ec : cB = cA := (ka_eq hK2 0 1 rfl rfl).symm
  subst ec
  have hP : va_P D zcl [(q0, .inr (1, [.ref a1, .null, .int 0, .int 0])), (a1, .inl (cB, 256, .inl (fun _ => 0))), (a2, .inl (cB, 256, .inl (fun _ => 0)))] H := hP
  have hD : va_D A [(q0, .inr (1, [.ref a1, .null, .int 0, .int 0])), (a1, .inl (cB, 256, .inl (fun _ => 0))), (a2, .inl (cB, 256, .inl (fun _ => 0)))] := hD
  refine va_putF (D := D) (ci := 1) (v := .ref a2) (ty := .array .int) (C := RX1) (T := TX1) (N := 4) hx hb hts (by decide +kernel) tyX1 tyX1_ok nmX1 hown hK hP hD hS 0 rfl rfl 1 (by decide) (hts (.fieldLink RX1 15 "SharedLeaves$Row" "numbers" "[I") (by decide +kernel)) (fun _ h9 => h9) rfl hin rfl (by decide +kernel) rfl rfl (Nat.le_of_ble_eq_true rfl) dX1_init_19 (fun H locs hP hD hS => ?_)
  have hP : va_P D zcl [(q0, .inr (1, [.ref a1, .ref a2, .int 0, .int 0])), (a1, .inl (cB, 256, .inl (fun _ => 0))), (a2, .inl (cB, 256, .inl (fun _ => 0)))] H := hP
  have hD : va_D A [(q0, .inr (1, [.ref a1, .ref a2, .int 0, .int 0])), (a1, .inl (cB, 256, .inl (fun _ => 0))), (a2, .inl (cB, 256, .inl (fun _ => 0)))] := hD
  refine lv_aload_n hx hb dX1_init_22 rfl (lv_at hl 0 rfl) ?_
  refine lv_iconst (v := 0) hx hb dX1_init_23 (by decide) ?_
  refine va_put (D := D) (ci := 1) (v := .int 0) (ty := .boolean) (C := RX1) (T := TX1) (N := 4) hx hb hts (by decide +kernel) tyX1 tyX1_ok nmX1 hown hK hP hD hS 0 rfl rfl 2 (by decide) (hts (.fieldLink RX1 18 "SharedLeaves$Row" "there" "Z") (by decide +kernel)) (fun _ h9 => h9) rfl (by decide +kernel) rfl rfl (Nat.le_of_ble_eq_true rfl) dX1_init_24 (fun H locs hP hD hS => ?_)
  have hP : va_P D zcl [(q0, .inr (1, [.ref a1, .ref a2, .int 0, .int 0])), (a1, .inl (cB, 256, .inl (fun _ => 0))), (a2, .inl (cB, 256, .inl (fun _ => 0)))] H := hP
  have hD : va_D A [(q0, .inr (1, [.ref a1, .ref a2, .int 0, .int 0])), (a1, .inl (cB, 256, .inl (fun _ => 0))), (a2, .inl (cB, 256, .inl (fun _ => 0)))] := hD
  refine lv_aload_n hx hb dX1_init_27 rfl (lv_at hl 0 rfl) ?_
  refine lv_iconst (v := 0) hx hb dX1_init_28 (by decide) ?_
  refine va_put (D := D) (ci := 1) (v := .int 0) (ty := .int) (C := RX1) (T := TX1) (N := 4) hx hb hts (by decide +kernel) tyX1 tyX1_ok nmX1 hown hK hP hD hS 0 rfl rfl 3 (by decide) (hts (.fieldLink RX1 22 "SharedLeaves$Row" "length" "I") (by decide +kernel)) (fun _ h9 => h9) rfl (by decide +kernel) rfl rfl (Nat.le_of_ble_eq_true rfl) dX1_init_29 (fun H locs hP hD hS => ?_)
  have hP : va_P D zcl [(q0, .inr (1, [.ref a1, .ref a2, .int 0, .int 0])), (a1, .inl (cB, 256, .inl (fun _ => 0))), (a2, .inl (cB, 256, .inl (fun _ => 0)))] H := hP
  have hD : va_D A [(q0, .inr (1, [.ref a1, .ref a2, .int 0, .int 0])), (a1, .inl (cB, 256, .inl (fun _ => 0))), (a2, .inl (cB, 256, .inl (fun _ => 0)))] := hD
  refine lv_aload_n hx hb dX1_init_32 rfl (lv_at hl 0 rfl) ?_
  refine va_get (D := D) (ci := 1) (v := .ref a1) (C := RX1) (T := TX1) (N := 4) hx hb hts (by decide +kernel) hown hK hP 0 rfl rfl 0 (by decide) (hts (.fieldLink RX1 9 "SharedLeaves$Row" "leafPlaces" "[I") (by decide +kernel)) (fun _ h9 => h9) rfl dX1_init_33 ?_
  refine lv_iconst (v := M1) hx hb dX1_init_36 (by decide) ?_
  have hPc := hP.sub (ws' := [(a1, .inl (cB, 256, .inl (fun _ => 0)))]) [1] rfl
  have hDc := hD.sub (ws' := [(a1, .inl (cB, 256, .inl (fun _ => 0)))]) [1] (by decide) rfl
  have hFc := va_free (wc := [(a1, .inl (cB, 256, .inl (fun _ => 0)))]) hD hS hA [1] rfl
  refine va_callv (va_runS (As := [.ref a1, .int M1]) (rest := []) ⟨hx, hb, hml, hown, hts⟩ (c_fill l D cB a1 256 H.size (fun _ => 0) M1 (by decide)) (va_cwS 2 hts gX1_init_J7_fill_53178 rfl rfl rfl (by decide +kernel) ⟨Nat.le_of_ble_eq_true rfl, Nat.le_of_ble_eq_true rfl⟩) ⟨fun a U g mk q => by obtain ⟨q0, q1, qP, qK, qD⟩ := q; exact ⟨q0, q1, qP, va_K.moved (u := U) (U := U.calling g mk a) (Vm.Alike.refl U.vm) qK, qD⟩, fun U hU hW => ⟨rfl, by rw [hU], by rw [hU]; exact hPc, va_K.moved hW.alike hK, hDc.weaken (fun _ _ _ _ => trivial)⟩⟩ rfl rfl hl.1 rfl (lv_room (Nat.le_of_ble_eq_true rfl)) dX1_init_37 ⟨Nat.le_of_ble_eq_true rfl, Nat.le_of_ble_eq_true rfl⟩) hS (fun q _ h => hFc q h) hFc (fun u t H1 locs ht hvm hw hB hz1 hk1 hS => ?_)
  rw [ht] at hB
  obtain ⟨hP, hD⟩ := va_join (wr := [(q0, .inr (1, [.ref a1, .ref a2, .int 0, .int 0])), (a2, .inl (cB, 256, .inl (fun _ => 0)))]) (w1 := [(a1, .inl (cB, 256, .inl u))]) hP hD [1] [0, 2] rfl rfl (by decide) (by decide) hk1 hFc hB ⟨fun i j p q hi hj _ => by
      have hi2 := (List.getElem?_eq_some_iff.mp hi).1
      have hj2 := (List.getElem?_eq_some_iff.mp hj).1
      simp at hi2 hj2
      omega, fun k q hk => by
      have hk2 := (List.getElem?_eq_some_iff.mp hk).1
      simp at hk2
      subst hk2
      cases hk
      exact Or.inl ⟨0, _, rfl⟩⟩
  have hP9 := hP.sub (ws' := [(q0, .inr (1, [.ref a1, .ref a2, .int 0, .int 0])), (a1, .inl (cB, 256, .inl u)), (a2, .inl (cB, 256, .inl (fun _ => 0)))]) [0, 2, 1] rfl
  have hD9 := hD.sub (ws' := [(q0, .inr (1, [.ref a1, .ref a2, .int 0, .int 0])), (a1, .inl (cB, 256, .inl u)), (a2, .inl (cB, 256, .inl (fun _ => 0)))]) [0, 2, 1] (by decide) rfl
  exact W.vret hx hb hr (fun t ht hW => ⟨⟨((a1, a2), u), rfl, trivial, hw, by rw [ht]; exact hP9, hD9⟩, hS.F ht⟩) hS.2.2 dX1_init_40 (hlocks := hlocks)
