/-! the world of a SharedLeaves: 57 cells. 0 the object; 1 its rows; 2 its places; 3 values, 4 holders, 5 free; 6 next, 7 spare, 8 plans; 9 + a: row a; 25 + a: its leafPlaces; 41 + a: its numbers. st k j: number j of cell k (of an object: its field j) -/
abbrev zcl : List vw_C := [(RX0, TX0, 5), (RX1, TX1, 4), (RX2, TX2, 5), (RX3, TX3, 8)]
abbrev zty (cI cR : ClassId) : List (ClassId × FieldType) := [(cI, .int), (cR, .object RX1)]
def al (k : Nat) : Nat := if k = 3 then 8192 else if k = 4 ∨ k = 5 then 512 else if k = 6 ∨ k = 7 then 4096 else 256
def sce (cI cR : ClassId) (ad : Nat → Nat) (st : zS) (k : Nat) : va_E :=
  if k = 0 then .inr (2, [.ref (ad 1), .ref (ad 2), .ref (ad 6), .ref (ad 7), .ref (ad 8)])
  else if k = 1 then .inl (cR, 16, .inr (.inr (.inr (.inr (fun j => some (ad (9 + j)))))))
  else if k = 2 then .inr (0, [.ref (ad 3), .ref (ad 4), .ref (ad 5), .int (st 2 3), .int (st 2 4)])
  else if 9 ≤ k ∧ k < 25 then .inr (1, [.ref (ad (k + 16)), .ref (ad (k + 32)), .int (st k 2), .int (st k 3)])
  else .inl (cI, al k, .inl (st k))
abbrev isRow (k : Nat) : Prop := 9 ≤ k ∧ k < 25
abbrev isArr (k : Nat) : Prop := (3 ≤ k ∧ k < 9) ∨ (25 ≤ k ∧ k < 57)
theorem isRow.p {k : Nat} (h : isRow k) : isArr (k + 16) := Or.inr (by omega)
theorem isRow.n {k : Nat} (h : isRow k) : isArr (k + 32) := Or.inr (by omega)
theorem isRow.lt {k : Nat} (h : isRow k) : k < 57 := by omega
theorem isArr.lt {k : Nat} (h : isArr k) : k < 57 := by omega
abbrev inb (i : Int32) (n : Nat) : Prop := 0 ≤ i.toInt ∧ i.toInt < (n : Int)
theorem inb.vp {i : Int32} {n : Nat} (h : inb i n) : vp_in i n := vp_in_iff.mpr h
theorem inb.nat {i : Int32} {n : Nat} (h : inb i n) : i.toNatClampNeg < n := Nat.not_le.mp fun q => h.vp (Or.inr q)
theorem inb.row {i : Int32} (h : inb i 16) : isRow (9 + i.toNatClampNeg) := by have := h.nat; omega
abbrev cpok (sp dp n : Int32) (n0 n1 : Nat) : Prop := ¬ sp < 0 ∧ ¬ dp < 0 ∧ ¬ n < 0 ∧ sp.toNatClampNeg + n.toNatClampNeg ≤ n0 ∧ dp.toNatClampNeg + n.toNatClampNeg ≤ n1
def upA (st : zS) (K : Nat) (g : Nat → Int32) : zS := fun k => if k = K then g else st k
theorem upA_s {st : zS} {K : Nat} {g : Nat → Int32} : upA st K g K = g := by simp [upA]
theorem upA_n {st : zS} {K k : Nat} {g : Nat → Int32} (h : k ≠ K) : upA st K g k = st k := by simp [upA, h]
section
variable {cI cR : ClassId} {ad : Nat → Nat} {st : zS}
theorem sce_0 : sce cI cR ad st 0 = .inr (2, [.ref (ad 1), .ref (ad 2), .ref (ad 6), .ref (ad 7), .ref (ad 8)]) := rfl
theorem sce_1 : sce cI cR ad st 1 = .inl (cR, 16, .inr (.inr (.inr (.inr (fun j => some (ad (9 + j))))))) := rfl
theorem sce_2 : sce cI cR ad st 2 = .inr (0, [.ref (ad 3), .ref (ad 4), .ref (ad 5), .int (st 2 3), .int (st 2 4)]) := rfl
theorem sce_row {k : Nat} (h : isRow k) : sce cI cR ad st k = .inr (1, [.ref (ad (k + 16)), .ref (ad (k + 32)), .int (st k 2), .int (st k 3)]) := by
  unfold sce
  rw [if_neg (by omega), if_neg (by omega), if_neg (by omega), if_pos h]
theorem sce_arr {k : Nat} (h : isArr k) : sce cI cR ad st k = .inl (cI, al k, .inl (st k)) := by
  unfold sce
  rw [if_neg (by omega), if_neg (by omega), if_neg (by omega), if_neg (by omega)]
theorem sce_ne {K j : Nat} {g : Nat → Int32} (h : j ≠ K) : sce cI cR ad (upA st K g) j = sce cI cR ad st j := by
  unfold sce
  rw [upA_n h]
  by_cases h2 : j = 2
  · subst h2
    rw [upA_n h]
  · simp only [if_neg h2]
end
section
variable {p : Program} {l : Launch} {e : Env} {R : Room} {s : State} {m : MethodId} {args : Array Value} {below : List Frame} {meth : Method} {c : Code} {Q : State → Prop} {D : va_G} {cI cR : ClassId} {ad : Nat → Nat} {nL : Nat} {cells slots pc : Nat} {lv lv' : List (Nat × Value)} {rest : List Value} {cc : ByteArray} {own : String} {Ts : List Cond} {st : zS}
theorem s_get0 (C : zC p s m args meth c cc own Ts D zcl (zty cI cR) 57 ad nL) (hin : ∀ w ∈ wsX20, w ∈ Ts) (k : Nat) (hk : k < 5) {index : Nat} (hlink : Cond.fieldLink own index (TX2 k).1 (TX2 k).2.1 (TX2 k).2.2.1 ∈ Ts) (K : Nat) (hv : ([.ref (ad 1), .ref (ad 2), .ref (ad 6), .ref (ad 7), .ref (ad 8)] : List Value)[k]? = some (.ref (ad K))) (hdg : decode cc pc = .ok (.getfield index, 3))
    (kk : zJ p l e R s m args below meth c Q D zcl 57 ad nL (sce cI cR ad st) cells slots (pc + 3) lv (.ref (ad K) :: rest)) : zJ p l e R s m args below meth c Q D zcl 57 ad nL (sce cI cR ad st) cells slots pc lv (.ref (ad 0) :: rest) :=
  j_getf C hin 0 (by decide) sce_0 rfl k hk hlink hv hdg kk
theorem s_get2 (C : zC p s m args meth c cc own Ts D zcl (zty cI cR) 57 ad nL) (hin : ∀ w ∈ wsX00, w ∈ Ts) (k : Nat) (hk : k < 5) {index : Nat} (hlink : Cond.fieldLink own index (TX0 k).1 (TX0 k).2.1 (TX0 k).2.2.1 ∈ Ts) {v : Value} (hv : ([.ref (ad 3), .ref (ad 4), .ref (ad 5), .int (st 2 3), .int (st 2 4)] : List Value)[k]? = some v) (hdg : decode cc pc = .ok (.getfield index, 3))
    (kk : zJ p l e R s m args below meth c Q D zcl 57 ad nL (sce cI cR ad st) cells slots (pc + 3) lv (v :: rest)) : zJ p l e R s m args below meth c Q D zcl 57 ad nL (sce cI cR ad st) cells slots pc lv (.ref (ad 2) :: rest) :=
  j_getf C hin 2 (by decide) sce_2 rfl k hk hlink hv hdg kk
theorem s_getR (C : zC p s m args meth c cc own Ts D zcl (zty cI cR) 57 ad nL) (hin : ∀ w ∈ wsX10, w ∈ Ts) {K : Nat} (hK : isRow K) (k : Nat) (hk : k < 4) {index : Nat} (hlink : Cond.fieldLink own index (TX1 k).1 (TX1 k).2.1 (TX1 k).2.2.1 ∈ Ts) {v : Value} (hv : ([.ref (ad (K + 16)), .ref (ad (K + 32)), .int (st K 2), .int (st K 3)] : List Value)[k]? = some v) (hdg : decode cc pc = .ok (.getfield index, 3))
    (kk : zJ p l e R s m args below meth c Q D zcl 57 ad nL (sce cI cR ad st) cells slots (pc + 3) lv (v :: rest)) : zJ p l e R s m args below meth c Q D zcl 57 ad nL (sce cI cR ad st) cells slots pc lv (.ref (ad K) :: rest) :=
  j_getf C hin K hK.lt (sce_row hK) rfl k hk hlink hv hdg kk
theorem s_put2 (C : zC p s m args meth c cc own Ts D zcl (zty cI cR) 57 ad nL) (hin : ∀ w ∈ wsX00, w ∈ Ts) (k : Nat) (hk : k = 3 ∨ k = 4) {index : Nat} (hlink : Cond.fieldLink own index (TX0 k).1 (TX0 k).2.1 (TX0 k).2.2.1 ∈ Ts) {x : Int32} (hdg : decode cc pc = .ok (.putfield index, 3))
    (kk : zJ p l e R s m args below meth c Q D zcl 57 ad nL (sce cI cR ad (upA st 2 (upd (st 2) k x))) cells slots (pc + 3) lv rest) : zJ p l e R s m args below meth c Q D zcl 57 ad nL (sce cI cR ad st) cells slots pc lv (.int x :: .ref (ad 2) :: rest) := by
  rcases hk with rfl | rfl
  · exact j_putf C hin tyX0 tyX0_ok nmX0 2 (by decide) sce_2 rfl 3 (by decide) hlink rfl (ty := .int) (by decide +kernel) rfl rfl (Nat.le_of_ble_eq_true rfl) hdg (E' := sce cI cR ad (upA st 2 (upd (st 2) 3 x))) (by rw [sce_2]; simp [upA, upd]) (fun j _ hj => sce_ne hj) kk
  · exact j_putf C hin tyX0 tyX0_ok nmX0 2 (by decide) sce_2 rfl 4 (by decide) hlink rfl (ty := .int) (by decide +kernel) rfl rfl (Nat.le_of_ble_eq_true rfl) hdg (E' := sce cI cR ad (upA st 2 (upd (st 2) 4 x))) (by rw [sce_2]; simp [upA, upd]) (fun j _ hj => sce_ne hj) kk
theorem s_putRl (C : zC p s m args meth c cc own Ts D zcl (zty cI cR) 57 ad nL) (hin : ∀ w ∈ wsX10, w ∈ Ts) {K : Nat} (hK : isRow K) {index : Nat} (hlink : Cond.fieldLink own index (TX1 3).1 (TX1 3).2.1 (TX1 3).2.2.1 ∈ Ts) {x : Int32} (hdg : decode cc pc = .ok (.putfield index, 3))
    (kk : zJ p l e R s m args below meth c Q D zcl 57 ad nL (sce cI cR ad (upA st K (upd (st K) 3 x))) cells slots (pc + 3) lv rest) : zJ p l e R s m args below meth c Q D zcl 57 ad nL (sce cI cR ad st) cells slots pc lv (.int x :: .ref (ad K) :: rest) :=
  j_putf C hin tyX1 tyX1_ok nmX1 K hK.lt (sce_row hK) rfl 3 (by decide) hlink rfl (ty := .int) (by decide +kernel) rfl rfl (Nat.le_of_ble_eq_true rfl) hdg (E' := sce cI cR ad (upA st K (upd (st K) 3 x))) (by rw [sce_row hK]; simp [upA, upd]) (fun j _ hj => sce_ne hj) kk
theorem s_putRt (C : zC p s m args meth c cc own Ts D zcl (zty cI cR) 57 ad nL) (hin : ∀ w ∈ wsX10, w ∈ Ts) {K : Nat} (hK : isRow K) {index : Nat} (hlink : Cond.fieldLink own index (TX1 2).1 (TX1 2).2.1 (TX1 2).2.2.1 ∈ Ts) {x : Int32} (hx : narrow .boolean (.int x) = .int x) (hf : fits .boolean (.int x) = true) (hdg : decode cc pc = .ok (.putfield index, 3))
    (kk : zJ p l e R s m args below meth c Q D zcl 57 ad nL (sce cI cR ad (upA st K (upd (st K) 2 x))) cells slots (pc + 3) lv rest) : zJ p l e R s m args below meth c Q D zcl 57 ad nL (sce cI cR ad st) cells slots pc lv (.int x :: .ref (ad K) :: rest) :=
  j_putf C hin tyX1 tyX1_ok nmX1 K hK.lt (sce_row hK) rfl 2 (by decide) hlink rfl (ty := .boolean) (by decide +kernel) hx hf (Nat.le_of_ble_eq_true rfl) hdg (E' := sce cI cR ad (upA st K (upd (st K) 2 x))) (by rw [sce_row hK]; simp [upA, upd]) (fun j _ hj => sce_ne hj) kk
theorem s_iald (C : zC p s m args meth c cc own Ts D zcl (zty cI cR) 57 ad nL) {K : Nat} (hK : isArr K) {i : Int32} (hi : inb i (al K)) (hdg : decode cc pc = .ok (.iaload, 1))
    (kk : zJ p l e R s m args below meth c Q D zcl 57 ad nL (sce cI cR ad st) cells slots (pc + 1) lv (.int (st K i.toNatClampNeg) :: rest)) : zJ p l e R s m args below meth c Q D zcl 57 ad nL (sce cI cR ad st) cells slots pc lv (.int i :: .ref (ad K) :: rest) :=
  j_iald C K 0 hK.lt (sce_arr hK) rfl hi.vp hdg kk
theorem s_iast (C : zC p s m args meth c cc own Ts D zcl (zty cI cR) 57 ad nL) {K : Nat} (hK : isArr K) {i x : Int32} (hi : inb i (al K)) (hdg : decode cc pc = .ok (.iastore, 1))
    (kk : zJ p l e R s m args below meth c Q D zcl 57 ad nL (sce cI cR ad (upA st K (upd (st K) i.toNatClampNeg x))) cells slots (pc + 1) lv rest) : zJ p l e R s m args below meth c Q D zcl 57 ad nL (sce cI cR ad st) cells slots pc lv (.int x :: .int i :: .ref (ad K) :: rest) :=
  j_iast C K 0 hK.lt (sce_arr hK) rfl hi.vp hdg (E' := sce cI cR ad (upA st K (upd (st K) i.toNatClampNeg x))) (by rw [sce_arr hK, upA_s]) (fun j _ hj => sce_ne hj) kk
theorem s_aald (C : zC p s m args meth c cc own Ts D zcl (zty cI cR) 57 ad nL) {i : Int32} (hi : inb i 16) (hdg : decode cc pc = .ok (.aaload, 1))
    (kk : zJ p l e R s m args below meth c Q D zcl 57 ad nL (sce cI cR ad st) cells slots (pc + 1) lv (.ref (ad (9 + i.toNatClampNeg)) :: rest)) : zJ p l e R s m args below meth c Q D zcl 57 ad nL (sce cI cR ad st) cells slots pc lv (.int i :: .ref (ad 1) :: rest) :=
  j_aald C 1 1 (by decide) sce_1 rfl hi.vp rfl hdg kk
theorem s_alen (C : zC p s m args meth c cc own Ts D zcl (zty cI cR) 57 ad nL) {K : Nat} (hK : isArr K) (hdg : decode cc pc = .ok (.arraylength, 1))
    (kk : zJ p l e R s m args below meth c Q D zcl 57 ad nL (sce cI cR ad st) cells slots (pc + 1) lv (.int (nI (al K)) :: rest)) : zJ p l e R s m args below meth c Q D zcl 57 ad nL (sce cI cR ad st) cells slots pc lv (.ref (ad K) :: rest) :=
  j_alen C K 0 hK.lt (sce_arr hK) rfl rfl hdg kk
theorem s_copy (C : zC p s m args meth c cc own Ts D zcl (zty cI cR) 57 ad nL) {index : Nat} (h1 : Cond.methodLink own index arraycopyName ∈ Ts) (h2 : Cond.native arraycopyName ∈ Ts) (h3 : Cond.static arraycopyName ∈ Ts) (h4 : Cond.initialized "java/lang/System" ∈ Ts) {K0 K1 : Nat} (hK0 : isArr K0) (hK1 : isArr K1) {sp dp n : Int32} (hk : cpok sp dp n (al K0) (al K1))
    (hframes : 1 ≤ R.frames) (hlocals : (rest.map fun v => v.category).sum + (nativeFrameWords "java/lang/System" "arraycopy" 5 + 11) ≤ R.locals) (hdg : decode cc pc = .ok (.invokestatic index, 3))
    (kk : zJ p l e R s m args below meth c Q D zcl 57 ad nL (sce cI cR ad (upA st K1 (va_cpy (st K0) (st K1) sp.toNatClampNeg dp.toNatClampNeg n.toNatClampNeg))) cells slots (pc + 3) lv rest) : zJ p l e R s m args below meth c Q D zcl 57 ad nL (sce cI cR ad st) cells slots pc lv (.int n :: .int dp :: .ref (ad K1) :: .int sp :: .ref (ad K0) :: rest) :=
  j_copy C h1 h2 h3 h4 K0 K1 0 hK0.lt hK1.lt (sce_arr hK0) (sce_arr hK1) rfl hk.1 hk.2.1 hk.2.2.1 hk.2.2.2.1 hk.2.2.2.2 hframes hlocals hdg (E' := sce cI cR ad (upA st K1 (va_cpy (st K0) (st K1) sp.toNatClampNeg dp.toNatClampNeg n.toNatClampNeg))) (by rw [sce_arr hK1, upA_s]) (fun j _ hj => sce_ne hj) kk
end
/-! what is carried for the class's throws -/
abbrev sstr : List (Nat × String) := [(35, "the length isn't 0 .. 4096"), (85, "more than 4096 values"), (111, "the values would lie outside the array"), (126, "neither the least nor the greatest"), (151, "no such array"), (155, "all arrays are there"), (158, "no such index"), (160, "no such range"), (162, "no room")]
abbrev sbad : List Cond := [.castable "java/lang/IllegalArgumentException" "java/lang/IllegalArgumentException", .castable "java/lang/IllegalStateException" "java/lang/IllegalStateException", .declares (Bundle.initS "java/lang/RuntimeException"), .declares (Bundle.initS "java/lang/Exception"), .declares (Bundle.initS "java/lang/Throwable")]
theorem va_Nw_warmD {y : MethodName} {s U : State} (hW : s.WarmedH U.vm) (hZ : va_Nw (.declares y) s) : va_Nw (.declares y) U := va_tabs rfl (rfl : (s.setVm U.vm).vm = U.vm) (by rw [Cond.declares_setVm hW.alike]; exact hZ)
theorem sbad_warm {s U : State} (hW : s.WarmedH U.vm) (h : ∀ w ∈ sbad, va_Nw w s) : ∀ w ∈ sbad, va_Nw w U := by
  intro w hw
  have hs := h w hw
  simp only [sbad, List.mem_cons, List.not_mem_nil, or_false] at hw
  rcases hw with rfl | rfl | rfl | rfl | rfl
  · exact va_Nw.warmC hW hs
  · exact va_Nw.warmC hW hs
  · exact va_Nw_warmD hW hs
  · exact va_Nw_warmD hW hs
  · exact va_Nw_warmD hW hs
theorem sbad_ot : ∀ w ∈ sbad, w.onTables = true := by decide +kernel
def sT (ad : Nat → Nat) (sz : Nat) (U : State) : Prop :=
  (∀ q ∈ sstr, ∃ a : Nat, vk_R RX2 q.1 q.2 a U) ∧ vx_Zq Bundle.tN "UNASSIGNED_STACK" Bundle.steD (zA 57 ad sz) U U.heap ∧ vx_Zq Bundle.tN "SUPPRESSED_SENTINEL" Bundle.listD (zA 57 ad sz) U U.heap ∧
  (∀ w ∈ sbad, va_Nw w U) ∧ va_Nw (.methodLinkNest RX1 32 yX2_leavesFor RX2) U
theorem sT_S {ad : Nat → Nat} : zTS 57 ad (sT ad) := by
  refine ⟨fun sz U g mk a h => ⟨fun q hq => ?_, ?_, ?_, ?_, ?_⟩, fun s U locs h hS hW => ⟨fun q hq => ?_, ?_, ?_, ?_, ?_⟩⟩
  · obtain ⟨a9, h9⟩ := h.1 q hq
    exact ⟨a9, vk_R.same rfl h9⟩
  · exact vx_Zq.moved (u := U) (U := U.calling g mk a) (Vm.Alike.refl U.vm) h.2.1
  · exact vx_Zq.moved (u := U) (U := U.calling g mk a) (Vm.Alike.refl U.vm) h.2.2.1
  · exact fun w hw => va_Nw.same (u := U) (U := U.calling g mk a) (sbad_ot w hw) rfl (h.2.2.2.1 w hw)
  · exact va_Nw.same (u := U) (U := U.calling g mk a) rfl rfl h.2.2.2.2
  · obtain ⟨a9, h9⟩ := h.1 q hq
    exact ⟨a9, vk_R.warm hW h9⟩
  · exact ((vx_Zq.moved hW.alike h.2.1).kept (fun a h1 h2 => hS.2.1 a h1 h2)).narrow (zA_mono hS.1)
  · exact ((vx_Zq.moved hW.alike h.2.2.1).kept (fun a h1 h2 => hS.2.1 a h1 h2)).narrow (zA_mono hS.1)
  · exact sbad_warm hW h.2.2.2.1
  · exact va_Nw.warmM hW h.2.2.2.2
theorem bad_a : ∀ w ∈ (vx_atS RX2 37 "java/lang/IllegalArgumentException" ["java/lang/RuntimeException", "java/lang/Exception"]).filter (fun w => !goodWord w), w ∈ sbad := by decide +kernel
theorem bad_s : ∀ w ∈ (vx_atS RX2 157 "java/lang/IllegalStateException" ["java/lang/RuntimeException", "java/lang/Exception"]).filter (fun w => !goodWord w), w ∈ sbad := by decide +kernel
theorem good_a : ∀ w ∈ Cond.classLink RX2 33 "java/lang/IllegalArgumentException" :: Cond.initialized "java/lang/IllegalArgumentException" :: vx_atS RX2 37 "java/lang/IllegalArgumentException" ["java/lang/RuntimeException", "java/lang/Exception"], vx_ot w = true := by decide +kernel
theorem good_s : ∀ w ∈ Cond.classLink RX2 153 "java/lang/IllegalStateException" :: Cond.initialized "java/lang/IllegalStateException" :: vx_atS RX2 157 "java/lang/IllegalStateException" ["java/lang/RuntimeException", "java/lang/Exception"], vx_ot w = true := by decide +kernel
section
variable {p : Program} {l : Launch} {e : Env} {R : Room} {s : State} {m : MethodId} {args : Array Value} {below : List Frame} {meth : Method} {c : Code} {D : va_G} {cI cR : ClassId} {ad : Nat → Nat} {nL : Nat} {cells slots pc : Nat} {lv lv' : List (Nat × Value)} {rest : List Value} {cc : ByteArray} {Ts : List Cond} {st : zS} {mc ms : Nat}
/-- throw new IllegalArgumentException(text) -/
theorem s_throwA {β : Type} {Qr : Array Value → State → Outcome → State → Prop} {FM : zF β} (C : zC p s m args meth c cc RX2 Ts D zcl (zty cI cR) 57 ad nL) (hne : ∀ x ∈ c.exceptionTable.toList, False) (hl : l.stackTraces = false) (hT : sT ad s.heap.size s) (hk : Cond.classLink RX2 33 "java/lang/IllegalArgumentException" ∈ Ts) (hini : Cond.initialized "java/lang/IllegalArgumentException" ∈ Ts) (hat : ∀ w ∈ (vx_atS RX2 37 "java/lang/IllegalArgumentException" ["java/lang/RuntimeException", "java/lang/Exception"]).filter goodWord, w ∈ Ts)
    {is : Nat} {text : String} (hs0 : (is, text) ∈ sstr) (d0 : decode cc pc = .ok (.new 33, 3)) (d3 : decode cc (pc + 3) = .ok (.dup, 1)) (d4 : decode cc (pc + 4) = .ok (.ldc is, 2)) (d6 : decode cc (pc + 6) = .ok (.invokespecial 37, 3)) (d9 : decode cc (pc + 9) = .ok (.athrow, 1))
    (hRframes : 5 < R.frames) (hRlocals : (rest.map fun v => v.category).sum + 82 ≤ R.locals) (hRcells : cells + 1 ≤ R.cells) (hRslots : slots + 6 ≤ R.slots) (hF : some (.inr true, st) = FM) (hc : cells + 1 ≤ mc) (hs : slots + 6 ≤ ms) :
    zJ p l e R s m args below meth c (vx_MQ below Qr (zX D zcl 57 ad (sce cI cR ad) s.heap.size FM) args s mc ms (zA 57 ad s.heap.size)) D zcl 57 ad nL (sce cI cR ad st) cells slots pc lv rest := by
  intro H locs ls hP hS h
  obtain ⟨sa, hstr⟩ := hT.1 _ hs0
  refine vx_throwS C.1.1 C.1.2.1 hl C.1.2.2.2.1 (names := ["java/lang/RuntimeException", "java/lang/Exception"]) (by decide +kernel) (by decide +kernel) (C.1.2.2.2.2 _ hk) (C.1.2.2.2.2 _ hini) hstr
    (vx_hat (fun w hw => C.1.2.2.2.2 _ (hat w hw)) bad_a (fun w hw => va_Nw.use (sbad_ot w hw) (hT.2.2.2.1 w hw))) good_a hT.2.1 hT.2.2.1 hS (h.1.trans C.1.2.2.1.symm) d0 d3 d4 d6 d9 (fun x hx => (hne x hx).elim) hRframes hRlocals hRcells hRslots C.2.2.2 (fun t hvm hz hk9 => ⟨true, st, hF.symm, rfl, hP.kept (fun k q hq => hk9 q.1 (hP k q hq).lt), ⟨Nat.le_trans hS.1 hz, fun q h1 h2 => (hk9 q (Nat.lt_of_lt_of_le h1 hS.1)).trans (hS.2.1 q h1 h2)⟩⟩) hS.2.2 hc hs
/-- throw new IllegalStateException(text) -/
theorem s_throwS {β : Type} {Qr : Array Value → State → Outcome → State → Prop} {FM : zF β} (C : zC p s m args meth c cc RX2 Ts D zcl (zty cI cR) 57 ad nL) (hne : ∀ x ∈ c.exceptionTable.toList, False) (hl : l.stackTraces = false) (hT : sT ad s.heap.size s) (hk : Cond.classLink RX2 153 "java/lang/IllegalStateException" ∈ Ts) (hini : Cond.initialized "java/lang/IllegalStateException" ∈ Ts) (hat : ∀ w ∈ (vx_atS RX2 157 "java/lang/IllegalStateException" ["java/lang/RuntimeException", "java/lang/Exception"]).filter goodWord, w ∈ Ts)
    {is : Nat} {text : String} (hs0 : (is, text) ∈ sstr) (d0 : decode cc pc = .ok (.new 153, 3)) (d3 : decode cc (pc + 3) = .ok (.dup, 1)) (d4 : decode cc (pc + 4) = .ok (.ldc is, 2)) (d6 : decode cc (pc + 6) = .ok (.invokespecial 157, 3)) (d9 : decode cc (pc + 9) = .ok (.athrow, 1))
    (hRframes : 5 < R.frames) (hRlocals : (rest.map fun v => v.category).sum + 82 ≤ R.locals) (hRcells : cells + 1 ≤ R.cells) (hRslots : slots + 6 ≤ R.slots) (hF : some (.inr false, st) = FM) (hc : cells + 1 ≤ mc) (hs : slots + 6 ≤ ms) :
    zJ p l e R s m args below meth c (vx_MQ below Qr (zX D zcl 57 ad (sce cI cR ad) s.heap.size FM) args s mc ms (zA 57 ad s.heap.size)) D zcl 57 ad nL (sce cI cR ad st) cells slots pc lv rest := by
  intro H locs ls hP hS h
  obtain ⟨sa, hstr⟩ := hT.1 _ hs0
  refine vx_throwS C.1.1 C.1.2.1 hl C.1.2.2.2.1 (names := ["java/lang/RuntimeException", "java/lang/Exception"]) (by decide +kernel) (by decide +kernel) (C.1.2.2.2.2 _ hk) (C.1.2.2.2.2 _ hini) hstr
    (vx_hat (fun w hw => C.1.2.2.2.2 _ (hat w hw)) bad_s (fun w hw => va_Nw.use (sbad_ot w hw) (hT.2.2.2.1 w hw))) good_s hT.2.1 hT.2.2.1 hS (h.1.trans C.1.2.2.1.symm) d0 d3 d4 d6 d9 (fun x hx => (hne x hx).elim) hRframes hRlocals hRcells hRslots C.2.2.2 (fun t hvm hz hk9 => ⟨false, st, hF.symm, rfl, hP.kept (fun k q hq => hk9 q.1 (hP k q hq).lt), ⟨Nat.le_trans hS.1 hz, fun q h1 h2 => (hk9 q (Nat.lt_of_lt_of_le h1 hS.1)).trans (hS.2.1 q h1 h2)⟩⟩) hS.2.2 hc hs
end
/-- from the walk of a method's body to its contract -/
theorem z_ofJ {α : Type} {vl : α → Option Value} {l : Launch} {y : MethodName} {ws ws' : List Cond} {rm : Room} {D : va_G} {cl : List vw_C} {tys : List (ClassId × FieldType)} {N : Nat} {ad : Nat → Nat} {ce : zS → Nat → va_E} {TX : Nat → State → Prop} {mc ms : Nat} {av : List Value} {st : zS} {F : zF α} {cc : ByteArray} {maxL : Nat} {ret : Option FieldType} {lv : List (Nat × Value)}
    (hy : plainName y.cls = true) (hw : ws = Cond.code y cc maxL ret :: ws') (hav : (lg_sl av).length ≤ maxL) (hlv : lv_args 0 av = lv)
    (body : ∀ (p : Program) (e : Env) (s : State) (m : MethodId) (args : Array Value) (below : List Frame) (meth : Method) (c : Code), zC p s m args meth c cc y.cls ws D cl tys N ad maxL → (∀ x ∈ c.exceptionTable.toList, False) → TX s.heap.size s → meth.sig.returnType = ret → 
      zJ p l e rm s m args below meth c (vx_MQ below (zQ vl D cl N ad ce s.heap.size F) (zX D cl N ad ce s.heap.size F) args s mc ms (zA N ad s.heap.size)) D cl N ad maxL (ce st) 0 0 0 lv []) :
    zM vl l y ws rm D cl tys N ad ce TX mc ms av st F := by
  intro sz
  refine vx_ofW hy hw ?_
  intro p e s m args below meth c s₁ B hml hne hv
  obtain ⟨rfl, hsz, hP, hK, hD0, hT⟩ := hv
  subst hsz
  have hts := atoms_spec (ws := ws) B.pre
  have hown : s.vm.findClass y.cls = some m.cls := findClass_of_methodNamed B.named
  have hl := lv_entry av (n := maxL) hav
  rw [lg_entry_eq]
  generalize (lg_sl av ++ List.replicate (maxL - (lg_sl av).length) Slot.unset).toArray = ls at hl ⊢
  rw [hlv] at hl
  exact body p e s m av.toArray below meth c ⟨⟨B.exec, B.bytes, hml, hown, hts⟩, hK, fun E => zw_D (zw_self hD0), B.notSynchronized⟩ hne hT B.returns s.heap [] ls hP va_S.rf hl
