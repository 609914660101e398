/-! the helpers of the law: they call the class and catch -/
theorem vp01 : vp_in (0 : Int32) 1 := inb.vp (by decide)
section
variable {l : Launch} {D : va_G} {cI cR cZ cJ : ClassId} {ad : Nat → Nat}
def rmL_make : Room := { frames := 40, cells := 1, slots := 6, locals := 800 }
set_option maxHeartbeats 1000000 in
set_option maxRecDepth 100000 in
theorem hL_make (hl : l.stackTraces = false) (n : Nat) (i1 : Int32) (i2 : Int32) (st rt : zS) (o : Nat → Int64) (hn : fX2_make n i1 i2 st ≠ none) (sz : Nat) : Met l yL_make wsL_make rmL_make (lPc D cI cR cZ cJ ad st rt o sz [.ref (ad 0), .int i1, .int i2, .ref (ad 64)]) (lQc (fX2_make n i1 i2 st) (fun v : Int32 => some v.toInt64) D cI cR cZ cJ ad rt o sz) 1 6 (zA 65 ad sz) := by
  refine l_ofJ (cc := cL_make) (maxL := 5) (ret := some .int) (hh := [(0, 10, 13, 13), (0, 10, 17, 15)]) (lv := [(0, .ref (ad 0)), (1, .int i1), (2, .int i2), (3, .ref (ad 64))]) (by decide) rfl (Nat.le_of_ble_eq_true rfl) rfl ?_
  intro p e s m args below meth c C htab hT hr
  refine j_aload_n C dL_make_0 rfl 3 rfl ?_
  refine j_iconst (v := 0) C dL_make_1 (by decide) ?_
  refine j_aload_n C dL_make_2 rfl 0 rfl ?_
  refine j_iload_n C dL_make_3 rfl 1 rfl ?_
  refine j_iload_n C dL_make_4 rfl 2 rfl ?_
  refine l_callC C hT (As := [.int i1, .int i2]) (rest := [.int 0, .ref (ad 64)]) (kX2_make hl n i1 i2 st hn) (cwV 2 C.1.2.2.2.2 gL_make_X2_make rfl rfl rfl (by decide +kernel) ⟨(Nat.le_of_ble_eq_true rfl), (Nat.le_of_ble_eq_true rfl)⟩) rfl rfl (Nat.le_of_ble_eq_true rfl) dL_make_5 ⟨(Nat.le_of_ble_eq_true rfl), (Nat.le_of_ble_eq_true rfl)⟩ (fun r u hF => ?_) (fun b u hF H1 locs1 ls q ce9 hP1 hS1 hl1 h1 h2 h3 => ?_)
  · skip
    refine j_i2l (x := r) (rest := [.int 0, .ref (ad 64)]) C dL_make_8 ?_
    refine j_last (x := r.toInt64) (i := 0) (rest := []) C 64 3 (by decide) lce_o rfl vp01 dL_make_9 (E' := lce cI cR cZ cJ ad u rt (vp_updL o 0 (r.toInt64))) rfl (fun j hj hne => lce_ne j hj hne) ?_
    refine j_goto (tgt := 21) C dL_make_10 (by decide) ?_
    refine j_iconst (v := 0) C dL_make_21 (by decide) ?_
    exact l_iret C hr (Or.inl ⟨r, hF, rfl, rfl⟩) (Nat.le_of_ble_eq_true rfl) (Nat.le_of_ble_eq_true rfl) dL_make_22
  · cases b with
    | true =>
      refine l_catchA C hT htab (by decide) (by decide) (by decide +kernel) hP1 hS1 hl1 h1 h2 h3 ?_
      refine j_astore (lv' := [(4, .ref q), (0, .ref (ad 0)), (1, .int i1), (2, .int i2), (3, .ref (ad 64))]) C dL_make_13 (by decide) rfl ?_
      refine j_iconst (v := 1) C dL_make_15 (by decide) ?_
      exact l_iret C hr (Or.inr ⟨true, hF, rfl, rfl⟩) (Nat.le_of_ble_eq_true rfl) (Nat.le_of_ble_eq_true rfl) dL_make_16
    | false =>
      refine l_catchS C hT htab (by decide) (by decide) (by decide) (by decide +kernel) (by decide +kernel) hP1 hS1 hl1 h1 h2 h3 ?_
      refine j_astore (lv' := [(4, .ref q), (0, .ref (ad 0)), (1, .int i1), (2, .int i2), (3, .ref (ad 64))]) C dL_make_17 (by decide) rfl ?_
      refine j_iconst (v := 2) C dL_make_19 (by decide) ?_
      exact l_iret C hr (Or.inr ⟨false, hF, rfl, rfl⟩) (Nat.le_of_ble_eq_true rfl) (Nat.le_of_ble_eq_true rfl) dL_make_20
def rmL_copy : Room := { frames := 40, cells := 2, slots := 12, locals := 800 }
set_option maxHeartbeats 1000000 in
set_option maxRecDepth 100000 in
theorem hL_copy (hl : l.stackTraces = false) (n : Nat) (i1 : Int32) (st rt : zS) (o : Nat → Int64) (hn : fX2_copy n i1 st ≠ none) (sz : Nat) : Met l yL_copy wsL_copy rmL_copy (lPc D cI cR cZ cJ ad st rt o sz [.ref (ad 0), .int i1, .ref (ad 64)]) (lQc (fX2_copy n i1 st) (fun v : Int32 => some v.toInt64) D cI cR cZ cJ ad rt o sz) 2 12 (zA 65 ad sz) := by
  refine l_ofJ (cc := cL_copy) (maxL := 4) (ret := some .int) (hh := [(0, 9, 12, 13), (0, 9, 15, 15)]) (lv := [(0, .ref (ad 0)), (1, .int i1), (2, .ref (ad 64))]) (by decide) rfl (Nat.le_of_ble_eq_true rfl) rfl ?_
  intro p e s m args below meth c C htab hT hr
  refine j_aload_n C dL_copy_0 rfl 2 rfl ?_
  refine j_iconst (v := 0) C dL_copy_1 (by decide) ?_
  refine j_aload_n C dL_copy_2 rfl 0 rfl ?_
  refine j_iload_n C dL_copy_3 rfl 1 rfl ?_
  refine l_callC C hT (As := [.int i1]) (rest := [.int 0, .ref (ad 64)]) (kX2_copy hl n i1 st hn) (cwV 1 C.1.2.2.2.2 gL_copy_X2_copy rfl rfl rfl (by decide +kernel) ⟨(Nat.le_of_ble_eq_true rfl), (Nat.le_of_ble_eq_true rfl)⟩) rfl rfl (Nat.le_of_ble_eq_true rfl) dL_copy_4 ⟨(Nat.le_of_ble_eq_true rfl), (Nat.le_of_ble_eq_true rfl)⟩ (fun r u hF => ?_) (fun b u hF H1 locs1 ls q ce9 hP1 hS1 hl1 h1 h2 h3 => ?_)
  · skip
    refine j_i2l (x := r) (rest := [.int 0, .ref (ad 64)]) C dL_copy_7 ?_
    refine j_last (x := r.toInt64) (i := 0) (rest := []) C 64 3 (by decide) lce_o rfl vp01 dL_copy_8 (E' := lce cI cR cZ cJ ad u rt (vp_updL o 0 (r.toInt64))) rfl (fun j hj hne => lce_ne j hj hne) ?_
    refine j_goto (tgt := 18) C dL_copy_9 (by decide) ?_
    refine j_iconst (v := 0) C dL_copy_18 (by decide) ?_
    exact l_iret C hr (Or.inl ⟨r, hF, rfl, rfl⟩) (Nat.le_of_ble_eq_true rfl) (Nat.le_of_ble_eq_true rfl) dL_copy_19
  · cases b with
    | true =>
      refine l_catchA C hT htab (by decide) (by decide) (by decide +kernel) hP1 hS1 hl1 h1 h2 h3 ?_
      refine j_astore_n (lv' := [(3, .ref q), (0, .ref (ad 0)), (1, .int i1), (2, .ref (ad 64))]) C dL_copy_12 rfl (by decide) rfl ?_
      refine j_iconst (v := 1) C dL_copy_13 (by decide) ?_
      exact l_iret C hr (Or.inr ⟨true, hF, rfl, rfl⟩) (Nat.le_of_ble_eq_true rfl) (Nat.le_of_ble_eq_true rfl) dL_copy_14
    | false =>
      refine l_catchS C hT htab (by decide) (by decide) (by decide) (by decide +kernel) (by decide +kernel) hP1 hS1 hl1 h1 h2 h3 ?_
      refine j_astore_n (lv' := [(3, .ref q), (0, .ref (ad 0)), (1, .int i1), (2, .ref (ad 64))]) C dL_copy_15 rfl (by decide) rfl ?_
      refine j_iconst (v := 2) C dL_copy_16 (by decide) ?_
      exact l_iret C hr (Or.inr ⟨false, hF, rfl, rfl⟩) (Nat.le_of_ble_eq_true rfl) (Nat.le_of_ble_eq_true rfl) dL_copy_17
def rmL_slice : Room := { frames := 40, cells := 4, slots := 24, locals := 800 }
set_option maxHeartbeats 1000000 in
set_option maxRecDepth 100000 in
theorem hL_slice (hl : l.stackTraces = false) (n : Nat) (i1 : Int32) (i2 : Int32) (i3 : Int32) (st rt : zS) (o : Nat → Int64) (hn : fX2_slice n i1 i2 i3 st ≠ none) (sz : Nat) : Met l yL_slice wsL_slice rmL_slice (lPc D cI cR cZ cJ ad st rt o sz [.ref (ad 0), .int i1, .int i2, .int i3, .ref (ad 64)]) (lQc (fX2_slice n i1 i2 i3 st) (fun v : Int32 => some v.toInt64) D cI cR cZ cJ ad rt o sz) 4 24 (zA 65 ad sz) := by
  refine l_ofJ (cc := cL_slice) (maxL := 6) (ret := some .int) (hh := [(0, 12, 15, 13), (0, 12, 19, 15)]) (lv := [(0, .ref (ad 0)), (1, .int i1), (2, .int i2), (3, .int i3), (4, .ref (ad 64))]) (by decide) rfl (Nat.le_of_ble_eq_true rfl) rfl ?_
  intro p e s m args below meth c C htab hT hr
  refine j_aload C dL_slice_0 4 rfl ?_
  refine j_iconst (v := 0) C dL_slice_2 (by decide) ?_
  refine j_aload_n C dL_slice_3 rfl 0 rfl ?_
  refine j_iload_n C dL_slice_4 rfl 1 rfl ?_
  refine j_iload_n C dL_slice_5 rfl 2 rfl ?_
  refine j_iload_n C dL_slice_6 rfl 3 rfl ?_
  refine l_callC C hT (As := [.int i1, .int i2, .int i3]) (rest := [.int 0, .ref (ad 64)]) (kX2_slice hl n i1 i2 i3 st hn) (cwV 3 C.1.2.2.2.2 gL_slice_X2_slice rfl rfl rfl (by decide +kernel) ⟨(Nat.le_of_ble_eq_true rfl), (Nat.le_of_ble_eq_true rfl)⟩) rfl rfl (Nat.le_of_ble_eq_true rfl) dL_slice_7 ⟨(Nat.le_of_ble_eq_true rfl), (Nat.le_of_ble_eq_true rfl)⟩ (fun r u hF => ?_) (fun b u hF H1 locs1 ls q ce9 hP1 hS1 hl1 h1 h2 h3 => ?_)
  · skip
    refine j_i2l (x := r) (rest := [.int 0, .ref (ad 64)]) C dL_slice_10 ?_
    refine j_last (x := r.toInt64) (i := 0) (rest := []) C 64 3 (by decide) lce_o rfl vp01 dL_slice_11 (E' := lce cI cR cZ cJ ad u rt (vp_updL o 0 (r.toInt64))) rfl (fun j hj hne => lce_ne j hj hne) ?_
    refine j_goto (tgt := 23) C dL_slice_12 (by decide) ?_
    refine j_iconst (v := 0) C dL_slice_23 (by decide) ?_
    exact l_iret C hr (Or.inl ⟨r, hF, rfl, rfl⟩) (Nat.le_of_ble_eq_true rfl) (Nat.le_of_ble_eq_true rfl) dL_slice_24
  · cases b with
    | true =>
      refine l_catchA C hT htab (by decide) (by decide) (by decide +kernel) hP1 hS1 hl1 h1 h2 h3 ?_
      refine j_astore (lv' := [(5, .ref q), (0, .ref (ad 0)), (1, .int i1), (2, .int i2), (3, .int i3), (4, .ref (ad 64))]) C dL_slice_15 (by decide) rfl ?_
      refine j_iconst (v := 1) C dL_slice_17 (by decide) ?_
      exact l_iret C hr (Or.inr ⟨true, hF, rfl, rfl⟩) (Nat.le_of_ble_eq_true rfl) (Nat.le_of_ble_eq_true rfl) dL_slice_18
    | false =>
      refine l_catchS C hT htab (by decide) (by decide) (by decide) (by decide +kernel) (by decide +kernel) hP1 hS1 hl1 h1 h2 h3 ?_
      refine j_astore (lv' := [(5, .ref q), (0, .ref (ad 0)), (1, .int i1), (2, .int i2), (3, .int i3), (4, .ref (ad 64))]) C dL_slice_19 (by decide) rfl ?_
      refine j_iconst (v := 2) C dL_slice_21 (by decide) ?_
      exact l_iret C hr (Or.inr ⟨false, hF, rfl, rfl⟩) (Nat.le_of_ble_eq_true rfl) (Nat.le_of_ble_eq_true rfl) dL_slice_22
def rmL_join : Room := { frames := 40, cells := 4, slots := 24, locals := 800 }
set_option maxHeartbeats 1000000 in
set_option maxRecDepth 100000 in
theorem hL_join (hl : l.stackTraces = false) (n : Nat) (i1 : Int32) (i2 : Int32) (st rt : zS) (o : Nat → Int64) (hn : fX2_join n i1 i2 st ≠ none) (sz : Nat) : Met l yL_join wsL_join rmL_join (lPc D cI cR cZ cJ ad st rt o sz [.ref (ad 0), .int i1, .int i2, .ref (ad 64)]) (lQc (fX2_join n i1 i2 st) (fun v : Int32 => some v.toInt64) D cI cR cZ cJ ad rt o sz) 4 24 (zA 65 ad sz) := by
  refine l_ofJ (cc := cL_join) (maxL := 5) (ret := some .int) (hh := [(0, 10, 13, 13), (0, 10, 17, 15)]) (lv := [(0, .ref (ad 0)), (1, .int i1), (2, .int i2), (3, .ref (ad 64))]) (by decide) rfl (Nat.le_of_ble_eq_true rfl) rfl ?_
  intro p e s m args below meth c C htab hT hr
  refine j_aload_n C dL_join_0 rfl 3 rfl ?_
  refine j_iconst (v := 0) C dL_join_1 (by decide) ?_
  refine j_aload_n C dL_join_2 rfl 0 rfl ?_
  refine j_iload_n C dL_join_3 rfl 1 rfl ?_
  refine j_iload_n C dL_join_4 rfl 2 rfl ?_
  refine l_callC C hT (As := [.int i1, .int i2]) (rest := [.int 0, .ref (ad 64)]) (kX2_join hl n i1 i2 st hn) (cwV 2 C.1.2.2.2.2 gL_join_X2_join rfl rfl rfl (by decide +kernel) ⟨(Nat.le_of_ble_eq_true rfl), (Nat.le_of_ble_eq_true rfl)⟩) rfl rfl (Nat.le_of_ble_eq_true rfl) dL_join_5 ⟨(Nat.le_of_ble_eq_true rfl), (Nat.le_of_ble_eq_true rfl)⟩ (fun r u hF => ?_) (fun b u hF H1 locs1 ls q ce9 hP1 hS1 hl1 h1 h2 h3 => ?_)
  · skip
    refine j_i2l (x := r) (rest := [.int 0, .ref (ad 64)]) C dL_join_8 ?_
    refine j_last (x := r.toInt64) (i := 0) (rest := []) C 64 3 (by decide) lce_o rfl vp01 dL_join_9 (E' := lce cI cR cZ cJ ad u rt (vp_updL o 0 (r.toInt64))) rfl (fun j hj hne => lce_ne j hj hne) ?_
    refine j_goto (tgt := 21) C dL_join_10 (by decide) ?_
    refine j_iconst (v := 0) C dL_join_21 (by decide) ?_
    exact l_iret C hr (Or.inl ⟨r, hF, rfl, rfl⟩) (Nat.le_of_ble_eq_true rfl) (Nat.le_of_ble_eq_true rfl) dL_join_22
  · cases b with
    | true =>
      refine l_catchA C hT htab (by decide) (by decide) (by decide +kernel) hP1 hS1 hl1 h1 h2 h3 ?_
      refine j_astore (lv' := [(4, .ref q), (0, .ref (ad 0)), (1, .int i1), (2, .int i2), (3, .ref (ad 64))]) C dL_join_13 (by decide) rfl ?_
      refine j_iconst (v := 1) C dL_join_15 (by decide) ?_
      exact l_iret C hr (Or.inr ⟨true, hF, rfl, rfl⟩) (Nat.le_of_ble_eq_true rfl) (Nat.le_of_ble_eq_true rfl) dL_join_16
    | false =>
      refine l_catchS C hT htab (by decide) (by decide) (by decide) (by decide +kernel) (by decide +kernel) hP1 hS1 hl1 h1 h2 h3 ?_
      refine j_astore (lv' := [(4, .ref q), (0, .ref (ad 0)), (1, .int i1), (2, .int i2), (3, .ref (ad 64))]) C dL_join_17 (by decide) rfl ?_
      refine j_iconst (v := 2) C dL_join_19 (by decide) ?_
      exact l_iret C hr (Or.inr ⟨false, hF, rfl, rfl⟩) (Nat.le_of_ble_eq_true rfl) (Nat.le_of_ble_eq_true rfl) dL_join_20
def rmL_get : Room := { frames := 40, cells := 2, slots := 12, locals := 800 }
set_option maxHeartbeats 1000000 in
set_option maxRecDepth 100000 in
theorem hL_get (hl : l.stackTraces = false) (n : Nat) (i1 : Int32) (i2 : Int32) (st rt : zS) (o : Nat → Int64) (hn : fX2_get n i1 i2 st ≠ none) (sz : Nat) : Met l yL_get wsL_get rmL_get (lPc D cI cR cZ cJ ad st rt o sz [.ref (ad 0), .int i1, .int i2, .ref (ad 64)]) (lQc (fX2_get n i1 i2 st) (fun v : Int32 => some v.toInt64) D cI cR cZ cJ ad rt o sz) 2 12 (zA 65 ad sz) := by
  refine l_ofJ (cc := cL_get) (maxL := 5) (ret := some .int) (hh := [(0, 10, 13, 13)]) (lv := [(0, .ref (ad 0)), (1, .int i1), (2, .int i2), (3, .ref (ad 64))]) (by decide) rfl (Nat.le_of_ble_eq_true rfl) rfl ?_
  intro p e s m args below meth c C htab hT hr
  refine j_aload_n C dL_get_0 rfl 3 rfl ?_
  refine j_iconst (v := 0) C dL_get_1 (by decide) ?_
  refine j_aload_n C dL_get_2 rfl 0 rfl ?_
  refine j_iload_n C dL_get_3 rfl 1 rfl ?_
  refine j_iload_n C dL_get_4 rfl 2 rfl ?_
  refine l_callC C hT (As := [.int i1, .int i2]) (rest := [.int 0, .ref (ad 64)]) (kX2_get hl n i1 i2 st hn) (cwV 2 C.1.2.2.2.2 gL_get_X2_get rfl rfl rfl (by decide +kernel) ⟨(Nat.le_of_ble_eq_true rfl), (Nat.le_of_ble_eq_true rfl)⟩) rfl rfl (Nat.le_of_ble_eq_true rfl) dL_get_5 ⟨(Nat.le_of_ble_eq_true rfl), (Nat.le_of_ble_eq_true rfl)⟩ (fun r u hF => ?_) (fun b u hF H1 locs1 ls q ce9 hP1 hS1 hl1 h1 h2 h3 => ?_)
  · skip
    refine j_i2l (x := r) (rest := [.int 0, .ref (ad 64)]) C dL_get_8 ?_
    refine j_last (x := r.toInt64) (i := 0) (rest := []) C 64 3 (by decide) lce_o rfl vp01 dL_get_9 (E' := lce cI cR cZ cJ ad u rt (vp_updL o 0 (r.toInt64))) rfl (fun j hj hne => lce_ne j hj hne) ?_
    refine j_goto (tgt := 17) C dL_get_10 (by decide) ?_
    refine j_iconst (v := 0) C dL_get_17 (by decide) ?_
    exact l_iret C hr (Or.inl ⟨r, hF, rfl, rfl⟩) (Nat.le_of_ble_eq_true rfl) (Nat.le_of_ble_eq_true rfl) dL_get_18
  · cases b with
    | true =>
      refine l_catchA C hT htab (by decide) (by decide) (by decide +kernel) hP1 hS1 hl1 h1 h2 h3 ?_
      refine j_astore (lv' := [(4, .ref q), (0, .ref (ad 0)), (1, .int i1), (2, .int i2), (3, .ref (ad 64))]) C dL_get_13 (by decide) rfl ?_
      refine j_iconst (v := 1) C dL_get_15 (by decide) ?_
      exact l_iret C hr (Or.inr ⟨true, hF, rfl, rfl⟩) (Nat.le_of_ble_eq_true rfl) (Nat.le_of_ble_eq_true rfl) dL_get_16
    | false =>
      exact absurd hF (NF_get u)
def rmL_set : Room := { frames := 40, cells := 3, slots := 18, locals := 800 }
set_option maxHeartbeats 1000000 in
set_option maxRecDepth 100000 in
theorem hL_set (hl : l.stackTraces = false) (n : Nat) (i1 : Int32) (i2 : Int32) (i3 : Int32) (st rt : zS) (o : Nat → Int64) (hn : fX2_set n i1 i2 i3 st ≠ none) (sz : Nat) : Met l yL_set wsL_set rmL_set (lPc D cI cR cZ cJ ad st rt o sz [.ref (ad 0), .int i1, .int i2, .int i3]) (lQc (fX2_set n i1 i2 i3 st) (fun _ : Unit => none) D cI cR cZ cJ ad rt o sz) 3 18 (zA 65 ad sz) := by
  refine l_ofJ (cc := cL_set) (maxL := 5) (ret := some .int) (hh := [(0, 7, 10, 13), (0, 7, 14, 15)]) (lv := [(0, .ref (ad 0)), (1, .int i1), (2, .int i2), (3, .int i3)]) (by decide) rfl (Nat.le_of_ble_eq_true rfl) rfl ?_
  intro p e s m args below meth c C htab hT hr
  refine j_aload_n C dL_set_0 rfl 0 rfl ?_
  refine j_iload_n C dL_set_1 rfl 1 rfl ?_
  refine j_iload_n C dL_set_2 rfl 2 rfl ?_
  refine j_iload_n C dL_set_3 rfl 3 rfl ?_
  refine l_callC C hT (As := [.int i1, .int i2, .int i3]) (rest := []) (kX2_set hl n i1 i2 i3 st hn) (cwV 3 C.1.2.2.2.2 gL_set_X2_set rfl rfl rfl (by decide +kernel) ⟨(Nat.le_of_ble_eq_true rfl), (Nat.le_of_ble_eq_true rfl)⟩) rfl rfl (Nat.le_of_ble_eq_true rfl) dL_set_4 ⟨(Nat.le_of_ble_eq_true rfl), (Nat.le_of_ble_eq_true rfl)⟩ (fun r u hF => ?_) (fun b u hF H1 locs1 ls q ce9 hP1 hS1 hl1 h1 h2 h3 => ?_)
  · skip
    refine j_goto (tgt := 18) C dL_set_7 (by decide) ?_
    refine j_iconst (v := 0) C dL_set_18 (by decide) ?_
    exact l_iret C hr (Or.inl ⟨r, hF, rfl, rfl⟩) (Nat.le_of_ble_eq_true rfl) (Nat.le_of_ble_eq_true rfl) dL_set_19
  · cases b with
    | true =>
      refine l_catchA C hT htab (by decide) (by decide) (by decide +kernel) hP1 hS1 hl1 h1 h2 h3 ?_
      refine j_astore (lv' := [(4, .ref q), (0, .ref (ad 0)), (1, .int i1), (2, .int i2), (3, .int i3)]) C dL_set_10 (by decide) rfl ?_
      refine j_iconst (v := 1) C dL_set_12 (by decide) ?_
      exact l_iret C hr (Or.inr ⟨true, hF, rfl, rfl⟩) (Nat.le_of_ble_eq_true rfl) (Nat.le_of_ble_eq_true rfl) dL_set_13
    | false =>
      refine l_catchS C hT htab (by decide) (by decide) (by decide) (by decide +kernel) (by decide +kernel) hP1 hS1 hl1 h1 h2 h3 ?_
      refine j_astore (lv' := [(4, .ref q), (0, .ref (ad 0)), (1, .int i1), (2, .int i2), (3, .int i3)]) C dL_set_14 (by decide) rfl ?_
      refine j_iconst (v := 2) C dL_set_16 (by decide) ?_
      exact l_iret C hr (Or.inr ⟨false, hF, rfl, rfl⟩) (Nat.le_of_ble_eq_true rfl) (Nat.le_of_ble_eq_true rfl) dL_set_17
def rmL_fill : Room := { frames := 40, cells := 3, slots := 18, locals := 800 }
set_option maxHeartbeats 1000000 in
set_option maxRecDepth 100000 in
theorem hL_fill (hl : l.stackTraces = false) (n : Nat) (i1 : Int32) (i2 : Int32) (i3 : Int32) (i4 : Int32) (st rt : zS) (o : Nat → Int64) (hn : fX2_fill n i1 i2 i3 i4 st ≠ none) (sz : Nat) : Met l yL_fill wsL_fill rmL_fill (lPc D cI cR cZ cJ ad st rt o sz [.ref (ad 0), .int i1, .int i2, .int i3, .int i4]) (lQc (fX2_fill n i1 i2 i3 i4 st) (fun _ : Unit => none) D cI cR cZ cJ ad rt o sz) 3 18 (zA 65 ad sz) := by
  refine l_ofJ (cc := cL_fill) (maxL := 6) (ret := some .int) (hh := [(0, 9, 12, 13), (0, 9, 16, 15)]) (lv := [(0, .ref (ad 0)), (1, .int i1), (2, .int i2), (3, .int i3), (4, .int i4)]) (by decide) rfl (Nat.le_of_ble_eq_true rfl) rfl ?_
  intro p e s m args below meth c C htab hT hr
  refine j_aload_n C dL_fill_0 rfl 0 rfl ?_
  refine j_iload_n C dL_fill_1 rfl 1 rfl ?_
  refine j_iload_n C dL_fill_2 rfl 2 rfl ?_
  refine j_iload_n C dL_fill_3 rfl 3 rfl ?_
  refine j_iload C dL_fill_4 4 rfl ?_
  refine l_callC C hT (As := [.int i1, .int i2, .int i3, .int i4]) (rest := []) (kX2_fill hl n i1 i2 i3 i4 st hn) (cwV 4 C.1.2.2.2.2 gL_fill_X2_fill rfl rfl rfl (by decide +kernel) ⟨(Nat.le_of_ble_eq_true rfl), (Nat.le_of_ble_eq_true rfl)⟩) rfl rfl (Nat.le_of_ble_eq_true rfl) dL_fill_6 ⟨(Nat.le_of_ble_eq_true rfl), (Nat.le_of_ble_eq_true rfl)⟩ (fun r u hF => ?_) (fun b u hF H1 locs1 ls q ce9 hP1 hS1 hl1 h1 h2 h3 => ?_)
  · skip
    refine j_goto (tgt := 20) C dL_fill_9 (by decide) ?_
    refine j_iconst (v := 0) C dL_fill_20 (by decide) ?_
    exact l_iret C hr (Or.inl ⟨r, hF, rfl, rfl⟩) (Nat.le_of_ble_eq_true rfl) (Nat.le_of_ble_eq_true rfl) dL_fill_21
  · cases b with
    | true =>
      refine l_catchA C hT htab (by decide) (by decide) (by decide +kernel) hP1 hS1 hl1 h1 h2 h3 ?_
      refine j_astore (lv' := [(5, .ref q), (0, .ref (ad 0)), (1, .int i1), (2, .int i2), (3, .int i3), (4, .int i4)]) C dL_fill_12 (by decide) rfl ?_
      refine j_iconst (v := 1) C dL_fill_14 (by decide) ?_
      exact l_iret C hr (Or.inr ⟨true, hF, rfl, rfl⟩) (Nat.le_of_ble_eq_true rfl) (Nat.le_of_ble_eq_true rfl) dL_fill_15
    | false =>
      refine l_catchS C hT htab (by decide) (by decide) (by decide) (by decide +kernel) (by decide +kernel) hP1 hS1 hl1 h1 h2 h3 ?_
      refine j_astore (lv' := [(5, .ref q), (0, .ref (ad 0)), (1, .int i1), (2, .int i2), (3, .int i3), (4, .int i4)]) C dL_fill_16 (by decide) rfl ?_
      refine j_iconst (v := 2) C dL_fill_18 (by decide) ?_
      exact l_iret C hr (Or.inr ⟨false, hF, rfl, rfl⟩) (Nat.le_of_ble_eq_true rfl) (Nat.le_of_ble_eq_true rfl) dL_fill_19
def rmL_move : Room := { frames := 40, cells := 3, slots := 18, locals := 800 }
set_option maxHeartbeats 1000000 in
set_option maxRecDepth 100000 in
theorem hL_move (hl : l.stackTraces = false) (n : Nat) (i1 : Int32) (i2 : Int32) (i3 : Int32) (i4 : Int32) (st rt : zS) (o : Nat → Int64) (hn : fX2_move n i1 i2 i3 i4 st ≠ none) (sz : Nat) : Met l yL_move wsL_move rmL_move (lPc D cI cR cZ cJ ad st rt o sz [.ref (ad 0), .int i1, .int i2, .int i3, .int i4]) (lQc (fX2_move n i1 i2 i3 i4 st) (fun _ : Unit => none) D cI cR cZ cJ ad rt o sz) 3 18 (zA 65 ad sz) := by
  refine l_ofJ (cc := cL_move) (maxL := 6) (ret := some .int) (hh := [(0, 9, 12, 13), (0, 9, 16, 15)]) (lv := [(0, .ref (ad 0)), (1, .int i1), (2, .int i2), (3, .int i3), (4, .int i4)]) (by decide) rfl (Nat.le_of_ble_eq_true rfl) rfl ?_
  intro p e s m args below meth c C htab hT hr
  refine j_aload_n C dL_move_0 rfl 0 rfl ?_
  refine j_iload_n C dL_move_1 rfl 1 rfl ?_
  refine j_iload_n C dL_move_2 rfl 2 rfl ?_
  refine j_iload_n C dL_move_3 rfl 3 rfl ?_
  refine j_iload C dL_move_4 4 rfl ?_
  refine l_callC C hT (As := [.int i1, .int i2, .int i3, .int i4]) (rest := []) (kX2_move hl n i1 i2 i3 i4 st hn) (cwV 4 C.1.2.2.2.2 gL_move_X2_move rfl rfl rfl (by decide +kernel) ⟨(Nat.le_of_ble_eq_true rfl), (Nat.le_of_ble_eq_true rfl)⟩) rfl rfl (Nat.le_of_ble_eq_true rfl) dL_move_6 ⟨(Nat.le_of_ble_eq_true rfl), (Nat.le_of_ble_eq_true rfl)⟩ (fun r u hF => ?_) (fun b u hF H1 locs1 ls q ce9 hP1 hS1 hl1 h1 h2 h3 => ?_)
  · skip
    refine j_goto (tgt := 20) C dL_move_9 (by decide) ?_
    refine j_iconst (v := 0) C dL_move_20 (by decide) ?_
    exact l_iret C hr (Or.inl ⟨r, hF, rfl, rfl⟩) (Nat.le_of_ble_eq_true rfl) (Nat.le_of_ble_eq_true rfl) dL_move_21
  · cases b with
    | true =>
      refine l_catchA C hT htab (by decide) (by decide) (by decide +kernel) hP1 hS1 hl1 h1 h2 h3 ?_
      refine j_astore (lv' := [(5, .ref q), (0, .ref (ad 0)), (1, .int i1), (2, .int i2), (3, .int i3), (4, .int i4)]) C dL_move_12 (by decide) rfl ?_
      refine j_iconst (v := 1) C dL_move_14 (by decide) ?_
      exact l_iret C hr (Or.inr ⟨true, hF, rfl, rfl⟩) (Nat.le_of_ble_eq_true rfl) (Nat.le_of_ble_eq_true rfl) dL_move_15
    | false =>
      refine l_catchS C hT htab (by decide) (by decide) (by decide) (by decide +kernel) (by decide +kernel) hP1 hS1 hl1 h1 h2 h3 ?_
      refine j_astore (lv' := [(5, .ref q), (0, .ref (ad 0)), (1, .int i1), (2, .int i2), (3, .int i3), (4, .int i4)]) C dL_move_16 (by decide) rfl ?_
      refine j_iconst (v := 2) C dL_move_18 (by decide) ?_
      exact l_iret C hr (Or.inr ⟨false, hF, rfl, rfl⟩) (Nat.le_of_ble_eq_true rfl) (Nat.le_of_ble_eq_true rfl) dL_move_19
def rmL_sort : Room := { frames := 40, cells := 2, slots := 12, locals := 800 }
set_option maxHeartbeats 1000000 in
set_option maxRecDepth 100000 in
theorem hL_sort (hl : l.stackTraces = false) (n : Nat) (i1 : Int32) (st rt : zS) (o : Nat → Int64) (hn : fX2_sort n i1 st ≠ none) (sz : Nat) : Met l yL_sort wsL_sort rmL_sort (lPc D cI cR cZ cJ ad st rt o sz [.ref (ad 0), .int i1]) (lQc (fX2_sort n i1 st) (fun _ : Unit => none) D cI cR cZ cJ ad rt o sz) 2 12 (zA 65 ad sz) := by
  refine l_ofJ (cc := cL_sort) (maxL := 3) (ret := some .int) (hh := [(0, 5, 8, 13), (0, 5, 11, 15)]) (lv := [(0, .ref (ad 0)), (1, .int i1)]) (by decide) rfl (Nat.le_of_ble_eq_true rfl) rfl ?_
  intro p e s m args below meth c C htab hT hr
  refine j_aload_n C dL_sort_0 rfl 0 rfl ?_
  refine j_iload_n C dL_sort_1 rfl 1 rfl ?_
  refine l_callC C hT (As := [.int i1]) (rest := []) (kX2_sort hl n i1 st hn) (cwV 1 C.1.2.2.2.2 gL_sort_X2_sort rfl rfl rfl (by decide +kernel) ⟨(Nat.le_of_ble_eq_true rfl), (Nat.le_of_ble_eq_true rfl)⟩) rfl rfl (Nat.le_of_ble_eq_true rfl) dL_sort_2 ⟨(Nat.le_of_ble_eq_true rfl), (Nat.le_of_ble_eq_true rfl)⟩ (fun r u hF => ?_) (fun b u hF H1 locs1 ls q ce9 hP1 hS1 hl1 h1 h2 h3 => ?_)
  · skip
    refine j_goto (tgt := 14) C dL_sort_5 (by decide) ?_
    refine j_iconst (v := 0) C dL_sort_14 (by decide) ?_
    exact l_iret C hr (Or.inl ⟨r, hF, rfl, rfl⟩) (Nat.le_of_ble_eq_true rfl) (Nat.le_of_ble_eq_true rfl) dL_sort_15
  · cases b with
    | true =>
      refine l_catchA C hT htab (by decide) (by decide) (by decide +kernel) hP1 hS1 hl1 h1 h2 h3 ?_
      refine j_astore_n (lv' := [(2, .ref q), (0, .ref (ad 0)), (1, .int i1)]) C dL_sort_8 rfl (by decide) rfl ?_
      refine j_iconst (v := 1) C dL_sort_9 (by decide) ?_
      exact l_iret C hr (Or.inr ⟨true, hF, rfl, rfl⟩) (Nat.le_of_ble_eq_true rfl) (Nat.le_of_ble_eq_true rfl) dL_sort_10
    | false =>
      refine l_catchS C hT htab (by decide) (by decide) (by decide) (by decide +kernel) (by decide +kernel) hP1 hS1 hl1 h1 h2 h3 ?_
      refine j_astore_n (lv' := [(2, .ref q), (0, .ref (ad 0)), (1, .int i1)]) C dL_sort_11 rfl (by decide) rfl ?_
      refine j_iconst (v := 2) C dL_sort_12 (by decide) ?_
      exact l_iret C hr (Or.inr ⟨false, hF, rfl, rfl⟩) (Nat.le_of_ble_eq_true rfl) (Nat.le_of_ble_eq_true rfl) dL_sort_13
def rmL_reverse : Room := { frames := 40, cells := 2, slots := 12, locals := 800 }
set_option maxHeartbeats 1000000 in
set_option maxRecDepth 100000 in
theorem hL_reverse (hl : l.stackTraces = false) (n : Nat) (i1 : Int32) (st rt : zS) (o : Nat → Int64) (hn : fX2_reverse n i1 st ≠ none) (sz : Nat) : Met l yL_reverse wsL_reverse rmL_reverse (lPc D cI cR cZ cJ ad st rt o sz [.ref (ad 0), .int i1]) (lQc (fX2_reverse n i1 st) (fun _ : Unit => none) D cI cR cZ cJ ad rt o sz) 2 12 (zA 65 ad sz) := by
  refine l_ofJ (cc := cL_reverse) (maxL := 3) (ret := some .int) (hh := [(0, 5, 8, 13), (0, 5, 11, 15)]) (lv := [(0, .ref (ad 0)), (1, .int i1)]) (by decide) rfl (Nat.le_of_ble_eq_true rfl) rfl ?_
  intro p e s m args below meth c C htab hT hr
  refine j_aload_n C dL_reverse_0 rfl 0 rfl ?_
  refine j_iload_n C dL_reverse_1 rfl 1 rfl ?_
  refine l_callC C hT (As := [.int i1]) (rest := []) (kX2_reverse hl n i1 st hn) (cwV 1 C.1.2.2.2.2 gL_reverse_X2_reverse rfl rfl rfl (by decide +kernel) ⟨(Nat.le_of_ble_eq_true rfl), (Nat.le_of_ble_eq_true rfl)⟩) rfl rfl (Nat.le_of_ble_eq_true rfl) dL_reverse_2 ⟨(Nat.le_of_ble_eq_true rfl), (Nat.le_of_ble_eq_true rfl)⟩ (fun r u hF => ?_) (fun b u hF H1 locs1 ls q ce9 hP1 hS1 hl1 h1 h2 h3 => ?_)
  · skip
    refine j_goto (tgt := 14) C dL_reverse_5 (by decide) ?_
    refine j_iconst (v := 0) C dL_reverse_14 (by decide) ?_
    exact l_iret C hr (Or.inl ⟨r, hF, rfl, rfl⟩) (Nat.le_of_ble_eq_true rfl) (Nat.le_of_ble_eq_true rfl) dL_reverse_15
  · cases b with
    | true =>
      refine l_catchA C hT htab (by decide) (by decide) (by decide +kernel) hP1 hS1 hl1 h1 h2 h3 ?_
      refine j_astore_n (lv' := [(2, .ref q), (0, .ref (ad 0)), (1, .int i1)]) C dL_reverse_8 rfl (by decide) rfl ?_
      refine j_iconst (v := 1) C dL_reverse_9 (by decide) ?_
      exact l_iret C hr (Or.inr ⟨true, hF, rfl, rfl⟩) (Nat.le_of_ble_eq_true rfl) (Nat.le_of_ble_eq_true rfl) dL_reverse_10
    | false =>
      refine l_catchS C hT htab (by decide) (by decide) (by decide) (by decide +kernel) (by decide +kernel) hP1 hS1 hl1 h1 h2 h3 ?_
      refine j_astore_n (lv' := [(2, .ref q), (0, .ref (ad 0)), (1, .int i1)]) C dL_reverse_11 rfl (by decide) rfl ?_
      refine j_iconst (v := 2) C dL_reverse_12 (by decide) ?_
      exact l_iret C hr (Or.inr ⟨false, hF, rfl, rfl⟩) (Nat.le_of_ble_eq_true rfl) (Nat.le_of_ble_eq_true rfl) dL_reverse_13
def rmL_sum : Room := { frames := 40, cells := 2, slots := 12, locals := 800 }
set_option maxHeartbeats 1000000 in
set_option maxRecDepth 100000 in
theorem hL_sum (hl : l.stackTraces = false) (n : Nat) (i1 : Int32) (i2 : Int32) (i3 : Int32) (st rt : zS) (o : Nat → Int64) (hn : fX2_sum n i1 i2 i3 st ≠ none) (sz : Nat) : Met l yL_sum wsL_sum rmL_sum (lPc D cI cR cZ cJ ad st rt o sz [.ref (ad 0), .int i1, .int i2, .int i3, .ref (ad 64)]) (lQc (fX2_sum n i1 i2 i3 st) (fun v : Int64 => some v) D cI cR cZ cJ ad rt o sz) 2 12 (zA 65 ad sz) := by
  refine l_ofJ (cc := cL_sum) (maxL := 6) (ret := some .int) (hh := [(0, 11, 14, 13)]) (lv := [(0, .ref (ad 0)), (1, .int i1), (2, .int i2), (3, .int i3), (4, .ref (ad 64))]) (by decide) rfl (Nat.le_of_ble_eq_true rfl) rfl ?_
  intro p e s m args below meth c C htab hT hr
  refine j_aload C dL_sum_0 4 rfl ?_
  refine j_iconst (v := 0) C dL_sum_2 (by decide) ?_
  refine j_aload_n C dL_sum_3 rfl 0 rfl ?_
  refine j_iload_n C dL_sum_4 rfl 1 rfl ?_
  refine j_iload_n C dL_sum_5 rfl 2 rfl ?_
  refine j_iload_n C dL_sum_6 rfl 3 rfl ?_
  refine l_callC C hT (As := [.int i1, .int i2, .int i3]) (rest := [.int 0, .ref (ad 64)]) (kX2_sum hl n i1 i2 i3 st hn) (cwV 3 C.1.2.2.2.2 gL_sum_X2_sum rfl rfl rfl (by decide +kernel) ⟨(Nat.le_of_ble_eq_true rfl), (Nat.le_of_ble_eq_true rfl)⟩) rfl rfl (Nat.le_of_ble_eq_true rfl) dL_sum_7 ⟨(Nat.le_of_ble_eq_true rfl), (Nat.le_of_ble_eq_true rfl)⟩ (fun r u hF => ?_) (fun b u hF H1 locs1 ls q ce9 hP1 hS1 hl1 h1 h2 h3 => ?_)
  · skip
    refine j_last (x := r) (i := 0) (rest := []) C 64 3 (by decide) lce_o rfl vp01 dL_sum_10 (E' := lce cI cR cZ cJ ad u rt (vp_updL o 0 (r))) rfl (fun j hj hne => lce_ne j hj hne) ?_
    refine j_goto (tgt := 18) C dL_sum_11 (by decide) ?_
    refine j_iconst (v := 0) C dL_sum_18 (by decide) ?_
    exact l_iret C hr (Or.inl ⟨r, hF, rfl, rfl⟩) (Nat.le_of_ble_eq_true rfl) (Nat.le_of_ble_eq_true rfl) dL_sum_19
  · cases b with
    | true =>
      refine l_catchA C hT htab (by decide) (by decide) (by decide +kernel) hP1 hS1 hl1 h1 h2 h3 ?_
      refine j_astore (lv' := [(5, .ref q), (0, .ref (ad 0)), (1, .int i1), (2, .int i2), (3, .int i3), (4, .ref (ad 64))]) C dL_sum_14 (by decide) rfl ?_
      refine j_iconst (v := 1) C dL_sum_16 (by decide) ?_
      exact l_iret C hr (Or.inr ⟨true, hF, rfl, rfl⟩) (Nat.le_of_ble_eq_true rfl) (Nat.le_of_ble_eq_true rfl) dL_sum_17
    | false =>
      exact absurd hF (NF_sum u)
def rmL_bound : Room := { frames := 40, cells := 3, slots := 18, locals := 800 }
set_option maxHeartbeats 1000000 in
set_option maxRecDepth 100000 in
theorem hL_bound (hl : l.stackTraces = false) (n : Nat) (i1 : Int32) (i2 : Int32) (i3 : Int32) (i4 : Int32) (st rt : zS) (o : Nat → Int64) (hn : fX2_bound n i1 i2 i3 i4 st ≠ none) (sz : Nat) : Met l yL_bound wsL_bound rmL_bound (lPc D cI cR cZ cJ ad st rt o sz [.ref (ad 0), .int i1, .int i2, .int i3, .int i4, .ref (ad 64)]) (lQc (fX2_bound n i1 i2 i3 i4 st) (fun v : Int32 => some v.toInt64) D cI cR cZ cJ ad rt o sz) 3 18 (zA 65 ad sz) := by
  refine l_ofJ (cc := cL_bound) (maxL := 7) (ret := some .int) (hh := [(0, 14, 17, 13)]) (lv := [(0, .ref (ad 0)), (1, .int i1), (2, .int i2), (3, .int i3), (4, .int i4), (5, .ref (ad 64))]) (by decide) rfl (Nat.le_of_ble_eq_true rfl) rfl ?_
  intro p e s m args below meth c C htab hT hr
  refine j_aload C dL_bound_0 5 rfl ?_
  refine j_iconst (v := 0) C dL_bound_2 (by decide) ?_
  refine j_aload_n C dL_bound_3 rfl 0 rfl ?_
  refine j_iload_n C dL_bound_4 rfl 1 rfl ?_
  refine j_iload_n C dL_bound_5 rfl 2 rfl ?_
  refine j_iload_n C dL_bound_6 rfl 3 rfl ?_
  refine j_iload C dL_bound_7 4 rfl ?_
  refine l_callC C hT (As := [.int i1, .int i2, .int i3, .int i4]) (rest := [.int 0, .ref (ad 64)]) (kX2_bound hl n i1 i2 i3 i4 st hn) (cwV 4 C.1.2.2.2.2 gL_bound_X2_bound rfl rfl rfl (by decide +kernel) ⟨(Nat.le_of_ble_eq_true rfl), (Nat.le_of_ble_eq_true rfl)⟩) rfl rfl (Nat.le_of_ble_eq_true rfl) dL_bound_9 ⟨(Nat.le_of_ble_eq_true rfl), (Nat.le_of_ble_eq_true rfl)⟩ (fun r u hF => ?_) (fun b u hF H1 locs1 ls q ce9 hP1 hS1 hl1 h1 h2 h3 => ?_)
  · skip
    refine j_i2l (x := r) (rest := [.int 0, .ref (ad 64)]) C dL_bound_12 ?_
    refine j_last (x := r.toInt64) (i := 0) (rest := []) C 64 3 (by decide) lce_o rfl vp01 dL_bound_13 (E' := lce cI cR cZ cJ ad u rt (vp_updL o 0 (r.toInt64))) rfl (fun j hj hne => lce_ne j hj hne) ?_
    refine j_goto (tgt := 21) C dL_bound_14 (by decide) ?_
    refine j_iconst (v := 0) C dL_bound_21 (by decide) ?_
    exact l_iret C hr (Or.inl ⟨r, hF, rfl, rfl⟩) (Nat.le_of_ble_eq_true rfl) (Nat.le_of_ble_eq_true rfl) dL_bound_22
  · cases b with
    | true =>
      refine l_catchA C hT htab (by decide) (by decide) (by decide +kernel) hP1 hS1 hl1 h1 h2 h3 ?_
      refine j_astore (lv' := [(6, .ref q), (0, .ref (ad 0)), (1, .int i1), (2, .int i2), (3, .int i3), (4, .int i4), (5, .ref (ad 64))]) C dL_bound_17 (by decide) rfl ?_
      refine j_iconst (v := 1) C dL_bound_19 (by decide) ?_
      exact l_iret C hr (Or.inr ⟨true, hF, rfl, rfl⟩) (Nat.le_of_ble_eq_true rfl) (Nat.le_of_ble_eq_true rfl) dL_bound_20
    | false =>
      exact absurd hF (NF_bound u)
def rmL_find : Room := { frames := 40, cells := 2, slots := 12, locals := 800 }
set_option maxHeartbeats 1000000 in
set_option maxRecDepth 100000 in
theorem hL_find (hl : l.stackTraces = false) (n : Nat) (i1 : Int32) (i2 : Int32) (i3 : Int32) (st rt : zS) (o : Nat → Int64) (hn : fX2_find n i1 i2 i3 st ≠ none) (sz : Nat) : Met l yL_find wsL_find rmL_find (lPc D cI cR cZ cJ ad st rt o sz [.ref (ad 0), .int i1, .int i2, .int i3, .ref (ad 64)]) (lQc (fX2_find n i1 i2 i3 st) (fun v : Int32 => some v.toInt64) D cI cR cZ cJ ad rt o sz) 2 12 (zA 65 ad sz) := by
  refine l_ofJ (cc := cL_find) (maxL := 6) (ret := some .int) (hh := [(0, 12, 15, 13)]) (lv := [(0, .ref (ad 0)), (1, .int i1), (2, .int i2), (3, .int i3), (4, .ref (ad 64))]) (by decide) rfl (Nat.le_of_ble_eq_true rfl) rfl ?_
  intro p e s m args below meth c C htab hT hr
  refine j_aload C dL_find_0 4 rfl ?_
  refine j_iconst (v := 0) C dL_find_2 (by decide) ?_
  refine j_aload_n C dL_find_3 rfl 0 rfl ?_
  refine j_iload_n C dL_find_4 rfl 1 rfl ?_
  refine j_iload_n C dL_find_5 rfl 2 rfl ?_
  refine j_iload_n C dL_find_6 rfl 3 rfl ?_
  refine l_callC C hT (As := [.int i1, .int i2, .int i3]) (rest := [.int 0, .ref (ad 64)]) (kX2_find hl n i1 i2 i3 st hn) (cwV 3 C.1.2.2.2.2 gL_find_X2_find rfl rfl rfl (by decide +kernel) ⟨(Nat.le_of_ble_eq_true rfl), (Nat.le_of_ble_eq_true rfl)⟩) rfl rfl (Nat.le_of_ble_eq_true rfl) dL_find_7 ⟨(Nat.le_of_ble_eq_true rfl), (Nat.le_of_ble_eq_true rfl)⟩ (fun r u hF => ?_) (fun b u hF H1 locs1 ls q ce9 hP1 hS1 hl1 h1 h2 h3 => ?_)
  · skip
    refine j_i2l (x := r) (rest := [.int 0, .ref (ad 64)]) C dL_find_10 ?_
    refine j_last (x := r.toInt64) (i := 0) (rest := []) C 64 3 (by decide) lce_o rfl vp01 dL_find_11 (E' := lce cI cR cZ cJ ad u rt (vp_updL o 0 (r.toInt64))) rfl (fun j hj hne => lce_ne j hj hne) ?_
    refine j_goto (tgt := 19) C dL_find_12 (by decide) ?_
    refine j_iconst (v := 0) C dL_find_19 (by decide) ?_
    exact l_iret C hr (Or.inl ⟨r, hF, rfl, rfl⟩) (Nat.le_of_ble_eq_true rfl) (Nat.le_of_ble_eq_true rfl) dL_find_20
  · cases b with
    | true =>
      refine l_catchA C hT htab (by decide) (by decide) (by decide +kernel) hP1 hS1 hl1 h1 h2 h3 ?_
      refine j_astore (lv' := [(5, .ref q), (0, .ref (ad 0)), (1, .int i1), (2, .int i2), (3, .int i3), (4, .ref (ad 64))]) C dL_find_15 (by decide) rfl ?_
      refine j_iconst (v := 1) C dL_find_17 (by decide) ?_
      exact l_iret C hr (Or.inr ⟨true, hF, rfl, rfl⟩) (Nat.le_of_ble_eq_true rfl) (Nat.le_of_ble_eq_true rfl) dL_find_18
    | false =>
      exact absurd hF (NF_find u)
def rmL_difference : Room := { frames := 40, cells := 2, slots := 12, locals := 800 }
set_option maxHeartbeats 1000000 in
set_option maxRecDepth 100000 in
theorem hL_difference (hl : l.stackTraces = false) (n : Nat) (i1 : Int32) (i2 : Int32) (st rt : zS) (o : Nat → Int64) (hn : fX2_difference n i1 i2 st ≠ none) (sz : Nat) : Met l yL_difference wsL_difference rmL_difference (lPc D cI cR cZ cJ ad st rt o sz [.ref (ad 0), .int i1, .int i2, .ref (ad 64)]) (lQc (fX2_difference n i1 i2 st) (fun v : Int32 => some v.toInt64) D cI cR cZ cJ ad rt o sz) 2 12 (zA 65 ad sz) := by
  refine l_ofJ (cc := cL_difference) (maxL := 5) (ret := some .int) (hh := [(0, 10, 13, 13)]) (lv := [(0, .ref (ad 0)), (1, .int i1), (2, .int i2), (3, .ref (ad 64))]) (by decide) rfl (Nat.le_of_ble_eq_true rfl) rfl ?_
  intro p e s m args below meth c C htab hT hr
  refine j_aload_n C dL_difference_0 rfl 3 rfl ?_
  refine j_iconst (v := 0) C dL_difference_1 (by decide) ?_
  refine j_aload_n C dL_difference_2 rfl 0 rfl ?_
  refine j_iload_n C dL_difference_3 rfl 1 rfl ?_
  refine j_iload_n C dL_difference_4 rfl 2 rfl ?_
  refine l_callC C hT (As := [.int i1, .int i2]) (rest := [.int 0, .ref (ad 64)]) (kX2_difference hl n i1 i2 st hn) (cwV 2 C.1.2.2.2.2 gL_difference_X2_difference rfl rfl rfl (by decide +kernel) ⟨(Nat.le_of_ble_eq_true rfl), (Nat.le_of_ble_eq_true rfl)⟩) rfl rfl (Nat.le_of_ble_eq_true rfl) dL_difference_5 ⟨(Nat.le_of_ble_eq_true rfl), (Nat.le_of_ble_eq_true rfl)⟩ (fun r u hF => ?_) (fun b u hF H1 locs1 ls q ce9 hP1 hS1 hl1 h1 h2 h3 => ?_)
  · skip
    refine j_i2l (x := r) (rest := [.int 0, .ref (ad 64)]) C dL_difference_8 ?_
    refine j_last (x := r.toInt64) (i := 0) (rest := []) C 64 3 (by decide) lce_o rfl vp01 dL_difference_9 (E' := lce cI cR cZ cJ ad u rt (vp_updL o 0 (r.toInt64))) rfl (fun j hj hne => lce_ne j hj hne) ?_
    refine j_goto (tgt := 17) C dL_difference_10 (by decide) ?_
    refine j_iconst (v := 0) C dL_difference_17 (by decide) ?_
    exact l_iret C hr (Or.inl ⟨r, hF, rfl, rfl⟩) (Nat.le_of_ble_eq_true rfl) (Nat.le_of_ble_eq_true rfl) dL_difference_18
  · cases b with
    | true =>
      refine l_catchA C hT htab (by decide) (by decide) (by decide +kernel) hP1 hS1 hl1 h1 h2 h3 ?_
      refine j_astore (lv' := [(4, .ref q), (0, .ref (ad 0)), (1, .int i1), (2, .int i2), (3, .ref (ad 64))]) C dL_difference_13 (by decide) rfl ?_
      refine j_iconst (v := 1) C dL_difference_15 (by decide) ?_
      exact l_iret C hr (Or.inr ⟨true, hF, rfl, rfl⟩) (Nat.le_of_ble_eq_true rfl) (Nat.le_of_ble_eq_true rfl) dL_difference_16
    | false =>
      exact absurd hF (NF_difference u)
end
