/-! the law's cases -/
section
variable {p : Program} {l : Launch} {e : Env} {s : State} {m : MethodId} {args : Array Value} {below : List Frame} {meth : Method} {c : Code} {Q : State → Prop} {D : va_G} {cI cR cZ cJ : ClassId} {ad : Nat → Nat} {cells slots : Nat}
set_option maxHeartbeats 2000000 in
set_option maxRecDepth 100000 in
theorem lc_release (C : zC p s m args meth c cL_law RL wsL_law D zcl (lty cI cR cZ cJ) 65 ad 8) (hl : l.stackTraces = false) (hT : lT ad s.heap.size s) {b L : Nat} {xs : Nat → Int32} (hX : va_X b L xs s s.heap) (hbl : b < s.heap.size) (hbA : ¬ zA 65 ad s.heap.size b) (hL : L ≤ 2560) {n fc md i : Nat} (hn : 200000 ≤ n) {st rt : zS} {o : Nat → Int64} (Rl : Rel st rt fc md) (hmd : md + 256 ≤ 131072) (hi : i + 5 ≤ L) (hc : cells + 8 ≤ 601024) (hs : slots + 48 ≤ 7293034)
    (kk : ∀ (st' rt' : zS) (o' : Nat → Int64) (fc' md' : Nat), Rel st' rt' fc' md' → md' ≤ md + 256 → zJ p l e room_1 s m args below meth c Q D zcl 65 ad 8 (lce cI cR cZ cJ ad st' rt' o') (cells + 8) (slots + 48) 1241 [(4, .int (nI i)), (0, .ref b), (1, .ref (ad 0)), (2, .ref (ad 57)), (3, .ref (ad 64))] []) : zJ p l e room_1 s m args below meth c Q D zcl 65 ad 8 (lce cI cR cZ cJ ad st rt o) cells slots 404 [(4, .int (nI i)), (0, .ref b), (1, .ref (ad 0)), (2, .ref (ad 57)), (3, .ref (ad 64))] [] := by
  have ok : Ok (fX2_release n (xs (i + 1)) st) (fX3_release n (xs (i + 1)) rt) md := ok_release Rl hn
  refine j_aload_n C dL_law_404 rfl 2 rfl ?_
  refine l_arg C hX hbl hbA hL (i := i) (k := 1) (by omega) 1 0 rfl rfl dL_law_405 dL_law_406 dL_law_408 (by decide) dL_law_409 dL_law_410 ?_
  refine l_callC C hT (As := [.int (xs (i + 1))]) (rest := []) (kX2_release hl n (xs (i + 1)) st ok.ne.1) (cwV 1 C.1.2.2.2.2 gL_law_X2_release rfl rfl rfl (by decide +kernel) ⟨(Nat.le_of_ble_eq_true rfl), (Nat.le_of_ble_eq_true rfl)⟩) rfl rfl (Nat.le_of_ble_eq_true rfl) dL_law_411 ⟨by show cells + 0 ≤ 601024; omega, by show slots + 0 ≤ 7293034; omega⟩ (fun r u hF => ?_) (fun b9 u9 hF => absurd hF (NT_release b9 u9))
  refine j_aload_n (rest := [.int r]) C dL_law_414 rfl 3 rfl ?_
  refine l_arg C hX hbl hbA hL (i := i) (k := 1) (by omega) 1 0 rfl rfl dL_law_415 dL_law_416 dL_law_418 (by decide) dL_law_419 dL_law_420 ?_
  refine l_callM C (As := [.int (xs (i + 1))]) (rest := [.int r]) (kX3_release hl n (xs (i + 1)) rt ok.ne.2.1) (cwV 1 C.1.2.2.2.2 gL_law_X3_release rfl rfl rfl (by decide +kernel) ⟨(Nat.le_of_ble_eq_true rfl), (Nat.le_of_ble_eq_true rfl)⟩) rfl rfl (Nat.le_of_ble_eq_true rfl) dL_law_421 ⟨by show cells + 0 + 0 ≤ 601024; omega, by show slots + 0 + 0 ≤ 7293034; omega⟩ ok.ne.2.2 (fun r2 w hG => ?_)
  obtain ⟨⟨fc', md', R', hmd'⟩, hrr⟩ := ok.cc hF hG
  refine j_icmp_eq (x := r) (y := r2) (rest := []) (tgt := 1241) C dL_law_424 (by decide) (fun _ => ?_) (fun z => absurd hrr z)
  refine j_widen (k := cells + 8) (n := slots + 48) (by omega) (by omega) ?_
  exact kk u w o fc' md' R' hmd'
set_option maxHeartbeats 2000000 in
set_option maxRecDepth 100000 in
theorem lc_get (C : zC p s m args meth c cL_law RL wsL_law D zcl (lty cI cR cZ cJ) 65 ad 8) (hl : l.stackTraces = false) (hT : lT ad s.heap.size s) {b L : Nat} {xs : Nat → Int32} (hX : va_X b L xs s s.heap) (hbl : b < s.heap.size) (hbA : ¬ zA 65 ad s.heap.size b) (hL : L ≤ 2560) {n fc md i : Nat} (hn : 200000 ≤ n) {st rt : zS} {o : Nat → Int64} (Rl : Rel st rt fc md) (hmd : md + 256 ≤ 131072) (hi : i + 5 ≤ L) (hc : cells + 8 ≤ 601024) (hs : slots + 48 ≤ 7293034)
    (kk : ∀ (st' rt' : zS) (o' : Nat → Int64) (fc' md' : Nat), Rel st' rt' fc' md' → md' ≤ md + 256 → zJ p l e room_1 s m args below meth c Q D zcl 65 ad 8 (lce cI cR cZ cJ ad st' rt' o') (cells + 8) (slots + 48) 1241 [(4, .int (nI i)), (0, .ref b), (1, .ref (ad 0)), (2, .ref (ad 57)), (3, .ref (ad 64))] []) : zJ p l e room_1 s m args below meth c Q D zcl 65 ad 8 (lce cI cR cZ cJ ad st rt o) cells slots 429 [(4, .int (nI i)), (0, .ref b), (1, .ref (ad 0)), (2, .ref (ad 57)), (3, .ref (ad 64))] [] := by
  have ok : Ok (fX2_get n (xs (i + 1)) (xs (i + 2)) st) (fX3_get n (xs (i + 1)) (xs (i + 2)) rt) md := ok_get Rl
  refine j_aload_n C dL_law_429 rfl 2 rfl ?_
  refine l_arg C hX hbl hbA hL (i := i) (k := 1) (by omega) 1 0 rfl rfl dL_law_430 dL_law_431 dL_law_433 (by decide) dL_law_434 dL_law_435 ?_
  refine l_arg C hX hbl hbA hL (i := i) (k := 2) (by omega) 1 0 rfl rfl dL_law_436 dL_law_437 dL_law_439 (by decide) dL_law_440 dL_law_441 ?_
  refine j_aload_n C dL_law_442 rfl 4 rfl ?_
  refine l_callH C hT (As := [.ref (ad 0), .int (xs (i + 1)), .int (xs (i + 2)), .ref (ad 64)]) (rest := []) (fun sz => hL_get hl n (xs (i + 1)) (xs (i + 2)) st rt o ok.ne.1 sz) (vx_cwSW 4 C.1.2.2.2.2 gL_law_L_get rfl rfl rfl (by decide +kernel) ⟨(Nat.le_of_ble_eq_true rfl), (Nat.le_of_ble_eq_true rfl)⟩) rfl rfl (Nat.le_of_ble_eq_true rfl) dL_law_443 ⟨by show cells + 2 ≤ 601024; omega, by show slots + 12 ≤ 7293034; omega⟩ (fun k u o' hH => ?_)
  refine j_istore (lv' := [(5, .int k), (4, .int (nI i)), (0, .ref b), (1, .ref (ad 0)), (2, .ref (ad 57)), (3, .ref (ad 64))]) C dL_law_446 (by decide) rfl ?_
  refine j_aload_n C dL_law_448 rfl 4 rfl ?_
  refine l_arg C hX hbl hbA hL (i := i) (k := 1) (by omega) 2 1 rfl rfl dL_law_449 dL_law_450 dL_law_452 (by decide) dL_law_453 dL_law_454 ?_
  refine l_arg C hX hbl hbA hL (i := i) (k := 2) (by omega) 2 1 rfl rfl dL_law_455 dL_law_456 dL_law_458 (by decide) dL_law_459 dL_law_460 ?_
  refine l_callM C (As := [.int (xs (i + 1)), .int (xs (i + 2))]) (rest := []) (kX3_get hl n (xs (i + 1)) (xs (i + 2)) rt ok.ne.2.1) (cwV 2 C.1.2.2.2.2 gL_law_X3_get rfl rfl rfl (by decide +kernel) ⟨(Nat.le_of_ble_eq_true rfl), (Nat.le_of_ble_eq_true rfl)⟩) rfl rfl (Nat.le_of_ble_eq_true rfl) dL_law_461 ⟨by show cells + 2 + 0 ≤ 601024; omega, by show slots + 12 + 0 ≤ 7293034; omega⟩ ok.ne.2.2 (fun r w hG => ?_)
  obtain ⟨⟨fc', md', R', hmd'⟩, h0, ho⟩ := ok.hr hH hG
  refine j_istore (x := r) (rest := []) (lv' := [(6, .int r), (5, .int k), (4, .int (nI i)), (0, .ref b), (1, .ref (ad 0)), (2, .ref (ad 57)), (3, .ref (ad 64))]) C dL_law_464 (by decide) rfl ?_
  refine j_aload_n (rest := []) C dL_law_466 rfl 5 rfl ?_
  refine l_callM C (As := []) (rest := []) (kX3_thrown hl n w (fun z => by cases z)) (cwV 0 C.1.2.2.2.2 gL_law_X3_thrown rfl rfl rfl (by decide +kernel) ⟨(Nat.le_of_ble_eq_true rfl), (Nat.le_of_ble_eq_true rfl)⟩) rfl rfl (Nat.le_of_ble_eq_true rfl) dL_law_467 ⟨by show cells + 2 + 0 + 0 ≤ 601024; omega, by show slots + 12 + 0 + 0 ≤ 7293034; omega⟩ (fun _ _ z => by cases z) (fun r9 w9 hG9 => ?_)
  have hG8 : (some (.inl (w 0 0), w) : zF Int32) = some (.inl r9, w9) := hG9
  injection hG8 with hG8
  injection hG8 with e1 e2
  injection e1 with e1
  subst e1; subst e2
  refine j_iload (rest := [.int (w 0 0)]) C dL_law_470 1 rfl ?_
  refine j_icmp_eq (tgt := 477) C dL_law_472 (by decide) (fun _ => ?_) (fun z => absurd h0 z)
  refine j_iload (rest := []) C dL_law_477 1 rfl ?_
  refine j_if_ne (tgt := 494) C dL_law_479 (by decide) (fun _ => ?_) (fun hk => ?_)
  · skip
    refine j_goto (tgt := 1241) C dL_law_494 (by decide) ?_
    refine j_sub [2, 3, 4, 5, 6] rfl ?_
    refine j_widen (k := cells + 8) (n := slots + 48) (by omega) (by omega) ?_
    exact kk u w o' fc' md' R' hmd'
  · refine j_aload_n (rest := []) C dL_law_482 rfl 6 rfl ?_
    refine j_iconst (v := 0) C dL_law_483 (by decide) ?_
    refine j_lald (rest := []) (i := 0) C 64 3 (by decide) lce_o rfl vp01 dL_law_484 ?_
    refine j_iload C dL_law_485 0 rfl ?_
    refine j_i2l C dL_law_487 ?_
    refine j_lcmp C dL_law_488 ?_
    have hv : o' (0 : Int32).toNatClampNeg = r.toInt64 := by
      show o' 0 = r.toInt64
      rw [ho hk]
      exact updL_at
    refine j_if_eq (tgt := 494) C dL_law_489 (by decide) (fun _ => ?_) (fun z => absurd (lcmp0 hv) z)
    refine j_goto (tgt := 1241) C dL_law_494 (by decide) ?_
    refine j_sub [2, 3, 4, 5, 6] rfl ?_
    refine j_widen (k := cells + 8) (n := slots + 48) (by omega) (by omega) ?_
    exact kk u w o' fc' md' R' hmd'
set_option maxHeartbeats 2000000 in
set_option maxRecDepth 100000 in
theorem lc_set (C : zC p s m args meth c cL_law RL wsL_law D zcl (lty cI cR cZ cJ) 65 ad 8) (hl : l.stackTraces = false) (hT : lT ad s.heap.size s) {b L : Nat} {xs : Nat → Int32} (hX : va_X b L xs s s.heap) (hbl : b < s.heap.size) (hbA : ¬ zA 65 ad s.heap.size b) (hL : L ≤ 2560) {n fc md i : Nat} (hn : 200000 ≤ n) {st rt : zS} {o : Nat → Int64} (Rl : Rel st rt fc md) (hmd : md + 256 ≤ 131072) (hi : i + 5 ≤ L) (hc : cells + 8 ≤ 601024) (hs : slots + 48 ≤ 7293034)
    (kk : ∀ (st' rt' : zS) (o' : Nat → Int64) (fc' md' : Nat), Rel st' rt' fc' md' → md' ≤ md + 256 → zJ p l e room_1 s m args below meth c Q D zcl 65 ad 8 (lce cI cR cZ cJ ad st' rt' o') (cells + 8) (slots + 48) 1241 [(4, .int (nI i)), (0, .ref b), (1, .ref (ad 0)), (2, .ref (ad 57)), (3, .ref (ad 64))] []) : zJ p l e room_1 s m args below meth c Q D zcl 65 ad 8 (lce cI cR cZ cJ ad st rt o) cells slots 497 [(4, .int (nI i)), (0, .ref b), (1, .ref (ad 0)), (2, .ref (ad 57)), (3, .ref (ad 64))] [] := by
  have ok : Ok (fX2_set n (xs (i + 1)) (xs (i + 2)) (xs (i + 3)) st) (fX3_set n (xs (i + 1)) (xs (i + 2)) (xs (i + 3)) rt) md := ok_set Rl hn hmd
  refine j_aload_n C dL_law_497 rfl 2 rfl ?_
  refine l_arg C hX hbl hbA hL (i := i) (k := 1) (by omega) 1 0 rfl rfl dL_law_498 dL_law_499 dL_law_501 (by decide) dL_law_502 dL_law_503 ?_
  refine l_arg C hX hbl hbA hL (i := i) (k := 2) (by omega) 1 0 rfl rfl dL_law_504 dL_law_505 dL_law_507 (by decide) dL_law_508 dL_law_509 ?_
  refine l_arg C hX hbl hbA hL (i := i) (k := 3) (by omega) 1 0 rfl rfl dL_law_510 dL_law_511 dL_law_513 (by decide) dL_law_514 dL_law_515 ?_
  refine l_callH C hT (As := [.ref (ad 0), .int (xs (i + 1)), .int (xs (i + 2)), .int (xs (i + 3))]) (rest := []) (fun sz => hL_set hl n (xs (i + 1)) (xs (i + 2)) (xs (i + 3)) st rt o ok.ne.1 sz) (vx_cwSW 4 C.1.2.2.2.2 gL_law_L_set rfl rfl rfl (by decide +kernel) ⟨(Nat.le_of_ble_eq_true rfl), (Nat.le_of_ble_eq_true rfl)⟩) rfl rfl (Nat.le_of_ble_eq_true rfl) dL_law_516 ⟨by show cells + 3 ≤ 601024; omega, by show slots + 18 ≤ 7293034; omega⟩ (fun k u o' hH => ?_)
  refine j_istore (lv' := [(5, .int k), (4, .int (nI i)), (0, .ref b), (1, .ref (ad 0)), (2, .ref (ad 57)), (3, .ref (ad 64))]) C dL_law_519 (by decide) rfl ?_
  refine j_aload_n C dL_law_521 rfl 4 rfl ?_
  refine l_arg C hX hbl hbA hL (i := i) (k := 1) (by omega) 2 1 rfl rfl dL_law_522 dL_law_523 dL_law_525 (by decide) dL_law_526 dL_law_527 ?_
  refine l_arg C hX hbl hbA hL (i := i) (k := 2) (by omega) 2 1 rfl rfl dL_law_528 dL_law_529 dL_law_531 (by decide) dL_law_532 dL_law_533 ?_
  refine l_arg C hX hbl hbA hL (i := i) (k := 3) (by omega) 2 1 rfl rfl dL_law_534 dL_law_535 dL_law_537 (by decide) dL_law_538 dL_law_539 ?_
  refine l_callM C (As := [.int (xs (i + 1)), .int (xs (i + 2)), .int (xs (i + 3))]) (rest := []) (kX3_set hl n (xs (i + 1)) (xs (i + 2)) (xs (i + 3)) rt ok.ne.2.1) (cwV 3 C.1.2.2.2.2 gL_law_X3_set rfl rfl rfl (by decide +kernel) ⟨(Nat.le_of_ble_eq_true rfl), (Nat.le_of_ble_eq_true rfl)⟩) rfl rfl (Nat.le_of_ble_eq_true rfl) dL_law_540 ⟨by show cells + 3 + 0 ≤ 601024; omega, by show slots + 18 + 0 ≤ 7293034; omega⟩ ok.ne.2.2 (fun r w hG => ?_)
  obtain ⟨⟨fc', md', R', hmd'⟩, h0, ho⟩ := ok.hr hH hG
  refine j_aload_n (rest := []) C dL_law_543 rfl 4 rfl ?_
  refine l_callM C (As := []) (rest := []) (kX3_thrown hl n w (fun z => by cases z)) (cwV 0 C.1.2.2.2.2 gL_law_X3_thrown rfl rfl rfl (by decide +kernel) ⟨(Nat.le_of_ble_eq_true rfl), (Nat.le_of_ble_eq_true rfl)⟩) rfl rfl (Nat.le_of_ble_eq_true rfl) dL_law_544 ⟨by show cells + 3 + 0 + 0 ≤ 601024; omega, by show slots + 18 + 0 + 0 ≤ 7293034; omega⟩ (fun _ _ z => by cases z) (fun r9 w9 hG9 => ?_)
  have hG8 : (some (.inl (w 0 0), w) : zF Int32) = some (.inl r9, w9) := hG9
  injection hG8 with hG8
  injection hG8 with e1 e2
  injection e1 with e1
  subst e1; subst e2
  refine j_iload (rest := [.int (w 0 0)]) C dL_law_547 0 rfl ?_
  refine j_icmp_eq (tgt := 554) C dL_law_549 (by decide) (fun _ => ?_) (fun z => absurd h0 z)
  refine j_goto (tgt := 1241) C dL_law_554 (by decide) ?_
  refine j_sub [1, 2, 3, 4, 5] rfl ?_
  refine j_widen (k := cells + 8) (n := slots + 48) (by omega) (by omega) ?_
  exact kk u w o' fc' md' R' hmd'
set_option maxHeartbeats 2000000 in
set_option maxRecDepth 100000 in
theorem lc_fill (C : zC p s m args meth c cL_law RL wsL_law D zcl (lty cI cR cZ cJ) 65 ad 8) (hl : l.stackTraces = false) (hT : lT ad s.heap.size s) {b L : Nat} {xs : Nat → Int32} (hX : va_X b L xs s s.heap) (hbl : b < s.heap.size) (hbA : ¬ zA 65 ad s.heap.size b) (hL : L ≤ 2560) {n fc md i : Nat} (hn : 200000 ≤ n) {st rt : zS} {o : Nat → Int64} (Rl : Rel st rt fc md) (hmd : md + 256 ≤ 131072) (hi : i + 5 ≤ L) (hc : cells + 8 ≤ 601024) (hs : slots + 48 ≤ 7293034)
    (kk : ∀ (st' rt' : zS) (o' : Nat → Int64) (fc' md' : Nat), Rel st' rt' fc' md' → md' ≤ md + 256 → zJ p l e room_1 s m args below meth c Q D zcl 65 ad 8 (lce cI cR cZ cJ ad st' rt' o') (cells + 8) (slots + 48) 1241 [(4, .int (nI i)), (0, .ref b), (1, .ref (ad 0)), (2, .ref (ad 57)), (3, .ref (ad 64))] []) : zJ p l e room_1 s m args below meth c Q D zcl 65 ad 8 (lce cI cR cZ cJ ad st rt o) cells slots 557 [(4, .int (nI i)), (0, .ref b), (1, .ref (ad 0)), (2, .ref (ad 57)), (3, .ref (ad 64))] [] := by
  have ok : Ok (fX2_fill n (xs (i + 1)) (xs (i + 2)) (xs (i + 3)) (xs (i + 4)) st) (fX3_fill n (xs (i + 1)) (xs (i + 2)) (xs (i + 3)) (xs (i + 4)) rt) md := ok_fill Rl hn hmd
  refine j_aload_n C dL_law_557 rfl 2 rfl ?_
  refine l_arg C hX hbl hbA hL (i := i) (k := 1) (by omega) 1 0 rfl rfl dL_law_558 dL_law_559 dL_law_561 (by decide) dL_law_562 dL_law_563 ?_
  refine l_arg C hX hbl hbA hL (i := i) (k := 2) (by omega) 1 0 rfl rfl dL_law_564 dL_law_565 dL_law_567 (by decide) dL_law_568 dL_law_569 ?_
  refine l_arg C hX hbl hbA hL (i := i) (k := 3) (by omega) 1 0 rfl rfl dL_law_570 dL_law_571 dL_law_573 (by decide) dL_law_574 dL_law_575 ?_
  refine l_arg C hX hbl hbA hL (i := i) (k := 4) (by omega) 1 0 rfl rfl dL_law_576 dL_law_577 dL_law_579 (by decide) dL_law_580 dL_law_581 ?_
  refine l_callH C hT (As := [.ref (ad 0), .int (xs (i + 1)), .int (xs (i + 2)), .int (xs (i + 3)), .int (xs (i + 4))]) (rest := []) (fun sz => hL_fill hl n (xs (i + 1)) (xs (i + 2)) (xs (i + 3)) (xs (i + 4)) st rt o ok.ne.1 sz) (vx_cwSW 5 C.1.2.2.2.2 gL_law_L_fill rfl rfl rfl (by decide +kernel) ⟨(Nat.le_of_ble_eq_true rfl), (Nat.le_of_ble_eq_true rfl)⟩) rfl rfl (Nat.le_of_ble_eq_true rfl) dL_law_582 ⟨by show cells + 3 ≤ 601024; omega, by show slots + 18 ≤ 7293034; omega⟩ (fun k u o' hH => ?_)
  refine j_istore (lv' := [(5, .int k), (4, .int (nI i)), (0, .ref b), (1, .ref (ad 0)), (2, .ref (ad 57)), (3, .ref (ad 64))]) C dL_law_585 (by decide) rfl ?_
  refine j_aload_n C dL_law_587 rfl 4 rfl ?_
  refine l_arg C hX hbl hbA hL (i := i) (k := 1) (by omega) 2 1 rfl rfl dL_law_588 dL_law_589 dL_law_591 (by decide) dL_law_592 dL_law_593 ?_
  refine l_arg C hX hbl hbA hL (i := i) (k := 2) (by omega) 2 1 rfl rfl dL_law_594 dL_law_595 dL_law_597 (by decide) dL_law_598 dL_law_599 ?_
  refine l_arg C hX hbl hbA hL (i := i) (k := 3) (by omega) 2 1 rfl rfl dL_law_600 dL_law_601 dL_law_603 (by decide) dL_law_604 dL_law_605 ?_
  refine l_arg C hX hbl hbA hL (i := i) (k := 4) (by omega) 2 1 rfl rfl dL_law_606 dL_law_607 dL_law_609 (by decide) dL_law_610 dL_law_611 ?_
  refine l_callM C (As := [.int (xs (i + 1)), .int (xs (i + 2)), .int (xs (i + 3)), .int (xs (i + 4))]) (rest := []) (kX3_fill hl n (xs (i + 1)) (xs (i + 2)) (xs (i + 3)) (xs (i + 4)) rt ok.ne.2.1) (cwV 4 C.1.2.2.2.2 gL_law_X3_fill rfl rfl rfl (by decide +kernel) ⟨(Nat.le_of_ble_eq_true rfl), (Nat.le_of_ble_eq_true rfl)⟩) rfl rfl (Nat.le_of_ble_eq_true rfl) dL_law_612 ⟨by show cells + 3 + 0 ≤ 601024; omega, by show slots + 18 + 0 ≤ 7293034; omega⟩ ok.ne.2.2 (fun r w hG => ?_)
  obtain ⟨⟨fc', md', R', hmd'⟩, h0, ho⟩ := ok.hr hH hG
  refine j_aload_n (rest := []) C dL_law_615 rfl 4 rfl ?_
  refine l_callM C (As := []) (rest := []) (kX3_thrown hl n w (fun z => by cases z)) (cwV 0 C.1.2.2.2.2 gL_law_X3_thrown rfl rfl rfl (by decide +kernel) ⟨(Nat.le_of_ble_eq_true rfl), (Nat.le_of_ble_eq_true rfl)⟩) rfl rfl (Nat.le_of_ble_eq_true rfl) dL_law_616 ⟨by show cells + 3 + 0 + 0 ≤ 601024; omega, by show slots + 18 + 0 + 0 ≤ 7293034; omega⟩ (fun _ _ z => by cases z) (fun r9 w9 hG9 => ?_)
  have hG8 : (some (.inl (w 0 0), w) : zF Int32) = some (.inl r9, w9) := hG9
  injection hG8 with hG8
  injection hG8 with e1 e2
  injection e1 with e1
  subst e1; subst e2
  refine j_iload (rest := [.int (w 0 0)]) C dL_law_619 0 rfl ?_
  refine j_icmp_eq (tgt := 626) C dL_law_621 (by decide) (fun _ => ?_) (fun z => absurd h0 z)
  refine j_goto (tgt := 1241) C dL_law_626 (by decide) ?_
  refine j_sub [1, 2, 3, 4, 5] rfl ?_
  refine j_widen (k := cells + 8) (n := slots + 48) (by omega) (by omega) ?_
  exact kk u w o' fc' md' R' hmd'
end
