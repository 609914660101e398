/-! the law's cases -/
section
variable {p : Program} {l : Launch} {e : Env} {s : State} {m : MethodId} {args : Array Value} {below : List Frame} {meth : Method} {c : Code} {Q : State → Prop} {D : va_G} {cI cR cZ cJ : ClassId} {ad : Nat → Nat} {cells slots : Nat}
set_option maxHeartbeats 2000000 in
set_option maxRecDepth 100000 in
theorem lc_move (C : zC p s m args meth c cL_law RL wsL_law D zcl (lty cI cR cZ cJ) 65 ad 8) (hl : l.stackTraces = false) (hT : lT ad s.heap.size s) {b L : Nat} {xs : Nat → Int32} (hX : va_X b L xs s s.heap) (hbl : b < s.heap.size) (hbA : ¬ zA 65 ad s.heap.size b) (hL : L ≤ 2560) {n fc md i : Nat} (hn : 200000 ≤ n) {st rt : zS} {o : Nat → Int64} (Rl : Rel st rt fc md) (hmd : md + 256 ≤ 131072) (hi : i + 5 ≤ L) (hc : cells + 8 ≤ 601024) (hs : slots + 48 ≤ 7293034)
    (kk : ∀ (st' rt' : zS) (o' : Nat → Int64) (fc' md' : Nat), Rel st' rt' fc' md' → md' ≤ md + 256 → zJ p l e room_1 s m args below meth c Q D zcl 65 ad 8 (lce cI cR cZ cJ ad st' rt' o') (cells + 8) (slots + 48) 1241 [(4, .int (nI i)), (0, .ref b), (1, .ref (ad 0)), (2, .ref (ad 57)), (3, .ref (ad 64))] []) : zJ p l e room_1 s m args below meth c Q D zcl 65 ad 8 (lce cI cR cZ cJ ad st rt o) cells slots 629 [(4, .int (nI i)), (0, .ref b), (1, .ref (ad 0)), (2, .ref (ad 57)), (3, .ref (ad 64))] [] := by
  have ok : Ok (fX2_move n (xs (i + 1)) (xs (i + 2)) (xs (i + 3)) (xs (i + 4)) st) (fX3_move n (xs (i + 1)) (xs (i + 2)) (xs (i + 3)) (xs (i + 4)) rt) md := ok_move Rl hn hmd
  refine j_aload_n C dL_law_629 rfl 2 rfl ?_
  refine l_arg C hX hbl hbA hL (i := i) (k := 1) (by omega) 1 0 rfl rfl dL_law_630 dL_law_631 dL_law_633 (by decide) dL_law_634 dL_law_635 ?_
  refine l_arg C hX hbl hbA hL (i := i) (k := 2) (by omega) 1 0 rfl rfl dL_law_636 dL_law_637 dL_law_639 (by decide) dL_law_640 dL_law_641 ?_
  refine l_arg C hX hbl hbA hL (i := i) (k := 3) (by omega) 1 0 rfl rfl dL_law_642 dL_law_643 dL_law_645 (by decide) dL_law_646 dL_law_647 ?_
  refine l_arg C hX hbl hbA hL (i := i) (k := 4) (by omega) 1 0 rfl rfl dL_law_648 dL_law_649 dL_law_651 (by decide) dL_law_652 dL_law_653 ?_
  refine l_callH C hT (As := [.ref (ad 0), .int (xs (i + 1)), .int (xs (i + 2)), .int (xs (i + 3)), .int (xs (i + 4))]) (rest := []) (fun sz => hL_move hl n (xs (i + 1)) (xs (i + 2)) (xs (i + 3)) (xs (i + 4)) st rt o ok.ne.1 sz) (vx_cwSW 5 C.1.2.2.2.2 gL_law_L_move rfl rfl rfl (by decide +kernel) ⟨(Nat.le_of_ble_eq_true rfl), (Nat.le_of_ble_eq_true rfl)⟩) rfl rfl (Nat.le_of_ble_eq_true rfl) dL_law_654 ⟨by show cells + 3 ≤ 601024; omega, by show slots + 18 ≤ 7293034; omega⟩ (fun k u o' hH => ?_)
  refine j_istore (lv' := [(5, .int k), (4, .int (nI i)), (0, .ref b), (1, .ref (ad 0)), (2, .ref (ad 57)), (3, .ref (ad 64))]) C dL_law_657 (by decide) rfl ?_
  refine j_aload_n C dL_law_659 rfl 4 rfl ?_
  refine l_arg C hX hbl hbA hL (i := i) (k := 1) (by omega) 2 1 rfl rfl dL_law_660 dL_law_661 dL_law_663 (by decide) dL_law_664 dL_law_665 ?_
  refine l_arg C hX hbl hbA hL (i := i) (k := 2) (by omega) 2 1 rfl rfl dL_law_666 dL_law_667 dL_law_669 (by decide) dL_law_670 dL_law_671 ?_
  refine l_arg C hX hbl hbA hL (i := i) (k := 3) (by omega) 2 1 rfl rfl dL_law_672 dL_law_673 dL_law_675 (by decide) dL_law_676 dL_law_677 ?_
  refine l_arg C hX hbl hbA hL (i := i) (k := 4) (by omega) 2 1 rfl rfl dL_law_678 dL_law_679 dL_law_681 (by decide) dL_law_682 dL_law_683 ?_
  refine l_callM C (As := [.int (xs (i + 1)), .int (xs (i + 2)), .int (xs (i + 3)), .int (xs (i + 4))]) (rest := []) (kX3_move hl n (xs (i + 1)) (xs (i + 2)) (xs (i + 3)) (xs (i + 4)) rt ok.ne.2.1) (cwV 4 C.1.2.2.2.2 gL_law_X3_move rfl rfl rfl (by decide +kernel) ⟨(Nat.le_of_ble_eq_true rfl), (Nat.le_of_ble_eq_true rfl)⟩) rfl rfl (Nat.le_of_ble_eq_true rfl) dL_law_684 ⟨by show cells + 3 + 0 ≤ 601024; omega, by show slots + 18 + 0 ≤ 7293034; omega⟩ ok.ne.2.2 (fun r w hG => ?_)
  obtain ⟨⟨fc', md', R', hmd'⟩, h0, ho⟩ := ok.hr hH hG
  refine j_aload_n (rest := []) C dL_law_687 rfl 4 rfl ?_
  refine l_callM C (As := []) (rest := []) (kX3_thrown hl n w (fun z => by cases z)) (cwV 0 C.1.2.2.2.2 gL_law_X3_thrown rfl rfl rfl (by decide +kernel) ⟨(Nat.le_of_ble_eq_true rfl), (Nat.le_of_ble_eq_true rfl)⟩) rfl rfl (Nat.le_of_ble_eq_true rfl) dL_law_688 ⟨by show cells + 3 + 0 + 0 ≤ 601024; omega, by show slots + 18 + 0 + 0 ≤ 7293034; omega⟩ (fun _ _ z => by cases z) (fun r9 w9 hG9 => ?_)
  have hG8 : (some (.inl (w 0 0), w) : zF Int32) = some (.inl r9, w9) := hG9
  injection hG8 with hG8
  injection hG8 with e1 e2
  injection e1 with e1
  subst e1; subst e2
  refine j_iload (rest := [.int (w 0 0)]) C dL_law_691 0 rfl ?_
  refine j_icmp_eq (tgt := 698) C dL_law_693 (by decide) (fun _ => ?_) (fun z => absurd h0 z)
  refine j_goto (tgt := 1241) C dL_law_698 (by decide) ?_
  refine j_sub [1, 2, 3, 4, 5] rfl ?_
  refine j_widen (k := cells + 8) (n := slots + 48) (by omega) (by omega) ?_
  exact kk u w o' fc' md' R' hmd'
set_option maxHeartbeats 2000000 in
set_option maxRecDepth 100000 in
theorem lc_sort (C : zC p s m args meth c cL_law RL wsL_law D zcl (lty cI cR cZ cJ) 65 ad 8) (hl : l.stackTraces = false) (hT : lT ad s.heap.size s) {b L : Nat} {xs : Nat → Int32} (hX : va_X b L xs s s.heap) (hbl : b < s.heap.size) (hbA : ¬ zA 65 ad s.heap.size b) (hL : L ≤ 2560) {n fc md i : Nat} (hn : 200000 ≤ n) {st rt : zS} {o : Nat → Int64} (Rl : Rel st rt fc md) (hmd : md + 256 ≤ 131072) (hi : i + 5 ≤ L) (hc : cells + 8 ≤ 601024) (hs : slots + 48 ≤ 7293034)
    (kk : ∀ (st' rt' : zS) (o' : Nat → Int64) (fc' md' : Nat), Rel st' rt' fc' md' → md' ≤ md + 256 → zJ p l e room_1 s m args below meth c Q D zcl 65 ad 8 (lce cI cR cZ cJ ad st' rt' o') (cells + 8) (slots + 48) 1241 [(4, .int (nI i)), (0, .ref b), (1, .ref (ad 0)), (2, .ref (ad 57)), (3, .ref (ad 64))] []) : zJ p l e room_1 s m args below meth c Q D zcl 65 ad 8 (lce cI cR cZ cJ ad st rt o) cells slots 701 [(4, .int (nI i)), (0, .ref b), (1, .ref (ad 0)), (2, .ref (ad 57)), (3, .ref (ad 64))] [] := by
  have ok : Ok (fX2_sort n (xs (i + 1)) st) (fX3_sort n (xs (i + 1)) rt) md := ok_sort Rl hn hmd
  refine j_aload_n C dL_law_701 rfl 2 rfl ?_
  refine l_arg C hX hbl hbA hL (i := i) (k := 1) (by omega) 1 0 rfl rfl dL_law_702 dL_law_703 dL_law_705 (by decide) dL_law_706 dL_law_707 ?_
  refine l_callH C hT (As := [.ref (ad 0), .int (xs (i + 1))]) (rest := []) (fun sz => hL_sort hl n (xs (i + 1)) st rt o ok.ne.1 sz) (vx_cwSW 2 C.1.2.2.2.2 gL_law_L_sort rfl rfl rfl (by decide +kernel) ⟨(Nat.le_of_ble_eq_true rfl), (Nat.le_of_ble_eq_true rfl)⟩) rfl rfl (Nat.le_of_ble_eq_true rfl) dL_law_708 ⟨by show cells + 2 ≤ 601024; omega, by show slots + 12 ≤ 7293034; omega⟩ (fun k u o' hH => ?_)
  refine j_istore (lv' := [(5, .int k), (4, .int (nI i)), (0, .ref b), (1, .ref (ad 0)), (2, .ref (ad 57)), (3, .ref (ad 64))]) C dL_law_711 (by decide) rfl ?_
  refine j_aload_n C dL_law_713 rfl 4 rfl ?_
  refine l_arg C hX hbl hbA hL (i := i) (k := 1) (by omega) 2 1 rfl rfl dL_law_714 dL_law_715 dL_law_717 (by decide) dL_law_718 dL_law_719 ?_
  refine l_callM C (As := [.int (xs (i + 1))]) (rest := []) (kX3_sort hl n (xs (i + 1)) rt ok.ne.2.1) (cwV 1 C.1.2.2.2.2 gL_law_X3_sort rfl rfl rfl (by decide +kernel) ⟨(Nat.le_of_ble_eq_true rfl), (Nat.le_of_ble_eq_true rfl)⟩) rfl rfl (Nat.le_of_ble_eq_true rfl) dL_law_720 ⟨by show cells + 2 + 0 ≤ 601024; omega, by show slots + 12 + 0 ≤ 7293034; omega⟩ ok.ne.2.2 (fun r w hG => ?_)
  obtain ⟨⟨fc', md', R', hmd'⟩, h0, ho⟩ := ok.hr hH hG
  refine j_aload_n (rest := []) C dL_law_723 rfl 4 rfl ?_
  refine l_callM C (As := []) (rest := []) (kX3_thrown hl n w (fun z => by cases z)) (cwV 0 C.1.2.2.2.2 gL_law_X3_thrown rfl rfl rfl (by decide +kernel) ⟨(Nat.le_of_ble_eq_true rfl), (Nat.le_of_ble_eq_true rfl)⟩) rfl rfl (Nat.le_of_ble_eq_true rfl) dL_law_724 ⟨by show cells + 2 + 0 + 0 ≤ 601024; omega, by show slots + 12 + 0 + 0 ≤ 7293034; omega⟩ (fun _ _ z => by cases z) (fun r9 w9 hG9 => ?_)
  have hG8 : (some (.inl (w 0 0), w) : zF Int32) = some (.inl r9, w9) := hG9
  injection hG8 with hG8
  injection hG8 with e1 e2
  injection e1 with e1
  subst e1; subst e2
  refine j_iload (rest := [.int (w 0 0)]) C dL_law_727 0 rfl ?_
  refine j_icmp_eq (tgt := 734) C dL_law_729 (by decide) (fun _ => ?_) (fun z => absurd h0 z)
  refine j_goto (tgt := 1241) C dL_law_734 (by decide) ?_
  refine j_sub [1, 2, 3, 4, 5] rfl ?_
  refine j_widen (k := cells + 8) (n := slots + 48) (by omega) (by omega) ?_
  exact kk u w o' fc' md' R' hmd'
set_option maxHeartbeats 2000000 in
set_option maxRecDepth 100000 in
theorem lc_reverse (C : zC p s m args meth c cL_law RL wsL_law D zcl (lty cI cR cZ cJ) 65 ad 8) (hl : l.stackTraces = false) (hT : lT ad s.heap.size s) {b L : Nat} {xs : Nat → Int32} (hX : va_X b L xs s s.heap) (hbl : b < s.heap.size) (hbA : ¬ zA 65 ad s.heap.size b) (hL : L ≤ 2560) {n fc md i : Nat} (hn : 200000 ≤ n) {st rt : zS} {o : Nat → Int64} (Rl : Rel st rt fc md) (hmd : md + 256 ≤ 131072) (hi : i + 5 ≤ L) (hc : cells + 8 ≤ 601024) (hs : slots + 48 ≤ 7293034)
    (kk : ∀ (st' rt' : zS) (o' : Nat → Int64) (fc' md' : Nat), Rel st' rt' fc' md' → md' ≤ md + 256 → zJ p l e room_1 s m args below meth c Q D zcl 65 ad 8 (lce cI cR cZ cJ ad st' rt' o') (cells + 8) (slots + 48) 1241 [(4, .int (nI i)), (0, .ref b), (1, .ref (ad 0)), (2, .ref (ad 57)), (3, .ref (ad 64))] []) : zJ p l e room_1 s m args below meth c Q D zcl 65 ad 8 (lce cI cR cZ cJ ad st rt o) cells slots 737 [(4, .int (nI i)), (0, .ref b), (1, .ref (ad 0)), (2, .ref (ad 57)), (3, .ref (ad 64))] [] := by
  have ok : Ok (fX2_reverse n (xs (i + 1)) st) (fX3_reverse n (xs (i + 1)) rt) md := ok_reverse Rl hn hmd
  refine j_aload_n C dL_law_737 rfl 2 rfl ?_
  refine l_arg C hX hbl hbA hL (i := i) (k := 1) (by omega) 1 0 rfl rfl dL_law_738 dL_law_739 dL_law_741 (by decide) dL_law_742 dL_law_743 ?_
  refine l_callH C hT (As := [.ref (ad 0), .int (xs (i + 1))]) (rest := []) (fun sz => hL_reverse hl n (xs (i + 1)) st rt o ok.ne.1 sz) (vx_cwSW 2 C.1.2.2.2.2 gL_law_L_reverse rfl rfl rfl (by decide +kernel) ⟨(Nat.le_of_ble_eq_true rfl), (Nat.le_of_ble_eq_true rfl)⟩) rfl rfl (Nat.le_of_ble_eq_true rfl) dL_law_744 ⟨by show cells + 2 ≤ 601024; omega, by show slots + 12 ≤ 7293034; omega⟩ (fun k u o' hH => ?_)
  refine j_istore (lv' := [(5, .int k), (4, .int (nI i)), (0, .ref b), (1, .ref (ad 0)), (2, .ref (ad 57)), (3, .ref (ad 64))]) C dL_law_747 (by decide) rfl ?_
  refine j_aload_n C dL_law_749 rfl 4 rfl ?_
  refine l_arg C hX hbl hbA hL (i := i) (k := 1) (by omega) 2 1 rfl rfl dL_law_750 dL_law_751 dL_law_753 (by decide) dL_law_754 dL_law_755 ?_
  refine l_callM C (As := [.int (xs (i + 1))]) (rest := []) (kX3_reverse hl n (xs (i + 1)) rt ok.ne.2.1) (cwV 1 C.1.2.2.2.2 gL_law_X3_reverse rfl rfl rfl (by decide +kernel) ⟨(Nat.le_of_ble_eq_true rfl), (Nat.le_of_ble_eq_true rfl)⟩) rfl rfl (Nat.le_of_ble_eq_true rfl) dL_law_756 ⟨by show cells + 2 + 0 ≤ 601024; omega, by show slots + 12 + 0 ≤ 7293034; omega⟩ ok.ne.2.2 (fun r w hG => ?_)
  obtain ⟨⟨fc', md', R', hmd'⟩, h0, ho⟩ := ok.hr hH hG
  refine j_aload_n (rest := []) C dL_law_759 rfl 4 rfl ?_
  refine l_callM C (As := []) (rest := []) (kX3_thrown hl n w (fun z => by cases z)) (cwV 0 C.1.2.2.2.2 gL_law_X3_thrown rfl rfl rfl (by decide +kernel) ⟨(Nat.le_of_ble_eq_true rfl), (Nat.le_of_ble_eq_true rfl)⟩) rfl rfl (Nat.le_of_ble_eq_true rfl) dL_law_760 ⟨by show cells + 2 + 0 + 0 ≤ 601024; omega, by show slots + 12 + 0 + 0 ≤ 7293034; omega⟩ (fun _ _ z => by cases z) (fun r9 w9 hG9 => ?_)
  have hG8 : (some (.inl (w 0 0), w) : zF Int32) = some (.inl r9, w9) := hG9
  injection hG8 with hG8
  injection hG8 with e1 e2
  injection e1 with e1
  subst e1; subst e2
  refine j_iload (rest := [.int (w 0 0)]) C dL_law_763 0 rfl ?_
  refine j_icmp_eq (tgt := 770) C dL_law_765 (by decide) (fun _ => ?_) (fun z => absurd h0 z)
  refine j_goto (tgt := 1241) C dL_law_770 (by decide) ?_
  refine j_sub [1, 2, 3, 4, 5] rfl ?_
  refine j_widen (k := cells + 8) (n := slots + 48) (by omega) (by omega) ?_
  exact kk u w o' fc' md' R' hmd'
set_option maxHeartbeats 2000000 in
set_option maxRecDepth 100000 in
theorem lc_length (C : zC p s m args meth c cL_law RL wsL_law D zcl (lty cI cR cZ cJ) 65 ad 8) (hl : l.stackTraces = false) (hT : lT ad s.heap.size s) {b L : Nat} {xs : Nat → Int32} (hX : va_X b L xs s s.heap) (hbl : b < s.heap.size) (hbA : ¬ zA 65 ad s.heap.size b) (hL : L ≤ 2560) {n fc md i : Nat} (hn : 200000 ≤ n) {st rt : zS} {o : Nat → Int64} (Rl : Rel st rt fc md) (hmd : md + 256 ≤ 131072) (hi : i + 5 ≤ L) (hc : cells + 8 ≤ 601024) (hs : slots + 48 ≤ 7293034)
    (kk : ∀ (st' rt' : zS) (o' : Nat → Int64) (fc' md' : Nat), Rel st' rt' fc' md' → md' ≤ md + 256 → zJ p l e room_1 s m args below meth c Q D zcl 65 ad 8 (lce cI cR cZ cJ ad st' rt' o') (cells + 8) (slots + 48) 1241 [(4, .int (nI i)), (0, .ref b), (1, .ref (ad 0)), (2, .ref (ad 57)), (3, .ref (ad 64))] []) : zJ p l e room_1 s m args below meth c Q D zcl 65 ad 8 (lce cI cR cZ cJ ad st rt o) cells slots 773 [(4, .int (nI i)), (0, .ref b), (1, .ref (ad 0)), (2, .ref (ad 57)), (3, .ref (ad 64))] [] := by
  have ok : Ok (fX2_length n (xs (i + 1)) st) (fX3_length n (xs (i + 1)) rt) md := ok_length Rl
  refine j_aload_n C dL_law_773 rfl 2 rfl ?_
  refine l_arg C hX hbl hbA hL (i := i) (k := 1) (by omega) 1 0 rfl rfl dL_law_774 dL_law_775 dL_law_777 (by decide) dL_law_778 dL_law_779 ?_
  refine l_callC C hT (As := [.int (xs (i + 1))]) (rest := []) (kX2_length hl n (xs (i + 1)) st ok.ne.1) (cwV 1 C.1.2.2.2.2 gL_law_X2_length rfl rfl rfl (by decide +kernel) ⟨(Nat.le_of_ble_eq_true rfl), (Nat.le_of_ble_eq_true rfl)⟩) rfl rfl (Nat.le_of_ble_eq_true rfl) dL_law_780 ⟨by show cells + 0 ≤ 601024; omega, by show slots + 0 ≤ 7293034; omega⟩ (fun r u hF => ?_) (fun b9 u9 hF => absurd hF (NT_length b9 u9))
  refine j_aload_n (rest := [.int r]) C dL_law_783 rfl 3 rfl ?_
  refine l_arg C hX hbl hbA hL (i := i) (k := 1) (by omega) 1 0 rfl rfl dL_law_784 dL_law_785 dL_law_787 (by decide) dL_law_788 dL_law_789 ?_
  refine l_callM C (As := [.int (xs (i + 1))]) (rest := [.int r]) (kX3_length hl n (xs (i + 1)) rt ok.ne.2.1) (cwV 1 C.1.2.2.2.2 gL_law_X3_length rfl rfl rfl (by decide +kernel) ⟨(Nat.le_of_ble_eq_true rfl), (Nat.le_of_ble_eq_true rfl)⟩) rfl rfl (Nat.le_of_ble_eq_true rfl) dL_law_790 ⟨by show cells + 0 + 0 ≤ 601024; omega, by show slots + 0 + 0 ≤ 7293034; omega⟩ ok.ne.2.2 (fun r2 w hG => ?_)
  obtain ⟨⟨fc', md', R', hmd'⟩, hrr⟩ := ok.cc hF hG
  refine j_icmp_eq (x := r) (y := r2) (rest := []) (tgt := 1241) C dL_law_793 (by decide) (fun _ => ?_) (fun z => absurd hrr z)
  refine j_widen (k := cells + 8) (n := slots + 48) (by omega) (by omega) ?_
  exact kk u w o fc' md' R' hmd'
end
