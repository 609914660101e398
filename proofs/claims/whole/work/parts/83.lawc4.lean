/-! the law's cases -/
section
variable {p : Program} {l : Launch} {e : Env} {s : State} {m : MethodId} {args : Array Value} {below : List Frame} {meth : Method} {c : Code} {Q : State → Prop} {D : va_G} {cI cR cZ cJ : ClassId} {ad : Nat → Nat} {cells slots : Nat}
set_option maxHeartbeats 2000000 in
set_option maxRecDepth 100000 in
theorem lc_sum (C : zC p s m args meth c cL_law RL wsL_law D zcl (lty cI cR cZ cJ) 65 ad 8) (hl : l.stackTraces = false) (hT : lT ad s.heap.size s) {b L : Nat} {xs : Nat → Int32} (hX : va_X b L xs s s.heap) (hbl : b < s.heap.size) (hbA : ¬ zA 65 ad s.heap.size b) (hL : L ≤ 2560) {n fc md i : Nat} (hn : 200000 ≤ n) {st rt : zS} {o : Nat → Int64} (Rl : Rel st rt fc md) (hmd : md + 256 ≤ 131072) (hi : i + 5 ≤ L) (hc : cells + 8 ≤ 601024) (hs : slots + 48 ≤ 7293034)
    (kk : ∀ (st' rt' : zS) (o' : Nat → Int64) (fc' md' : Nat), Rel st' rt' fc' md' → md' ≤ md + 256 → zJ p l e room_1 s m args below meth c Q D zcl 65 ad 8 (lce cI cR cZ cJ ad st' rt' o') (cells + 8) (slots + 48) 1241 [(4, .int (nI i)), (0, .ref b), (1, .ref (ad 0)), (2, .ref (ad 57)), (3, .ref (ad 64))] []) : zJ p l e room_1 s m args below meth c Q D zcl 65 ad 8 (lce cI cR cZ cJ ad st rt o) cells slots 798 [(4, .int (nI i)), (0, .ref b), (1, .ref (ad 0)), (2, .ref (ad 57)), (3, .ref (ad 64))] [] := by
  have ok : Ok (fX2_sum n (xs (i + 1)) (xs (i + 2)) (xs (i + 3)) st) (fX3_sum n (xs (i + 1)) (xs (i + 2)) (xs (i + 3)) rt) md := ok_sum Rl hn
  refine j_aload_n C dL_law_798 rfl 2 rfl ?_
  refine l_arg C hX hbl hbA hL (i := i) (k := 1) (by omega) 1 0 rfl rfl dL_law_799 dL_law_800 dL_law_802 (by decide) dL_law_803 dL_law_804 ?_
  refine l_arg C hX hbl hbA hL (i := i) (k := 2) (by omega) 1 0 rfl rfl dL_law_805 dL_law_806 dL_law_808 (by decide) dL_law_809 dL_law_810 ?_
  refine l_arg C hX hbl hbA hL (i := i) (k := 3) (by omega) 1 0 rfl rfl dL_law_811 dL_law_812 dL_law_814 (by decide) dL_law_815 dL_law_816 ?_
  refine j_aload_n C dL_law_817 rfl 4 rfl ?_
  refine l_callH C hT (As := [.ref (ad 0), .int (xs (i + 1)), .int (xs (i + 2)), .int (xs (i + 3)), .ref (ad 64)]) (rest := []) (fun sz => hL_sum hl n (xs (i + 1)) (xs (i + 2)) (xs (i + 3)) st rt o ok.ne.1 sz) (vx_cwSW 5 C.1.2.2.2.2 gL_law_L_sum rfl rfl rfl (by decide +kernel) ⟨(Nat.le_of_ble_eq_true rfl), (Nat.le_of_ble_eq_true rfl)⟩) rfl rfl (Nat.le_of_ble_eq_true rfl) dL_law_818 ⟨by show cells + 2 ≤ 601024; omega, by show slots + 12 ≤ 7293034; omega⟩ (fun k u o' hH => ?_)
  refine j_istore (lv' := [(5, .int k), (4, .int (nI i)), (0, .ref b), (1, .ref (ad 0)), (2, .ref (ad 57)), (3, .ref (ad 64))]) C dL_law_821 (by decide) rfl ?_
  refine j_aload_n C dL_law_823 rfl 4 rfl ?_
  refine l_arg C hX hbl hbA hL (i := i) (k := 1) (by omega) 2 1 rfl rfl dL_law_824 dL_law_825 dL_law_827 (by decide) dL_law_828 dL_law_829 ?_
  refine l_arg C hX hbl hbA hL (i := i) (k := 2) (by omega) 2 1 rfl rfl dL_law_830 dL_law_831 dL_law_833 (by decide) dL_law_834 dL_law_835 ?_
  refine l_arg C hX hbl hbA hL (i := i) (k := 3) (by omega) 2 1 rfl rfl dL_law_836 dL_law_837 dL_law_839 (by decide) dL_law_840 dL_law_841 ?_
  refine l_callM C (As := [.int (xs (i + 1)), .int (xs (i + 2)), .int (xs (i + 3))]) (rest := []) (kX3_sum hl n (xs (i + 1)) (xs (i + 2)) (xs (i + 3)) rt ok.ne.2.1) (cwV 3 C.1.2.2.2.2 gL_law_X3_sum rfl rfl rfl (by decide +kernel) ⟨(Nat.le_of_ble_eq_true rfl), (Nat.le_of_ble_eq_true rfl)⟩) rfl rfl (Nat.le_of_ble_eq_true rfl) dL_law_842 ⟨by show cells + 2 + 0 ≤ 601024; omega, by show slots + 12 + 0 ≤ 7293034; omega⟩ ok.ne.2.2 (fun r w hG => ?_)
  obtain ⟨⟨fc', md', R', hmd'⟩, h0, ho⟩ := ok.hr hH hG
  refine j_lstore (x := r) (rest := []) (lv' := [(6, .long r), (5, .int k), (4, .int (nI i)), (0, .ref b), (1, .ref (ad 0)), (2, .ref (ad 57)), (3, .ref (ad 64))]) C dL_law_845 (by decide) rfl ?_
  refine j_aload_n (rest := []) C dL_law_847 rfl 5 rfl ?_
  refine l_callM C (As := []) (rest := []) (kX3_thrown hl n w (fun z => by cases z)) (cwV 0 C.1.2.2.2.2 gL_law_X3_thrown rfl rfl rfl (by decide +kernel) ⟨(Nat.le_of_ble_eq_true rfl), (Nat.le_of_ble_eq_true rfl)⟩) rfl rfl (Nat.le_of_ble_eq_true rfl) dL_law_848 ⟨by show cells + 2 + 0 + 0 ≤ 601024; omega, by show slots + 12 + 0 + 0 ≤ 7293034; omega⟩ (fun _ _ z => by cases z) (fun r9 w9 hG9 => ?_)
  have hG8 : (some (.inl (w 0 0), w) : zF Int32) = some (.inl r9, w9) := hG9
  injection hG8 with hG8
  injection hG8 with e1 e2
  injection e1 with e1
  subst e1; subst e2
  refine j_iload (rest := [.int (w 0 0)]) C dL_law_851 1 rfl ?_
  refine j_icmp_eq (tgt := 858) C dL_law_853 (by decide) (fun _ => ?_) (fun z => absurd h0 z)
  refine j_iload (rest := []) C dL_law_858 1 rfl ?_
  refine j_if_ne (tgt := 874) C dL_law_860 (by decide) (fun _ => ?_) (fun hk => ?_)
  · skip
    refine j_goto (tgt := 1241) C dL_law_874 (by decide) ?_
    refine j_sub [2, 3, 4, 5, 6] rfl ?_
    refine j_widen (k := cells + 8) (n := slots + 48) (by omega) (by omega) ?_
    exact kk u w o' fc' md' R' hmd'
  · refine j_aload_n (rest := []) C dL_law_863 rfl 6 rfl ?_
    refine j_iconst (v := 0) C dL_law_864 (by decide) ?_
    refine j_lald (rest := []) (i := 0) C 64 3 (by decide) lce_o rfl vp01 dL_law_865 ?_
    refine j_lload C dL_law_866 0 rfl ?_
    refine j_lcmp C dL_law_868 ?_
    have hv : o' (0 : Int32).toNatClampNeg = r := by
      show o' 0 = r
      rw [ho hk]
      exact updL_at
    refine j_if_eq (tgt := 874) C dL_law_869 (by decide) (fun _ => ?_) (fun z => absurd (lcmp0 hv) z)
    refine j_goto (tgt := 1241) C dL_law_874 (by decide) ?_
    refine j_sub [2, 3, 4, 5, 6] rfl ?_
    refine j_widen (k := cells + 8) (n := slots + 48) (by omega) (by omega) ?_
    exact kk u w o' fc' md' R' hmd'
set_option maxHeartbeats 2000000 in
set_option maxRecDepth 100000 in
theorem lc_bound (C : zC p s m args meth c cL_law RL wsL_law D zcl (lty cI cR cZ cJ) 65 ad 8) (hl : l.stackTraces = false) (hT : lT ad s.heap.size s) {b L : Nat} {xs : Nat → Int32} (hX : va_X b L xs s s.heap) (hbl : b < s.heap.size) (hbA : ¬ zA 65 ad s.heap.size b) (hL : L ≤ 2560) {n fc md i : Nat} (hn : 200000 ≤ n) {st rt : zS} {o : Nat → Int64} (Rl : Rel st rt fc md) (hmd : md + 256 ≤ 131072) (hi : i + 5 ≤ L) (hc : cells + 8 ≤ 601024) (hs : slots + 48 ≤ 7293034)
    (kk : ∀ (st' rt' : zS) (o' : Nat → Int64) (fc' md' : Nat), Rel st' rt' fc' md' → md' ≤ md + 256 → zJ p l e room_1 s m args below meth c Q D zcl 65 ad 8 (lce cI cR cZ cJ ad st' rt' o') (cells + 8) (slots + 48) 1241 [(4, .int (nI i)), (0, .ref b), (1, .ref (ad 0)), (2, .ref (ad 57)), (3, .ref (ad 64))] []) : zJ p l e room_1 s m args below meth c Q D zcl 65 ad 8 (lce cI cR cZ cJ ad st rt o) cells slots 877 [(4, .int (nI i)), (0, .ref b), (1, .ref (ad 0)), (2, .ref (ad 57)), (3, .ref (ad 64))] [] := by
  have ok : Ok (fX2_bound n (xs (i + 1)) (xs (i + 2)) (xs (i + 3)) (xs (i + 4)) st) (fX3_bound n (xs (i + 1)) (xs (i + 2)) (xs (i + 3)) (xs (i + 4)) rt) md := ok_bound Rl hn
  refine j_aload_n C dL_law_877 rfl 2 rfl ?_
  refine l_arg C hX hbl hbA hL (i := i) (k := 1) (by omega) 1 0 rfl rfl dL_law_878 dL_law_879 dL_law_881 (by decide) dL_law_882 dL_law_883 ?_
  refine l_arg C hX hbl hbA hL (i := i) (k := 2) (by omega) 1 0 rfl rfl dL_law_884 dL_law_885 dL_law_887 (by decide) dL_law_888 dL_law_889 ?_
  refine l_arg C hX hbl hbA hL (i := i) (k := 3) (by omega) 1 0 rfl rfl dL_law_890 dL_law_891 dL_law_893 (by decide) dL_law_894 dL_law_895 ?_
  refine l_arg C hX hbl hbA hL (i := i) (k := 4) (by omega) 1 0 rfl rfl dL_law_896 dL_law_897 dL_law_899 (by decide) dL_law_900 dL_law_901 ?_
  refine j_aload_n C dL_law_902 rfl 4 rfl ?_
  refine l_callH C hT (As := [.ref (ad 0), .int (xs (i + 1)), .int (xs (i + 2)), .int (xs (i + 3)), .int (xs (i + 4)), .ref (ad 64)]) (rest := []) (fun sz => hL_bound hl n (xs (i + 1)) (xs (i + 2)) (xs (i + 3)) (xs (i + 4)) st rt o ok.ne.1 sz) (vx_cwSW 6 C.1.2.2.2.2 gL_law_L_bound rfl rfl rfl (by decide +kernel) ⟨(Nat.le_of_ble_eq_true rfl), (Nat.le_of_ble_eq_true rfl)⟩) rfl rfl (Nat.le_of_ble_eq_true rfl) dL_law_903 ⟨by show cells + 3 ≤ 601024; omega, by show slots + 18 ≤ 7293034; omega⟩ (fun k u o' hH => ?_)
  refine j_istore (lv' := [(5, .int k), (4, .int (nI i)), (0, .ref b), (1, .ref (ad 0)), (2, .ref (ad 57)), (3, .ref (ad 64))]) C dL_law_906 (by decide) rfl ?_
  refine j_aload_n C dL_law_908 rfl 4 rfl ?_
  refine l_arg C hX hbl hbA hL (i := i) (k := 1) (by omega) 2 1 rfl rfl dL_law_909 dL_law_910 dL_law_912 (by decide) dL_law_913 dL_law_914 ?_
  refine l_arg C hX hbl hbA hL (i := i) (k := 2) (by omega) 2 1 rfl rfl dL_law_915 dL_law_916 dL_law_918 (by decide) dL_law_919 dL_law_920 ?_
  refine l_arg C hX hbl hbA hL (i := i) (k := 3) (by omega) 2 1 rfl rfl dL_law_921 dL_law_922 dL_law_924 (by decide) dL_law_925 dL_law_926 ?_
  refine l_arg C hX hbl hbA hL (i := i) (k := 4) (by omega) 2 1 rfl rfl dL_law_927 dL_law_928 dL_law_930 (by decide) dL_law_931 dL_law_932 ?_
  refine l_callM C (As := [.int (xs (i + 1)), .int (xs (i + 2)), .int (xs (i + 3)), .int (xs (i + 4))]) (rest := []) (kX3_bound hl n (xs (i + 1)) (xs (i + 2)) (xs (i + 3)) (xs (i + 4)) rt ok.ne.2.1) (cwV 4 C.1.2.2.2.2 gL_law_X3_bound rfl rfl rfl (by decide +kernel) ⟨(Nat.le_of_ble_eq_true rfl), (Nat.le_of_ble_eq_true rfl)⟩) rfl rfl (Nat.le_of_ble_eq_true rfl) dL_law_933 ⟨by show cells + 3 + 0 ≤ 601024; omega, by show slots + 18 + 0 ≤ 7293034; omega⟩ ok.ne.2.2 (fun r w hG => ?_)
  obtain ⟨⟨fc', md', R', hmd'⟩, h0, ho⟩ := ok.hr hH hG
  refine j_istore (x := r) (rest := []) (lv' := [(6, .int r), (5, .int k), (4, .int (nI i)), (0, .ref b), (1, .ref (ad 0)), (2, .ref (ad 57)), (3, .ref (ad 64))]) C dL_law_936 (by decide) rfl ?_
  refine j_aload_n (rest := []) C dL_law_938 rfl 5 rfl ?_
  refine l_callM C (As := []) (rest := []) (kX3_thrown hl n w (fun z => by cases z)) (cwV 0 C.1.2.2.2.2 gL_law_X3_thrown rfl rfl rfl (by decide +kernel) ⟨(Nat.le_of_ble_eq_true rfl), (Nat.le_of_ble_eq_true rfl)⟩) rfl rfl (Nat.le_of_ble_eq_true rfl) dL_law_939 ⟨by show cells + 3 + 0 + 0 ≤ 601024; omega, by show slots + 18 + 0 + 0 ≤ 7293034; omega⟩ (fun _ _ z => by cases z) (fun r9 w9 hG9 => ?_)
  have hG8 : (some (.inl (w 0 0), w) : zF Int32) = some (.inl r9, w9) := hG9
  injection hG8 with hG8
  injection hG8 with e1 e2
  injection e1 with e1
  subst e1; subst e2
  refine j_iload (rest := [.int (w 0 0)]) C dL_law_942 1 rfl ?_
  refine j_icmp_eq (tgt := 949) C dL_law_944 (by decide) (fun _ => ?_) (fun z => absurd h0 z)
  refine j_iload (rest := []) C dL_law_949 1 rfl ?_
  refine j_if_ne (tgt := 966) C dL_law_951 (by decide) (fun _ => ?_) (fun hk => ?_)
  · skip
    refine j_goto (tgt := 1241) C dL_law_966 (by decide) ?_
    refine j_sub [2, 3, 4, 5, 6] rfl ?_
    refine j_widen (k := cells + 8) (n := slots + 48) (by omega) (by omega) ?_
    exact kk u w o' fc' md' R' hmd'
  · refine j_aload_n (rest := []) C dL_law_954 rfl 6 rfl ?_
    refine j_iconst (v := 0) C dL_law_955 (by decide) ?_
    refine j_lald (rest := []) (i := 0) C 64 3 (by decide) lce_o rfl vp01 dL_law_956 ?_
    refine j_iload C dL_law_957 0 rfl ?_
    refine j_i2l C dL_law_959 ?_
    refine j_lcmp C dL_law_960 ?_
    have hv : o' (0 : Int32).toNatClampNeg = r.toInt64 := by
      show o' 0 = r.toInt64
      rw [ho hk]
      exact updL_at
    refine j_if_eq (tgt := 966) C dL_law_961 (by decide) (fun _ => ?_) (fun z => absurd (lcmp0 hv) z)
    refine j_goto (tgt := 1241) C dL_law_966 (by decide) ?_
    refine j_sub [2, 3, 4, 5, 6] rfl ?_
    refine j_widen (k := cells + 8) (n := slots + 48) (by omega) (by omega) ?_
    exact kk u w o' fc' md' R' hmd'
set_option maxHeartbeats 2000000 in
set_option maxRecDepth 100000 in
theorem lc_find (C : zC p s m args meth c cL_law RL wsL_law D zcl (lty cI cR cZ cJ) 65 ad 8) (hl : l.stackTraces = false) (hT : lT ad s.heap.size s) {b L : Nat} {xs : Nat → Int32} (hX : va_X b L xs s s.heap) (hbl : b < s.heap.size) (hbA : ¬ zA 65 ad s.heap.size b) (hL : L ≤ 2560) {n fc md i : Nat} (hn : 200000 ≤ n) {st rt : zS} {o : Nat → Int64} (Rl : Rel st rt fc md) (hmd : md + 256 ≤ 131072) (hi : i + 5 ≤ L) (hc : cells + 8 ≤ 601024) (hs : slots + 48 ≤ 7293034)
    (kk : ∀ (st' rt' : zS) (o' : Nat → Int64) (fc' md' : Nat), Rel st' rt' fc' md' → md' ≤ md + 256 → zJ p l e room_1 s m args below meth c Q D zcl 65 ad 8 (lce cI cR cZ cJ ad st' rt' o') (cells + 8) (slots + 48) 1241 [(4, .int (nI i)), (0, .ref b), (1, .ref (ad 0)), (2, .ref (ad 57)), (3, .ref (ad 64))] []) : zJ p l e room_1 s m args below meth c Q D zcl 65 ad 8 (lce cI cR cZ cJ ad st rt o) cells slots 969 [(4, .int (nI i)), (0, .ref b), (1, .ref (ad 0)), (2, .ref (ad 57)), (3, .ref (ad 64))] [] := by
  have ok : Ok (fX2_find n (xs (i + 1)) (xs (i + 2)) (xs (i + 3)) st) (fX3_find n (xs (i + 1)) (xs (i + 2)) (xs (i + 3)) rt) md := ok_find Rl hn
  refine j_aload_n C dL_law_969 rfl 2 rfl ?_
  refine l_arg C hX hbl hbA hL (i := i) (k := 1) (by omega) 1 0 rfl rfl dL_law_970 dL_law_971 dL_law_973 (by decide) dL_law_974 dL_law_975 ?_
  refine l_arg C hX hbl hbA hL (i := i) (k := 2) (by omega) 1 0 rfl rfl dL_law_976 dL_law_977 dL_law_979 (by decide) dL_law_980 dL_law_981 ?_
  refine l_arg C hX hbl hbA hL (i := i) (k := 3) (by omega) 1 0 rfl rfl dL_law_982 dL_law_983 dL_law_985 (by decide) dL_law_986 dL_law_987 ?_
  refine j_aload_n C dL_law_988 rfl 4 rfl ?_
  refine l_callH C hT (As := [.ref (ad 0), .int (xs (i + 1)), .int (xs (i + 2)), .int (xs (i + 3)), .ref (ad 64)]) (rest := []) (fun sz => hL_find hl n (xs (i + 1)) (xs (i + 2)) (xs (i + 3)) st rt o ok.ne.1 sz) (vx_cwSW 5 C.1.2.2.2.2 gL_law_L_find rfl rfl rfl (by decide +kernel) ⟨(Nat.le_of_ble_eq_true rfl), (Nat.le_of_ble_eq_true rfl)⟩) rfl rfl (Nat.le_of_ble_eq_true rfl) dL_law_989 ⟨by show cells + 2 ≤ 601024; omega, by show slots + 12 ≤ 7293034; omega⟩ (fun k u o' hH => ?_)
  refine j_istore (lv' := [(5, .int k), (4, .int (nI i)), (0, .ref b), (1, .ref (ad 0)), (2, .ref (ad 57)), (3, .ref (ad 64))]) C dL_law_992 (by decide) rfl ?_
  refine j_aload_n C dL_law_994 rfl 4 rfl ?_
  refine l_arg C hX hbl hbA hL (i := i) (k := 1) (by omega) 2 1 rfl rfl dL_law_995 dL_law_996 dL_law_998 (by decide) dL_law_999 dL_law_1000 ?_
  refine l_arg C hX hbl hbA hL (i := i) (k := 2) (by omega) 2 1 rfl rfl dL_law_1001 dL_law_1002 dL_law_1004 (by decide) dL_law_1005 dL_law_1006 ?_
  refine l_arg C hX hbl hbA hL (i := i) (k := 3) (by omega) 2 1 rfl rfl dL_law_1007 dL_law_1008 dL_law_1010 (by decide) dL_law_1011 dL_law_1012 ?_
  refine l_callM C (As := [.int (xs (i + 1)), .int (xs (i + 2)), .int (xs (i + 3))]) (rest := []) (kX3_find hl n (xs (i + 1)) (xs (i + 2)) (xs (i + 3)) rt ok.ne.2.1) (cwV 3 C.1.2.2.2.2 gL_law_X3_find rfl rfl rfl (by decide +kernel) ⟨(Nat.le_of_ble_eq_true rfl), (Nat.le_of_ble_eq_true rfl)⟩) rfl rfl (Nat.le_of_ble_eq_true rfl) dL_law_1013 ⟨by show cells + 2 + 0 ≤ 601024; omega, by show slots + 12 + 0 ≤ 7293034; omega⟩ ok.ne.2.2 (fun r w hG => ?_)
  obtain ⟨⟨fc', md', R', hmd'⟩, h0, ho⟩ := ok.hr hH hG
  refine j_istore (x := r) (rest := []) (lv' := [(6, .int r), (5, .int k), (4, .int (nI i)), (0, .ref b), (1, .ref (ad 0)), (2, .ref (ad 57)), (3, .ref (ad 64))]) C dL_law_1016 (by decide) rfl ?_
  refine j_aload_n (rest := []) C dL_law_1018 rfl 5 rfl ?_
  refine l_callM C (As := []) (rest := []) (kX3_thrown hl n w (fun z => by cases z)) (cwV 0 C.1.2.2.2.2 gL_law_X3_thrown rfl rfl rfl (by decide +kernel) ⟨(Nat.le_of_ble_eq_true rfl), (Nat.le_of_ble_eq_true rfl)⟩) rfl rfl (Nat.le_of_ble_eq_true rfl) dL_law_1019 ⟨by show cells + 2 + 0 + 0 ≤ 601024; omega, by show slots + 12 + 0 + 0 ≤ 7293034; omega⟩ (fun _ _ z => by cases z) (fun r9 w9 hG9 => ?_)
  have hG8 : (some (.inl (w 0 0), w) : zF Int32) = some (.inl r9, w9) := hG9
  injection hG8 with hG8
  injection hG8 with e1 e2
  injection e1 with e1
  subst e1; subst e2
  refine j_iload (rest := [.int (w 0 0)]) C dL_law_1022 1 rfl ?_
  refine j_icmp_eq (tgt := 1029) C dL_law_1024 (by decide) (fun _ => ?_) (fun z => absurd h0 z)
  refine j_iload (rest := []) C dL_law_1029 1 rfl ?_
  refine j_if_ne (tgt := 1046) C dL_law_1031 (by decide) (fun _ => ?_) (fun hk => ?_)
  · skip
    refine j_goto (tgt := 1241) C dL_law_1046 (by decide) ?_
    refine j_sub [2, 3, 4, 5, 6] rfl ?_
    refine j_widen (k := cells + 8) (n := slots + 48) (by omega) (by omega) ?_
    exact kk u w o' fc' md' R' hmd'
  · refine j_aload_n (rest := []) C dL_law_1034 rfl 6 rfl ?_
    refine j_iconst (v := 0) C dL_law_1035 (by decide) ?_
    refine j_lald (rest := []) (i := 0) C 64 3 (by decide) lce_o rfl vp01 dL_law_1036 ?_
    refine j_iload C dL_law_1037 0 rfl ?_
    refine j_i2l C dL_law_1039 ?_
    refine j_lcmp C dL_law_1040 ?_
    have hv : o' (0 : Int32).toNatClampNeg = r.toInt64 := by
      show o' 0 = r.toInt64
      rw [ho hk]
      exact updL_at
    refine j_if_eq (tgt := 1046) C dL_law_1041 (by decide) (fun _ => ?_) (fun z => absurd (lcmp0 hv) z)
    refine j_goto (tgt := 1241) C dL_law_1046 (by decide) ?_
    refine j_sub [2, 3, 4, 5, 6] rfl ?_
    refine j_widen (k := cells + 8) (n := slots + 48) (by omega) (by omega) ?_
    exact kk u w o' fc' md' R' hmd'
set_option maxHeartbeats 2000000 in
set_option maxRecDepth 100000 in
theorem lc_difference (C : zC p s m args meth c cL_law RL wsL_law D zcl (lty cI cR cZ cJ) 65 ad 8) (hl : l.stackTraces = false) (hT : lT ad s.heap.size s) {b L : Nat} {xs : Nat → Int32} (hX : va_X b L xs s s.heap) (hbl : b < s.heap.size) (hbA : ¬ zA 65 ad s.heap.size b) (hL : L ≤ 2560) {n fc md i : Nat} (hn : 200000 ≤ n) {st rt : zS} {o : Nat → Int64} (Rl : Rel st rt fc md) (hmd : md + 256 ≤ 131072) (hi : i + 5 ≤ L) (hc : cells + 8 ≤ 601024) (hs : slots + 48 ≤ 7293034)
    (kk : ∀ (st' rt' : zS) (o' : Nat → Int64) (fc' md' : Nat), Rel st' rt' fc' md' → md' ≤ md + 256 → zJ p l e room_1 s m args below meth c Q D zcl 65 ad 8 (lce cI cR cZ cJ ad st' rt' o') (cells + 8) (slots + 48) 1241 [(4, .int (nI i)), (0, .ref b), (1, .ref (ad 0)), (2, .ref (ad 57)), (3, .ref (ad 64))] []) : zJ p l e room_1 s m args below meth c Q D zcl 65 ad 8 (lce cI cR cZ cJ ad st rt o) cells slots 1049 [(4, .int (nI i)), (0, .ref b), (1, .ref (ad 0)), (2, .ref (ad 57)), (3, .ref (ad 64))] [] := by
  have ok : Ok (fX2_difference n (xs (i + 1)) (xs (i + 2)) st) (fX3_difference n (xs (i + 1)) (xs (i + 2)) rt) md := ok_difference Rl hn
  refine j_aload_n C dL_law_1049 rfl 2 rfl ?_
  refine l_arg C hX hbl hbA hL (i := i) (k := 1) (by omega) 1 0 rfl rfl dL_law_1050 dL_law_1051 dL_law_1053 (by decide) dL_law_1054 dL_law_1055 ?_
  refine l_arg C hX hbl hbA hL (i := i) (k := 2) (by omega) 1 0 rfl rfl dL_law_1056 dL_law_1057 dL_law_1059 (by decide) dL_law_1060 dL_law_1061 ?_
  refine j_aload_n C dL_law_1062 rfl 4 rfl ?_
  refine l_callH C hT (As := [.ref (ad 0), .int (xs (i + 1)), .int (xs (i + 2)), .ref (ad 64)]) (rest := []) (fun sz => hL_difference hl n (xs (i + 1)) (xs (i + 2)) st rt o ok.ne.1 sz) (vx_cwSW 4 C.1.2.2.2.2 gL_law_L_difference rfl rfl rfl (by decide +kernel) ⟨(Nat.le_of_ble_eq_true rfl), (Nat.le_of_ble_eq_true rfl)⟩) rfl rfl (Nat.le_of_ble_eq_true rfl) dL_law_1063 ⟨by show cells + 2 ≤ 601024; omega, by show slots + 12 ≤ 7293034; omega⟩ (fun k u o' hH => ?_)
  refine j_istore (lv' := [(5, .int k), (4, .int (nI i)), (0, .ref b), (1, .ref (ad 0)), (2, .ref (ad 57)), (3, .ref (ad 64))]) C dL_law_1066 (by decide) rfl ?_
  refine j_aload_n C dL_law_1068 rfl 4 rfl ?_
  refine l_arg C hX hbl hbA hL (i := i) (k := 1) (by omega) 2 1 rfl rfl dL_law_1069 dL_law_1070 dL_law_1072 (by decide) dL_law_1073 dL_law_1074 ?_
  refine l_arg C hX hbl hbA hL (i := i) (k := 2) (by omega) 2 1 rfl rfl dL_law_1075 dL_law_1076 dL_law_1078 (by decide) dL_law_1079 dL_law_1080 ?_
  refine l_callM C (As := [.int (xs (i + 1)), .int (xs (i + 2))]) (rest := []) (kX3_difference hl n (xs (i + 1)) (xs (i + 2)) rt ok.ne.2.1) (cwV 2 C.1.2.2.2.2 gL_law_X3_difference rfl rfl rfl (by decide +kernel) ⟨(Nat.le_of_ble_eq_true rfl), (Nat.le_of_ble_eq_true rfl)⟩) rfl rfl (Nat.le_of_ble_eq_true rfl) dL_law_1081 ⟨by show cells + 2 + 0 ≤ 601024; omega, by show slots + 12 + 0 ≤ 7293034; omega⟩ ok.ne.2.2 (fun r w hG => ?_)
  obtain ⟨⟨fc', md', R', hmd'⟩, h0, ho⟩ := ok.hr hH hG
  refine j_istore (x := r) (rest := []) (lv' := [(6, .int r), (5, .int k), (4, .int (nI i)), (0, .ref b), (1, .ref (ad 0)), (2, .ref (ad 57)), (3, .ref (ad 64))]) C dL_law_1084 (by decide) rfl ?_
  refine j_aload_n (rest := []) C dL_law_1086 rfl 5 rfl ?_
  refine l_callM C (As := []) (rest := []) (kX3_thrown hl n w (fun z => by cases z)) (cwV 0 C.1.2.2.2.2 gL_law_X3_thrown rfl rfl rfl (by decide +kernel) ⟨(Nat.le_of_ble_eq_true rfl), (Nat.le_of_ble_eq_true rfl)⟩) rfl rfl (Nat.le_of_ble_eq_true rfl) dL_law_1087 ⟨by show cells + 2 + 0 + 0 ≤ 601024; omega, by show slots + 12 + 0 + 0 ≤ 7293034; omega⟩ (fun _ _ z => by cases z) (fun r9 w9 hG9 => ?_)
  have hG8 : (some (.inl (w 0 0), w) : zF Int32) = some (.inl r9, w9) := hG9
  injection hG8 with hG8
  injection hG8 with e1 e2
  injection e1 with e1
  subst e1; subst e2
  refine j_iload (rest := [.int (w 0 0)]) C dL_law_1090 1 rfl ?_
  refine j_icmp_eq (tgt := 1097) C dL_law_1092 (by decide) (fun _ => ?_) (fun z => absurd h0 z)
  refine j_iload (rest := []) C dL_law_1097 1 rfl ?_
  refine j_if_ne (tgt := 1114) C dL_law_1099 (by decide) (fun _ => ?_) (fun hk => ?_)
  · skip
    refine j_goto (tgt := 1241) C dL_law_1114 (by decide) ?_
    refine j_sub [2, 3, 4, 5, 6] rfl ?_
    refine j_widen (k := cells + 8) (n := slots + 48) (by omega) (by omega) ?_
    exact kk u w o' fc' md' R' hmd'
  · refine j_aload_n (rest := []) C dL_law_1102 rfl 6 rfl ?_
    refine j_iconst (v := 0) C dL_law_1103 (by decide) ?_
    refine j_lald (rest := []) (i := 0) C 64 3 (by decide) lce_o rfl vp01 dL_law_1104 ?_
    refine j_iload C dL_law_1105 0 rfl ?_
    refine j_i2l C dL_law_1107 ?_
    refine j_lcmp C dL_law_1108 ?_
    have hv : o' (0 : Int32).toNatClampNeg = r.toInt64 := by
      show o' 0 = r.toInt64
      rw [ho hk]
      exact updL_at
    refine j_if_eq (tgt := 1114) C dL_law_1109 (by decide) (fun _ => ?_) (fun z => absurd (lcmp0 hv) z)
    refine j_goto (tgt := 1241) C dL_law_1114 (by decide) ?_
    refine j_sub [2, 3, 4, 5, 6] rfl ?_
    refine j_widen (k := cells + 8) (n := slots + 48) (by omega) (by omega) ?_
    exact kk u w o' fc' md' R' hmd'
end
