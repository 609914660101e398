/-! the law's cases -/
section
variable {p : Program} {l : Launch} {e : Env} {s : State} {m : MethodId} {args : Array Value} {below : List Frame} {meth : Method} {c : Code} {Q : State → Prop} {D : va_G} {cI cR cZ cJ : ClassId} {ad : Nat → Nat} {cells slots : Nat}
set_option maxHeartbeats 2000000 in
set_option maxRecDepth 100000 in
theorem lc_used (C : zC p s m args meth c cL_law RL wsL_law D zcl (lty cI cR cZ cJ) 65 ad 8) (hl : l.stackTraces = false) (hT : lT ad s.heap.size s) {b L : Nat} {xs : Nat → Int32} (hX : va_X b L xs s s.heap) (hbl : b < s.heap.size) (hbA : ¬ zA 65 ad s.heap.size b) (hL : L ≤ 2560) {n fc md i : Nat} (hn : 200000 ≤ n) {st rt : zS} {o : Nat → Int64} (Rl : Rel st rt fc md) (hmd : md + 256 ≤ 131072) (hi : i + 5 ≤ L) (hc : cells + 8 ≤ 601024) (hs : slots + 48 ≤ 7293034)
    (kk : ∀ (st' rt' : zS) (o' : Nat → Int64) (fc' md' : Nat), Rel st' rt' fc' md' → md' ≤ md + 256 → zJ p l e room_1 s m args below meth c Q D zcl 65 ad 8 (lce cI cR cZ cJ ad st' rt' o') (cells + 8) (slots + 48) 1241 [(4, .int (nI i)), (0, .ref b), (1, .ref (ad 0)), (2, .ref (ad 57)), (3, .ref (ad 64))] []) : zJ p l e room_1 s m args below meth c Q D zcl 65 ad 8 (lce cI cR cZ cJ ad st rt o) cells slots 1117 [(4, .int (nI i)), (0, .ref b), (1, .ref (ad 0)), (2, .ref (ad 57)), (3, .ref (ad 64))] [] := by
  have ok : Ok (fX2_used n st) (fX3_used n rt) md := ok_used Rl hn
  refine j_aload_n C dL_law_1117 rfl 2 rfl ?_
  refine l_callC C hT (As := []) (rest := []) (kX2_used hl n  st ok.ne.1) (cwV 0 C.1.2.2.2.2 gL_law_X2_used rfl rfl rfl (by decide +kernel) ⟨(Nat.le_of_ble_eq_true rfl), (Nat.le_of_ble_eq_true rfl)⟩) rfl rfl (Nat.le_of_ble_eq_true rfl) dL_law_1118 ⟨by show cells + 0 ≤ 601024; omega, by show slots + 0 ≤ 7293034; omega⟩ (fun r u hF => ?_) (fun b9 u9 hF => absurd hF (NT_used b9 u9))
  refine j_aload_n (rest := [.int r]) C dL_law_1121 rfl 3 rfl ?_
  refine l_callM C (As := []) (rest := [.int r]) (kX3_used hl n  rt ok.ne.2.1) (cwV 0 C.1.2.2.2.2 gL_law_X3_used rfl rfl rfl (by decide +kernel) ⟨(Nat.le_of_ble_eq_true rfl), (Nat.le_of_ble_eq_true rfl)⟩) rfl rfl (Nat.le_of_ble_eq_true rfl) dL_law_1122 ⟨by show cells + 0 + 0 ≤ 601024; omega, by show slots + 0 + 0 ≤ 7293034; omega⟩ ok.ne.2.2 (fun r2 w hG => ?_)
  obtain ⟨⟨fc', md', R', hmd'⟩, hrr⟩ := ok.cc hF hG
  refine j_icmp_eq (x := r) (y := r2) (rest := []) (tgt := 1241) C dL_law_1125 (by decide) (fun _ => ?_) (fun z => absurd hrr z)
  refine j_widen (k := cells + 8) (n := slots + 48) (by omega) (by omega) ?_
  exact kk u w o fc' md' R' hmd'
set_option maxHeartbeats 2000000 in
set_option maxRecDepth 100000 in
theorem lc_made (C : zC p s m args meth c cL_law RL wsL_law D zcl (lty cI cR cZ cJ) 65 ad 8) (hl : l.stackTraces = false) (hT : lT ad s.heap.size s) {b L : Nat} {xs : Nat → Int32} (hX : va_X b L xs s s.heap) (hbl : b < s.heap.size) (hbA : ¬ zA 65 ad s.heap.size b) (hL : L ≤ 2560) {n fc md i : Nat} (hn : 200000 ≤ n) {st rt : zS} {o : Nat → Int64} (Rl : Rel st rt fc md) (hmd : md + 256 ≤ 131072) (hi : i + 5 ≤ L) (hc : cells + 8 ≤ 601024) (hs : slots + 48 ≤ 7293034)
    (kk : ∀ (st' rt' : zS) (o' : Nat → Int64) (fc' md' : Nat), Rel st' rt' fc' md' → md' ≤ md + 256 → zJ p l e room_1 s m args below meth c Q D zcl 65 ad 8 (lce cI cR cZ cJ ad st' rt' o') (cells + 8) (slots + 48) 1241 [(4, .int (nI i)), (0, .ref b), (1, .ref (ad 0)), (2, .ref (ad 57)), (3, .ref (ad 64))] []) : zJ p l e room_1 s m args below meth c Q D zcl 65 ad 8 (lce cI cR cZ cJ ad st rt o) cells slots 1130 [(4, .int (nI i)), (0, .ref b), (1, .ref (ad 0)), (2, .ref (ad 57)), (3, .ref (ad 64))] [] := by
  have ok : Ok (fX2_made n st) (fX3_made n rt) md := ok_made Rl
  refine j_aload_n C dL_law_1130 rfl 2 rfl ?_
  refine l_callC C hT (As := []) (rest := []) (kX2_made hl n  st ok.ne.1) (cwV 0 C.1.2.2.2.2 gL_law_X2_made rfl rfl rfl (by decide +kernel) ⟨(Nat.le_of_ble_eq_true rfl), (Nat.le_of_ble_eq_true rfl)⟩) rfl rfl (Nat.le_of_ble_eq_true rfl) dL_law_1131 ⟨by show cells + 0 ≤ 601024; omega, by show slots + 0 ≤ 7293034; omega⟩ (fun r u hF => ?_) (fun b9 u9 hF => absurd hF (NT_made b9 u9))
  refine j_aload_n (rest := [.int r]) C dL_law_1134 rfl 3 rfl ?_
  refine l_callM C (As := []) (rest := [.int r]) (kX3_made hl n  rt ok.ne.2.1) (cwV 0 C.1.2.2.2.2 gL_law_X3_made rfl rfl rfl (by decide +kernel) ⟨(Nat.le_of_ble_eq_true rfl), (Nat.le_of_ble_eq_true rfl)⟩) rfl rfl (Nat.le_of_ble_eq_true rfl) dL_law_1135 ⟨by show cells + 0 + 0 ≤ 601024; omega, by show slots + 0 + 0 ≤ 7293034; omega⟩ ok.ne.2.2 (fun r2 w hG => ?_)
  obtain ⟨⟨fc', md', R', hmd'⟩, hrr⟩ := ok.cc hF hG
  refine j_icmp_eq (x := r) (y := r2) (rest := []) (tgt := 1241) C dL_law_1138 (by decide) (fun _ => ?_) (fun z => absurd hrr z)
  refine j_widen (k := cells + 8) (n := slots + 48) (by omega) (by omega) ?_
  exact kk u w o fc' md' R' hmd'
set_option maxHeartbeats 2000000 in
set_option maxRecDepth 100000 in
theorem lc_leaf (C : zC p s m args meth c cL_law RL wsL_law D zcl (lty cI cR cZ cJ) 65 ad 8) (hl : l.stackTraces = false) (hT : lT ad s.heap.size s) {b L : Nat} {xs : Nat → Int32} (hX : va_X b L xs s s.heap) (hbl : b < s.heap.size) (hbA : ¬ zA 65 ad s.heap.size b) (hL : L ≤ 2560) {n fc md i : Nat} (hn : 200000 ≤ n) {st rt : zS} {o : Nat → Int64} (Rl : Rel st rt fc md) (hmd : md + 256 ≤ 131072) (hi : i + 5 ≤ L) (hc : cells + 8 ≤ 601024) (hs : slots + 48 ≤ 7293034)
    (kk : ∀ (st' rt' : zS) (o' : Nat → Int64) (fc' md' : Nat), Rel st' rt' fc' md' → md' ≤ md + 256 → zJ p l e room_1 s m args below meth c Q D zcl 65 ad 8 (lce cI cR cZ cJ ad st' rt' o') (cells + 8) (slots + 48) 1241 [(4, .int (nI i)), (0, .ref b), (1, .ref (ad 0)), (2, .ref (ad 57)), (3, .ref (ad 64))] []) : zJ p l e room_1 s m args below meth c Q D zcl 65 ad 8 (lce cI cR cZ cJ ad st rt o) cells slots 1143 [(4, .int (nI i)), (0, .ref b), (1, .ref (ad 0)), (2, .ref (ad 57)), (3, .ref (ad 64))] [] := by
  have ok : Ok (fX2_leaf n (xs (i + 1)) (xs (i + 2)) st) (fX3_leaf n (xs (i + 1)) (xs (i + 2)) rt) md := ok_leaf Rl hn
  refine j_aload_n C dL_law_1143 rfl 2 rfl ?_
  refine l_arg C hX hbl hbA hL (i := i) (k := 1) (by omega) 1 0 rfl rfl dL_law_1144 dL_law_1145 dL_law_1147 (by decide) dL_law_1148 dL_law_1149 ?_
  refine l_arg C hX hbl hbA hL (i := i) (k := 2) (by omega) 1 0 rfl rfl dL_law_1150 dL_law_1151 dL_law_1153 (by decide) dL_law_1154 dL_law_1155 ?_
  refine l_callC C hT (As := [.int (xs (i + 1)), .int (xs (i + 2))]) (rest := []) (kX2_leaf hl n (xs (i + 1)) (xs (i + 2)) st ok.ne.1) (cwV 2 C.1.2.2.2.2 gL_law_X2_leaf rfl rfl rfl (by decide +kernel) ⟨(Nat.le_of_ble_eq_true rfl), (Nat.le_of_ble_eq_true rfl)⟩) rfl rfl (Nat.le_of_ble_eq_true rfl) dL_law_1156 ⟨by show cells + 0 ≤ 601024; omega, by show slots + 0 ≤ 7293034; omega⟩ (fun r u hF => ?_) (fun b9 u9 hF => absurd hF (NT_leaf b9 u9))
  refine j_aload_n (rest := [.int r]) C dL_law_1159 rfl 3 rfl ?_
  refine l_arg C hX hbl hbA hL (i := i) (k := 1) (by omega) 1 0 rfl rfl dL_law_1160 dL_law_1161 dL_law_1163 (by decide) dL_law_1164 dL_law_1165 ?_
  refine l_arg C hX hbl hbA hL (i := i) (k := 2) (by omega) 1 0 rfl rfl dL_law_1166 dL_law_1167 dL_law_1169 (by decide) dL_law_1170 dL_law_1171 ?_
  refine l_callM C (As := [.int (xs (i + 1)), .int (xs (i + 2))]) (rest := [.int r]) (kX3_leaf hl n (xs (i + 1)) (xs (i + 2)) rt ok.ne.2.1) (cwV 2 C.1.2.2.2.2 gL_law_X3_leaf rfl rfl rfl (by decide +kernel) ⟨(Nat.le_of_ble_eq_true rfl), (Nat.le_of_ble_eq_true rfl)⟩) rfl rfl (Nat.le_of_ble_eq_true rfl) dL_law_1172 ⟨by show cells + 0 + 0 ≤ 601024; omega, by show slots + 0 + 0 ≤ 7293034; omega⟩ ok.ne.2.2 (fun r2 w hG => ?_)
  obtain ⟨⟨fc', md', R', hmd'⟩, hrr⟩ := ok.cc hF hG
  refine j_icmp_eq (x := r) (y := r2) (rest := []) (tgt := 1241) C dL_law_1175 (by decide) (fun _ => ?_) (fun z => absurd hrr z)
  refine j_widen (k := cells + 8) (n := slots + 48) (by omega) (by omega) ?_
  exact kk u w o fc' md' R' hmd'
set_option maxHeartbeats 2000000 in
set_option maxRecDepth 100000 in
theorem lc_alike (C : zC p s m args meth c cL_law RL wsL_law D zcl (lty cI cR cZ cJ) 65 ad 8) (hl : l.stackTraces = false) (hT : lT ad s.heap.size s) {b L : Nat} {xs : Nat → Int32} (hX : va_X b L xs s s.heap) (hbl : b < s.heap.size) (hbA : ¬ zA 65 ad s.heap.size b) (hL : L ≤ 2560) {n fc md i : Nat} (hn : 200000 ≤ n) {st rt : zS} {o : Nat → Int64} (Rl : Rel st rt fc md) (hmd : md + 256 ≤ 131072) (hi : i + 5 ≤ L) (hc : cells + 8 ≤ 601024) (hs : slots + 48 ≤ 7293034)
    (kk : ∀ (st' rt' : zS) (o' : Nat → Int64) (fc' md' : Nat), Rel st' rt' fc' md' → md' ≤ md + 256 → zJ p l e room_1 s m args below meth c Q D zcl 65 ad 8 (lce cI cR cZ cJ ad st' rt' o') (cells + 8) (slots + 48) 1241 [(4, .int (nI i)), (0, .ref b), (1, .ref (ad 0)), (2, .ref (ad 57)), (3, .ref (ad 64))] []) : zJ p l e room_1 s m args below meth c Q D zcl 65 ad 8 (lce cI cR cZ cJ ad st rt o) cells slots 1180 [(4, .int (nI i)), (0, .ref b), (1, .ref (ad 0)), (2, .ref (ad 57)), (3, .ref (ad 64))] [] := by
  have ok : Ok (fX2_alike n (xs (i + 1)) (xs (i + 2)) (xs (i + 3)) (xs (i + 4)) st) (fX3_alike n (xs (i + 1)) (xs (i + 2)) (xs (i + 3)) (xs (i + 4)) rt) md := ok_alike Rl
  refine j_aload_n C dL_law_1180 rfl 2 rfl ?_
  refine l_arg C hX hbl hbA hL (i := i) (k := 1) (by omega) 1 0 rfl rfl dL_law_1181 dL_law_1182 dL_law_1184 (by decide) dL_law_1185 dL_law_1186 ?_
  refine l_arg C hX hbl hbA hL (i := i) (k := 2) (by omega) 1 0 rfl rfl dL_law_1187 dL_law_1188 dL_law_1190 (by decide) dL_law_1191 dL_law_1192 ?_
  refine l_arg C hX hbl hbA hL (i := i) (k := 3) (by omega) 1 0 rfl rfl dL_law_1193 dL_law_1194 dL_law_1196 (by decide) dL_law_1197 dL_law_1198 ?_
  refine l_arg C hX hbl hbA hL (i := i) (k := 4) (by omega) 1 0 rfl rfl dL_law_1199 dL_law_1200 dL_law_1202 (by decide) dL_law_1203 dL_law_1204 ?_
  refine l_callC C hT (As := [.int (xs (i + 1)), .int (xs (i + 2)), .int (xs (i + 3)), .int (xs (i + 4))]) (rest := []) (kX2_alike hl n (xs (i + 1)) (xs (i + 2)) (xs (i + 3)) (xs (i + 4)) st ok.ne.1) (cwV 4 C.1.2.2.2.2 gL_law_X2_alike rfl rfl rfl (by decide +kernel) ⟨(Nat.le_of_ble_eq_true rfl), (Nat.le_of_ble_eq_true rfl)⟩) rfl rfl (Nat.le_of_ble_eq_true rfl) dL_law_1205 ⟨by show cells + 0 ≤ 601024; omega, by show slots + 0 ≤ 7293034; omega⟩ (fun r u hF => ?_) (fun b9 u9 hF => absurd hF (NT_alike b9 u9))
  refine j_aload_n (rest := [.int r]) C dL_law_1208 rfl 3 rfl ?_
  refine l_arg C hX hbl hbA hL (i := i) (k := 1) (by omega) 1 0 rfl rfl dL_law_1209 dL_law_1210 dL_law_1212 (by decide) dL_law_1213 dL_law_1214 ?_
  refine l_arg C hX hbl hbA hL (i := i) (k := 2) (by omega) 1 0 rfl rfl dL_law_1215 dL_law_1216 dL_law_1218 (by decide) dL_law_1219 dL_law_1220 ?_
  refine l_arg C hX hbl hbA hL (i := i) (k := 3) (by omega) 1 0 rfl rfl dL_law_1221 dL_law_1222 dL_law_1224 (by decide) dL_law_1225 dL_law_1226 ?_
  refine l_arg C hX hbl hbA hL (i := i) (k := 4) (by omega) 1 0 rfl rfl dL_law_1227 dL_law_1228 dL_law_1230 (by decide) dL_law_1231 dL_law_1232 ?_
  refine l_callM C (As := [.int (xs (i + 1)), .int (xs (i + 2)), .int (xs (i + 3)), .int (xs (i + 4))]) (rest := [.int r]) (kX3_alike hl n (xs (i + 1)) (xs (i + 2)) (xs (i + 3)) (xs (i + 4)) rt ok.ne.2.1) (cwV 4 C.1.2.2.2.2 gL_law_X3_alike rfl rfl rfl (by decide +kernel) ⟨(Nat.le_of_ble_eq_true rfl), (Nat.le_of_ble_eq_true rfl)⟩) rfl rfl (Nat.le_of_ble_eq_true rfl) dL_law_1233 ⟨by show cells + 0 + 0 ≤ 601024; omega, by show slots + 0 + 0 ≤ 7293034; omega⟩ ok.ne.2.2 (fun r2 w hG => ?_)
  obtain ⟨⟨fc', md', R', hmd'⟩, hrr⟩ := ok.cc hF hG
  refine j_icmp_eq (x := r) (y := r2) (rest := []) (tgt := 1241) C dL_law_1236 (by decide) (fun _ => ?_) (fun z => absurd hrr z)
  refine j_widen (k := cells + 8) (n := slots + 48) (by omega) (by omega) ?_
  exact kk u w o fc' md' R' hmd'
end
