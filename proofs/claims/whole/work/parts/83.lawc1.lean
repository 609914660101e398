/-! the law's cases -/
section
variable {p : Program} {l : Launch} {e : Env} {s : State} {m : MethodId} {args : Array Value} {below : List Frame} {meth : Method} {c : Code} {Q : State → Prop} {D : va_G} {cI cR cZ cJ : ClassId} {ad : Nat → Nat} {cells slots : Nat}
set_option maxHeartbeats 2000000 in
set_option maxRecDepth 100000 in
theorem lc_make (C : zC p s m args meth c cL_law RL wsL_law D zcl (lty cI cR cZ cJ) 65 ad 8) (hl : l.stackTraces = false) (hT : lT ad s.heap.size s) {b L : Nat} {xs : Nat → Int32} (hX : va_X b L xs s s.heap) (hbl : b < s.heap.size) (hbA : ¬ zA 65 ad s.heap.size b) (hL : L ≤ 2560) {n fc md i : Nat} (hn : 200000 ≤ n) {st rt : zS} {o : Nat → Int64} (Rl : Rel st rt fc md) (hmd : md + 256 ≤ 131072) (hi : i + 5 ≤ L) (hc : cells + 8 ≤ 601024) (hs : slots + 48 ≤ 7293034)
    (kk : ∀ (st' rt' : zS) (o' : Nat → Int64) (fc' md' : Nat), Rel st' rt' fc' md' → md' ≤ md + 256 → zJ p l e room_1 s m args below meth c Q D zcl 65 ad 8 (lce cI cR cZ cJ ad st' rt' o') (cells + 8) (slots + 48) 1241 [(4, .int (nI i)), (0, .ref b), (1, .ref (ad 0)), (2, .ref (ad 57)), (3, .ref (ad 64))] []) : zJ p l e room_1 s m args below meth c Q D zcl 65 ad 8 (lce cI cR cZ cJ ad st rt o) cells slots 132 [(4, .int (nI i)), (0, .ref b), (1, .ref (ad 0)), (2, .ref (ad 57)), (3, .ref (ad 64))] [] := by
  have ok : Ok (fX2_make n (xs (i + 1)) (xs (i + 2)) st) (fX3_make n (xs (i + 1)) (xs (i + 2)) rt) md := ok_make Rl hn hmd
  refine j_aload_n C dL_law_132 rfl 2 rfl ?_
  refine l_arg C hX hbl hbA hL (i := i) (k := 1) (by omega) 1 0 rfl rfl dL_law_133 dL_law_134 dL_law_136 (by decide) dL_law_137 dL_law_138 ?_
  refine l_arg C hX hbl hbA hL (i := i) (k := 2) (by omega) 1 0 rfl rfl dL_law_139 dL_law_140 dL_law_142 (by decide) dL_law_143 dL_law_144 ?_
  refine j_aload_n C dL_law_145 rfl 4 rfl ?_
  refine l_callH C hT (As := [.ref (ad 0), .int (xs (i + 1)), .int (xs (i + 2)), .ref (ad 64)]) (rest := []) (fun sz => hL_make hl n (xs (i + 1)) (xs (i + 2)) st rt o ok.ne.1 sz) (vx_cwSW 4 C.1.2.2.2.2 gL_law_L_make rfl rfl rfl (by decide +kernel) ⟨(Nat.le_of_ble_eq_true rfl), (Nat.le_of_ble_eq_true rfl)⟩) rfl rfl (Nat.le_of_ble_eq_true rfl) dL_law_146 ⟨by show cells + 1 ≤ 601024; omega, by show slots + 6 ≤ 7293034; omega⟩ (fun k u o' hH => ?_)
  refine j_istore (lv' := [(5, .int k), (4, .int (nI i)), (0, .ref b), (1, .ref (ad 0)), (2, .ref (ad 57)), (3, .ref (ad 64))]) C dL_law_149 (by decide) rfl ?_
  refine j_aload_n C dL_law_151 rfl 4 rfl ?_
  refine l_arg C hX hbl hbA hL (i := i) (k := 1) (by omega) 2 1 rfl rfl dL_law_152 dL_law_153 dL_law_155 (by decide) dL_law_156 dL_law_157 ?_
  refine l_arg C hX hbl hbA hL (i := i) (k := 2) (by omega) 2 1 rfl rfl dL_law_158 dL_law_159 dL_law_161 (by decide) dL_law_162 dL_law_163 ?_
  refine l_callM C (As := [.int (xs (i + 1)), .int (xs (i + 2))]) (rest := []) (kX3_make hl n (xs (i + 1)) (xs (i + 2)) rt ok.ne.2.1) (cwV 2 C.1.2.2.2.2 gL_law_X3_make rfl rfl rfl (by decide +kernel) ⟨(Nat.le_of_ble_eq_true rfl), (Nat.le_of_ble_eq_true rfl)⟩) rfl rfl (Nat.le_of_ble_eq_true rfl) dL_law_164 ⟨by show cells + 1 + 0 ≤ 601024; omega, by show slots + 6 + 0 ≤ 7293034; omega⟩ ok.ne.2.2 (fun r w hG => ?_)
  obtain ⟨⟨fc', md', R', hmd'⟩, h0, ho⟩ := ok.hr hH hG
  refine j_istore (x := r) (rest := []) (lv' := [(6, .int r), (5, .int k), (4, .int (nI i)), (0, .ref b), (1, .ref (ad 0)), (2, .ref (ad 57)), (3, .ref (ad 64))]) C dL_law_167 (by decide) rfl ?_
  refine j_aload_n (rest := []) C dL_law_169 rfl 5 rfl ?_
  refine l_callM C (As := []) (rest := []) (kX3_thrown hl n w (fun z => by cases z)) (cwV 0 C.1.2.2.2.2 gL_law_X3_thrown rfl rfl rfl (by decide +kernel) ⟨(Nat.le_of_ble_eq_true rfl), (Nat.le_of_ble_eq_true rfl)⟩) rfl rfl (Nat.le_of_ble_eq_true rfl) dL_law_170 ⟨by show cells + 1 + 0 + 0 ≤ 601024; omega, by show slots + 6 + 0 + 0 ≤ 7293034; omega⟩ (fun _ _ z => by cases z) (fun r9 w9 hG9 => ?_)
  have hG8 : (some (.inl (w 0 0), w) : zF Int32) = some (.inl r9, w9) := hG9
  injection hG8 with hG8
  injection hG8 with e1 e2
  injection e1 with e1
  subst e1; subst e2
  refine j_iload (rest := [.int (w 0 0)]) C dL_law_173 1 rfl ?_
  refine j_icmp_eq (tgt := 180) C dL_law_175 (by decide) (fun _ => ?_) (fun z => absurd h0 z)
  refine j_iload (rest := []) C dL_law_180 1 rfl ?_
  refine j_if_ne (tgt := 197) C dL_law_182 (by decide) (fun _ => ?_) (fun hk => ?_)
  · skip
    refine j_goto (tgt := 1241) C dL_law_197 (by decide) ?_
    refine j_sub [2, 3, 4, 5, 6] rfl ?_
    refine j_widen (k := cells + 8) (n := slots + 48) (by omega) (by omega) ?_
    exact kk u w o' fc' md' R' hmd'
  · refine j_aload_n (rest := []) C dL_law_185 rfl 6 rfl ?_
    refine j_iconst (v := 0) C dL_law_186 (by decide) ?_
    refine j_lald (rest := []) (i := 0) C 64 3 (by decide) lce_o rfl vp01 dL_law_187 ?_
    refine j_iload C dL_law_188 0 rfl ?_
    refine j_i2l C dL_law_190 ?_
    refine j_lcmp C dL_law_191 ?_
    have hv : o' (0 : Int32).toNatClampNeg = r.toInt64 := by
      show o' 0 = r.toInt64
      rw [ho hk]
      exact updL_at
    refine j_if_eq (tgt := 197) C dL_law_192 (by decide) (fun _ => ?_) (fun z => absurd (lcmp0 hv) z)
    refine j_goto (tgt := 1241) C dL_law_197 (by decide) ?_
    refine j_sub [2, 3, 4, 5, 6] rfl ?_
    refine j_widen (k := cells + 8) (n := slots + 48) (by omega) (by omega) ?_
    exact kk u w o' fc' md' R' hmd'
set_option maxHeartbeats 2000000 in
set_option maxRecDepth 100000 in
theorem lc_copy (C : zC p s m args meth c cL_law RL wsL_law D zcl (lty cI cR cZ cJ) 65 ad 8) (hl : l.stackTraces = false) (hT : lT ad s.heap.size s) {b L : Nat} {xs : Nat → Int32} (hX : va_X b L xs s s.heap) (hbl : b < s.heap.size) (hbA : ¬ zA 65 ad s.heap.size b) (hL : L ≤ 2560) {n fc md i : Nat} (hn : 200000 ≤ n) {st rt : zS} {o : Nat → Int64} (Rl : Rel st rt fc md) (hmd : md + 256 ≤ 131072) (hi : i + 5 ≤ L) (hc : cells + 8 ≤ 601024) (hs : slots + 48 ≤ 7293034)
    (kk : ∀ (st' rt' : zS) (o' : Nat → Int64) (fc' md' : Nat), Rel st' rt' fc' md' → md' ≤ md + 256 → zJ p l e room_1 s m args below meth c Q D zcl 65 ad 8 (lce cI cR cZ cJ ad st' rt' o') (cells + 8) (slots + 48) 1241 [(4, .int (nI i)), (0, .ref b), (1, .ref (ad 0)), (2, .ref (ad 57)), (3, .ref (ad 64))] []) : zJ p l e room_1 s m args below meth c Q D zcl 65 ad 8 (lce cI cR cZ cJ ad st rt o) cells slots 200 [(4, .int (nI i)), (0, .ref b), (1, .ref (ad 0)), (2, .ref (ad 57)), (3, .ref (ad 64))] [] := by
  have ok : Ok (fX2_copy n (xs (i + 1)) st) (fX3_copy n (xs (i + 1)) rt) md := ok_copy Rl hn hmd
  refine j_aload_n C dL_law_200 rfl 2 rfl ?_
  refine l_arg C hX hbl hbA hL (i := i) (k := 1) (by omega) 1 0 rfl rfl dL_law_201 dL_law_202 dL_law_204 (by decide) dL_law_205 dL_law_206 ?_
  refine j_aload_n C dL_law_207 rfl 4 rfl ?_
  refine l_callH C hT (As := [.ref (ad 0), .int (xs (i + 1)), .ref (ad 64)]) (rest := []) (fun sz => hL_copy hl n (xs (i + 1)) st rt o ok.ne.1 sz) (vx_cwSW 3 C.1.2.2.2.2 gL_law_L_copy rfl rfl rfl (by decide +kernel) ⟨(Nat.le_of_ble_eq_true rfl), (Nat.le_of_ble_eq_true rfl)⟩) rfl rfl (Nat.le_of_ble_eq_true rfl) dL_law_208 ⟨by show cells + 2 ≤ 601024; omega, by show slots + 12 ≤ 7293034; omega⟩ (fun k u o' hH => ?_)
  refine j_istore (lv' := [(5, .int k), (4, .int (nI i)), (0, .ref b), (1, .ref (ad 0)), (2, .ref (ad 57)), (3, .ref (ad 64))]) C dL_law_211 (by decide) rfl ?_
  refine j_aload_n C dL_law_213 rfl 4 rfl ?_
  refine l_arg C hX hbl hbA hL (i := i) (k := 1) (by omega) 2 1 rfl rfl dL_law_214 dL_law_215 dL_law_217 (by decide) dL_law_218 dL_law_219 ?_
  refine l_callM C (As := [.int (xs (i + 1))]) (rest := []) (kX3_copy hl n (xs (i + 1)) rt ok.ne.2.1) (cwV 1 C.1.2.2.2.2 gL_law_X3_copy rfl rfl rfl (by decide +kernel) ⟨(Nat.le_of_ble_eq_true rfl), (Nat.le_of_ble_eq_true rfl)⟩) rfl rfl (Nat.le_of_ble_eq_true rfl) dL_law_220 ⟨by show cells + 2 + 0 ≤ 601024; omega, by show slots + 12 + 0 ≤ 7293034; omega⟩ ok.ne.2.2 (fun r w hG => ?_)
  obtain ⟨⟨fc', md', R', hmd'⟩, h0, ho⟩ := ok.hr hH hG
  refine j_istore (x := r) (rest := []) (lv' := [(6, .int r), (5, .int k), (4, .int (nI i)), (0, .ref b), (1, .ref (ad 0)), (2, .ref (ad 57)), (3, .ref (ad 64))]) C dL_law_223 (by decide) rfl ?_
  refine j_aload_n (rest := []) C dL_law_225 rfl 5 rfl ?_
  refine l_callM C (As := []) (rest := []) (kX3_thrown hl n w (fun z => by cases z)) (cwV 0 C.1.2.2.2.2 gL_law_X3_thrown rfl rfl rfl (by decide +kernel) ⟨(Nat.le_of_ble_eq_true rfl), (Nat.le_of_ble_eq_true rfl)⟩) rfl rfl (Nat.le_of_ble_eq_true rfl) dL_law_226 ⟨by show cells + 2 + 0 + 0 ≤ 601024; omega, by show slots + 12 + 0 + 0 ≤ 7293034; omega⟩ (fun _ _ z => by cases z) (fun r9 w9 hG9 => ?_)
  have hG8 : (some (.inl (w 0 0), w) : zF Int32) = some (.inl r9, w9) := hG9
  injection hG8 with hG8
  injection hG8 with e1 e2
  injection e1 with e1
  subst e1; subst e2
  refine j_iload (rest := [.int (w 0 0)]) C dL_law_229 1 rfl ?_
  refine j_icmp_eq (tgt := 236) C dL_law_231 (by decide) (fun _ => ?_) (fun z => absurd h0 z)
  refine j_iload (rest := []) C dL_law_236 1 rfl ?_
  refine j_if_ne (tgt := 253) C dL_law_238 (by decide) (fun _ => ?_) (fun hk => ?_)
  · skip
    refine j_goto (tgt := 1241) C dL_law_253 (by decide) ?_
    refine j_sub [2, 3, 4, 5, 6] rfl ?_
    refine j_widen (k := cells + 8) (n := slots + 48) (by omega) (by omega) ?_
    exact kk u w o' fc' md' R' hmd'
  · refine j_aload_n (rest := []) C dL_law_241 rfl 6 rfl ?_
    refine j_iconst (v := 0) C dL_law_242 (by decide) ?_
    refine j_lald (rest := []) (i := 0) C 64 3 (by decide) lce_o rfl vp01 dL_law_243 ?_
    refine j_iload C dL_law_244 0 rfl ?_
    refine j_i2l C dL_law_246 ?_
    refine j_lcmp C dL_law_247 ?_
    have hv : o' (0 : Int32).toNatClampNeg = r.toInt64 := by
      show o' 0 = r.toInt64
      rw [ho hk]
      exact updL_at
    refine j_if_eq (tgt := 253) C dL_law_248 (by decide) (fun _ => ?_) (fun z => absurd (lcmp0 hv) z)
    refine j_goto (tgt := 1241) C dL_law_253 (by decide) ?_
    refine j_sub [2, 3, 4, 5, 6] rfl ?_
    refine j_widen (k := cells + 8) (n := slots + 48) (by omega) (by omega) ?_
    exact kk u w o' fc' md' R' hmd'
set_option maxHeartbeats 2000000 in
set_option maxRecDepth 100000 in
theorem lc_slice (C : zC p s m args meth c cL_law RL wsL_law D zcl (lty cI cR cZ cJ) 65 ad 8) (hl : l.stackTraces = false) (hT : lT ad s.heap.size s) {b L : Nat} {xs : Nat → Int32} (hX : va_X b L xs s s.heap) (hbl : b < s.heap.size) (hbA : ¬ zA 65 ad s.heap.size b) (hL : L ≤ 2560) {n fc md i : Nat} (hn : 200000 ≤ n) {st rt : zS} {o : Nat → Int64} (Rl : Rel st rt fc md) (hmd : md + 256 ≤ 131072) (hi : i + 5 ≤ L) (hc : cells + 8 ≤ 601024) (hs : slots + 48 ≤ 7293034)
    (kk : ∀ (st' rt' : zS) (o' : Nat → Int64) (fc' md' : Nat), Rel st' rt' fc' md' → md' ≤ md + 256 → zJ p l e room_1 s m args below meth c Q D zcl 65 ad 8 (lce cI cR cZ cJ ad st' rt' o') (cells + 8) (slots + 48) 1241 [(4, .int (nI i)), (0, .ref b), (1, .ref (ad 0)), (2, .ref (ad 57)), (3, .ref (ad 64))] []) : zJ p l e room_1 s m args below meth c Q D zcl 65 ad 8 (lce cI cR cZ cJ ad st rt o) cells slots 256 [(4, .int (nI i)), (0, .ref b), (1, .ref (ad 0)), (2, .ref (ad 57)), (3, .ref (ad 64))] [] := by
  have ok : Ok (fX2_slice n (xs (i + 1)) (xs (i + 2)) (xs (i + 3)) st) (fX3_slice n (xs (i + 1)) (xs (i + 2)) (xs (i + 3)) rt) md := ok_slice Rl hn hmd
  refine j_aload_n C dL_law_256 rfl 2 rfl ?_
  refine l_arg C hX hbl hbA hL (i := i) (k := 1) (by omega) 1 0 rfl rfl dL_law_257 dL_law_258 dL_law_260 (by decide) dL_law_261 dL_law_262 ?_
  refine l_arg C hX hbl hbA hL (i := i) (k := 2) (by omega) 1 0 rfl rfl dL_law_263 dL_law_264 dL_law_266 (by decide) dL_law_267 dL_law_268 ?_
  refine l_arg C hX hbl hbA hL (i := i) (k := 3) (by omega) 1 0 rfl rfl dL_law_269 dL_law_270 dL_law_272 (by decide) dL_law_273 dL_law_274 ?_
  refine j_aload_n C dL_law_275 rfl 4 rfl ?_
  refine l_callH C hT (As := [.ref (ad 0), .int (xs (i + 1)), .int (xs (i + 2)), .int (xs (i + 3)), .ref (ad 64)]) (rest := []) (fun sz => hL_slice hl n (xs (i + 1)) (xs (i + 2)) (xs (i + 3)) st rt o ok.ne.1 sz) (vx_cwSW 5 C.1.2.2.2.2 gL_law_L_slice rfl rfl rfl (by decide +kernel) ⟨(Nat.le_of_ble_eq_true rfl), (Nat.le_of_ble_eq_true rfl)⟩) rfl rfl (Nat.le_of_ble_eq_true rfl) dL_law_276 ⟨by show cells + 4 ≤ 601024; omega, by show slots + 24 ≤ 7293034; omega⟩ (fun k u o' hH => ?_)
  refine j_istore (lv' := [(5, .int k), (4, .int (nI i)), (0, .ref b), (1, .ref (ad 0)), (2, .ref (ad 57)), (3, .ref (ad 64))]) C dL_law_279 (by decide) rfl ?_
  refine j_aload_n C dL_law_281 rfl 4 rfl ?_
  refine l_arg C hX hbl hbA hL (i := i) (k := 1) (by omega) 2 1 rfl rfl dL_law_282 dL_law_283 dL_law_285 (by decide) dL_law_286 dL_law_287 ?_
  refine l_arg C hX hbl hbA hL (i := i) (k := 2) (by omega) 2 1 rfl rfl dL_law_288 dL_law_289 dL_law_291 (by decide) dL_law_292 dL_law_293 ?_
  refine l_arg C hX hbl hbA hL (i := i) (k := 3) (by omega) 2 1 rfl rfl dL_law_294 dL_law_295 dL_law_297 (by decide) dL_law_298 dL_law_299 ?_
  refine l_callM C (As := [.int (xs (i + 1)), .int (xs (i + 2)), .int (xs (i + 3))]) (rest := []) (kX3_slice hl n (xs (i + 1)) (xs (i + 2)) (xs (i + 3)) rt ok.ne.2.1) (cwV 3 C.1.2.2.2.2 gL_law_X3_slice rfl rfl rfl (by decide +kernel) ⟨(Nat.le_of_ble_eq_true rfl), (Nat.le_of_ble_eq_true rfl)⟩) rfl rfl (Nat.le_of_ble_eq_true rfl) dL_law_300 ⟨by show cells + 4 + 0 ≤ 601024; omega, by show slots + 24 + 0 ≤ 7293034; omega⟩ ok.ne.2.2 (fun r w hG => ?_)
  obtain ⟨⟨fc', md', R', hmd'⟩, h0, ho⟩ := ok.hr hH hG
  refine j_istore (x := r) (rest := []) (lv' := [(6, .int r), (5, .int k), (4, .int (nI i)), (0, .ref b), (1, .ref (ad 0)), (2, .ref (ad 57)), (3, .ref (ad 64))]) C dL_law_303 (by decide) rfl ?_
  refine j_aload_n (rest := []) C dL_law_305 rfl 5 rfl ?_
  refine l_callM C (As := []) (rest := []) (kX3_thrown hl n w (fun z => by cases z)) (cwV 0 C.1.2.2.2.2 gL_law_X3_thrown rfl rfl rfl (by decide +kernel) ⟨(Nat.le_of_ble_eq_true rfl), (Nat.le_of_ble_eq_true rfl)⟩) rfl rfl (Nat.le_of_ble_eq_true rfl) dL_law_306 ⟨by show cells + 4 + 0 + 0 ≤ 601024; omega, by show slots + 24 + 0 + 0 ≤ 7293034; omega⟩ (fun _ _ z => by cases z) (fun r9 w9 hG9 => ?_)
  have hG8 : (some (.inl (w 0 0), w) : zF Int32) = some (.inl r9, w9) := hG9
  injection hG8 with hG8
  injection hG8 with e1 e2
  injection e1 with e1
  subst e1; subst e2
  refine j_iload (rest := [.int (w 0 0)]) C dL_law_309 1 rfl ?_
  refine j_icmp_eq (tgt := 316) C dL_law_311 (by decide) (fun _ => ?_) (fun z => absurd h0 z)
  refine j_iload (rest := []) C dL_law_316 1 rfl ?_
  refine j_if_ne (tgt := 333) C dL_law_318 (by decide) (fun _ => ?_) (fun hk => ?_)
  · skip
    refine j_goto (tgt := 1241) C dL_law_333 (by decide) ?_
    refine j_sub [2, 3, 4, 5, 6] rfl ?_
    refine j_widen (k := cells + 8) (n := slots + 48) (by omega) (by omega) ?_
    exact kk u w o' fc' md' R' hmd'
  · refine j_aload_n (rest := []) C dL_law_321 rfl 6 rfl ?_
    refine j_iconst (v := 0) C dL_law_322 (by decide) ?_
    refine j_lald (rest := []) (i := 0) C 64 3 (by decide) lce_o rfl vp01 dL_law_323 ?_
    refine j_iload C dL_law_324 0 rfl ?_
    refine j_i2l C dL_law_326 ?_
    refine j_lcmp C dL_law_327 ?_
    have hv : o' (0 : Int32).toNatClampNeg = r.toInt64 := by
      show o' 0 = r.toInt64
      rw [ho hk]
      exact updL_at
    refine j_if_eq (tgt := 333) C dL_law_328 (by decide) (fun _ => ?_) (fun z => absurd (lcmp0 hv) z)
    refine j_goto (tgt := 1241) C dL_law_333 (by decide) ?_
    refine j_sub [2, 3, 4, 5, 6] rfl ?_
    refine j_widen (k := cells + 8) (n := slots + 48) (by omega) (by omega) ?_
    exact kk u w o' fc' md' R' hmd'
set_option maxHeartbeats 2000000 in
set_option maxRecDepth 100000 in
theorem lc_join (C : zC p s m args meth c cL_law RL wsL_law D zcl (lty cI cR cZ cJ) 65 ad 8) (hl : l.stackTraces = false) (hT : lT ad s.heap.size s) {b L : Nat} {xs : Nat → Int32} (hX : va_X b L xs s s.heap) (hbl : b < s.heap.size) (hbA : ¬ zA 65 ad s.heap.size b) (hL : L ≤ 2560) {n fc md i : Nat} (hn : 200000 ≤ n) {st rt : zS} {o : Nat → Int64} (Rl : Rel st rt fc md) (hmd : md + 256 ≤ 131072) (hi : i + 5 ≤ L) (hc : cells + 8 ≤ 601024) (hs : slots + 48 ≤ 7293034)
    (kk : ∀ (st' rt' : zS) (o' : Nat → Int64) (fc' md' : Nat), Rel st' rt' fc' md' → md' ≤ md + 256 → zJ p l e room_1 s m args below meth c Q D zcl 65 ad 8 (lce cI cR cZ cJ ad st' rt' o') (cells + 8) (slots + 48) 1241 [(4, .int (nI i)), (0, .ref b), (1, .ref (ad 0)), (2, .ref (ad 57)), (3, .ref (ad 64))] []) : zJ p l e room_1 s m args below meth c Q D zcl 65 ad 8 (lce cI cR cZ cJ ad st rt o) cells slots 336 [(4, .int (nI i)), (0, .ref b), (1, .ref (ad 0)), (2, .ref (ad 57)), (3, .ref (ad 64))] [] := by
  have ok : Ok (fX2_join n (xs (i + 1)) (xs (i + 2)) st) (fX3_join n (xs (i + 1)) (xs (i + 2)) rt) md := ok_join Rl hn hmd
  refine j_aload_n C dL_law_336 rfl 2 rfl ?_
  refine l_arg C hX hbl hbA hL (i := i) (k := 1) (by omega) 1 0 rfl rfl dL_law_337 dL_law_338 dL_law_340 (by decide) dL_law_341 dL_law_342 ?_
  refine l_arg C hX hbl hbA hL (i := i) (k := 2) (by omega) 1 0 rfl rfl dL_law_343 dL_law_344 dL_law_346 (by decide) dL_law_347 dL_law_348 ?_
  refine j_aload_n C dL_law_349 rfl 4 rfl ?_
  refine l_callH C hT (As := [.ref (ad 0), .int (xs (i + 1)), .int (xs (i + 2)), .ref (ad 64)]) (rest := []) (fun sz => hL_join hl n (xs (i + 1)) (xs (i + 2)) st rt o ok.ne.1 sz) (vx_cwSW 4 C.1.2.2.2.2 gL_law_L_join rfl rfl rfl (by decide +kernel) ⟨(Nat.le_of_ble_eq_true rfl), (Nat.le_of_ble_eq_true rfl)⟩) rfl rfl (Nat.le_of_ble_eq_true rfl) dL_law_350 ⟨by show cells + 4 ≤ 601024; omega, by show slots + 24 ≤ 7293034; omega⟩ (fun k u o' hH => ?_)
  refine j_istore (lv' := [(5, .int k), (4, .int (nI i)), (0, .ref b), (1, .ref (ad 0)), (2, .ref (ad 57)), (3, .ref (ad 64))]) C dL_law_353 (by decide) rfl ?_
  refine j_aload_n C dL_law_355 rfl 4 rfl ?_
  refine l_arg C hX hbl hbA hL (i := i) (k := 1) (by omega) 2 1 rfl rfl dL_law_356 dL_law_357 dL_law_359 (by decide) dL_law_360 dL_law_361 ?_
  refine l_arg C hX hbl hbA hL (i := i) (k := 2) (by omega) 2 1 rfl rfl dL_law_362 dL_law_363 dL_law_365 (by decide) dL_law_366 dL_law_367 ?_
  refine l_callM C (As := [.int (xs (i + 1)), .int (xs (i + 2))]) (rest := []) (kX3_join hl n (xs (i + 1)) (xs (i + 2)) rt ok.ne.2.1) (cwV 2 C.1.2.2.2.2 gL_law_X3_join rfl rfl rfl (by decide +kernel) ⟨(Nat.le_of_ble_eq_true rfl), (Nat.le_of_ble_eq_true rfl)⟩) rfl rfl (Nat.le_of_ble_eq_true rfl) dL_law_368 ⟨by show cells + 4 + 0 ≤ 601024; omega, by show slots + 24 + 0 ≤ 7293034; omega⟩ ok.ne.2.2 (fun r w hG => ?_)
  obtain ⟨⟨fc', md', R', hmd'⟩, h0, ho⟩ := ok.hr hH hG
  refine j_istore (x := r) (rest := []) (lv' := [(6, .int r), (5, .int k), (4, .int (nI i)), (0, .ref b), (1, .ref (ad 0)), (2, .ref (ad 57)), (3, .ref (ad 64))]) C dL_law_371 (by decide) rfl ?_
  refine j_aload_n (rest := []) C dL_law_373 rfl 5 rfl ?_
  refine l_callM C (As := []) (rest := []) (kX3_thrown hl n w (fun z => by cases z)) (cwV 0 C.1.2.2.2.2 gL_law_X3_thrown rfl rfl rfl (by decide +kernel) ⟨(Nat.le_of_ble_eq_true rfl), (Nat.le_of_ble_eq_true rfl)⟩) rfl rfl (Nat.le_of_ble_eq_true rfl) dL_law_374 ⟨by show cells + 4 + 0 + 0 ≤ 601024; omega, by show slots + 24 + 0 + 0 ≤ 7293034; omega⟩ (fun _ _ z => by cases z) (fun r9 w9 hG9 => ?_)
  have hG8 : (some (.inl (w 0 0), w) : zF Int32) = some (.inl r9, w9) := hG9
  injection hG8 with hG8
  injection hG8 with e1 e2
  injection e1 with e1
  subst e1; subst e2
  refine j_iload (rest := [.int (w 0 0)]) C dL_law_377 1 rfl ?_
  refine j_icmp_eq (tgt := 384) C dL_law_379 (by decide) (fun _ => ?_) (fun z => absurd h0 z)
  refine j_iload (rest := []) C dL_law_384 1 rfl ?_
  refine j_if_ne (tgt := 401) C dL_law_386 (by decide) (fun _ => ?_) (fun hk => ?_)
  · skip
    refine j_goto (tgt := 1241) C dL_law_401 (by decide) ?_
    refine j_sub [2, 3, 4, 5, 6] rfl ?_
    refine j_widen (k := cells + 8) (n := slots + 48) (by omega) (by omega) ?_
    exact kk u w o' fc' md' R' hmd'
  · refine j_aload_n (rest := []) C dL_law_389 rfl 6 rfl ?_
    refine j_iconst (v := 0) C dL_law_390 (by decide) ?_
    refine j_lald (rest := []) (i := 0) C 64 3 (by decide) lce_o rfl vp01 dL_law_391 ?_
    refine j_iload C dL_law_392 0 rfl ?_
    refine j_i2l C dL_law_394 ?_
    refine j_lcmp C dL_law_395 ?_
    have hv : o' (0 : Int32).toNatClampNeg = r.toInt64 := by
      show o' 0 = r.toInt64
      rw [ho hk]
      exact updL_at
    refine j_if_eq (tgt := 401) C dL_law_396 (by decide) (fun _ => ?_) (fun z => absurd (lcmp0 hv) z)
    refine j_goto (tgt := 1241) C dL_law_401 (by decide) ?_
    refine j_sub [2, 3, 4, 5, 6] rfl ?_
    refine j_widen (k := cells + 8) (n := slots + 48) (by omega) (by omega) ?_
    exact kk u w o' fc' md' R' hmd'
end
