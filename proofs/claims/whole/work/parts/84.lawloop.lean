/-! the law's loop -/
section
variable {p : Program} {l : Launch} {e : Env} {s : State} {m : MethodId} {args : Array Value} {below : List Frame} {meth : Method} {c : Code} {Q : State → Prop} {D : va_G} {cI cR cZ cJ : ClassId} {ad : Nat → Nat}
theorem l_end {L i : Nat} (hL : L ≤ 2560) (hi : i ≤ L) : (nI L - nI 5 < nI i) ↔ L < i + 5 := by
  by_cases h : 5 ≤ L
  · rw [nsb h, nlt (by omega) (by omega)]; omega
  · have h2 : L = 0 ∨ L = 1 ∨ L = 2 ∨ L = 3 ∨ L = 4 := by omega
    refine ⟨fun _ => by omega, fun _ => ?_⟩
    have hneg : nI L - nI 5 < 0 := by rcases h2 with rfl | rfl | rfl | rfl | rfl <;> decide
    have h0 : (0 : Int32) ≤ nI i := by rw [li0, nle (by omega) (by omega)]; omega
    exact Int32.lt_of_lt_of_le hneg h0
set_option maxHeartbeats 2000000 in
set_option maxRecDepth 100000 in
theorem law_loop (C : zC p s m args meth c cL_law RL wsL_law D zcl (lty cI cR cZ cJ) 65 ad 8) (hl : l.stackTraces = false) (hT : lT ad s.heap.size s) {b L : Nat} {xs : Nat → Int32} (hX : va_X b L xs s s.heap) (hbl : b < s.heap.size) (hbA : ¬ zA 65 ad s.heap.size b) (hL : L ≤ 2560) {n : Nat} (hn : 200000 ≤ n) {c0 s0 : Nat} (hc0 : c0 ≤ 1000) (hs0 : s0 ≤ 1000000)
    (kend : ∀ (st rt : zS) (o : Nat → Int64) (lv : List (Nat × Value)) (cells slots : Nat), cells ≤ 601024 → slots ≤ 7293034 → zJ p l e room_1 s m args below meth c Q D zcl 65 ad 8 (lce cI cR cZ cJ ad st rt o) cells slots 1247 lv []) :
    ∀ (d j fc md : Nat) (st rt : zS) (o : Nat → Int64), L - 5 * j < d → 5 * j ≤ L → Rel st rt fc md → md ≤ 256 * j → zJ p l e room_1 s m args below meth c Q D zcl 65 ad 8 (lce cI cR cZ cJ ad st rt o) (c0 + 8 * j) (s0 + 48 * j) 23 [(4, .int (nI (5 * j))), (0, .ref b), (1, .ref (ad 0)), (2, .ref (ad 57)), (3, .ref (ad 64))] [] := by
  intro d
  induction d with
  | zero => intro j fc md st rt o h; omega
  | succ d ih =>
    intro j fc md st rt o hd hj Rl hmd
    refine j_iload C dL_law_23 0 rfl ?_
    refine j_aload_n C dL_law_25 rfl 1 rfl ?_
    refine j_slen C hX hbl hbA dL_law_26 ?_
    refine j_iconst (v := nI 5) C dL_law_27 (by decide) ?_
    refine j_isub C dL_law_28 ?_
    refine j_icmp_gt (tgt := 1247) C dL_law_29 (by decide) (fun z => ?_) (fun z => ?_)
    · exact kend st rt o _ _ _ (by omega) (by omega)
    · have hi : 5 * j + 5 ≤ L := by rw [l_end hL hj] at z; omega
      have hnx : ∀ (st' rt' : zS) (o' : Nat → Int64) (fc' md' : Nat), Rel st' rt' fc' md' → md' ≤ md + 256 → zJ p l e room_1 s m args below meth c Q D zcl 65 ad 8 (lce cI cR cZ cJ ad st' rt' o') (c0 + 8 * j + 8) (s0 + 48 * j + 48) 1241 [(4, .int (nI (5 * j))), (0, .ref b), (1, .ref (ad 0)), (2, .ref (ad 57)), (3, .ref (ad 64))] [] := by
        intro st' rt' o' fc' md' R' h'
        refine j_iinc (v := nI (5 * (j + 1))) (lv' := [(4, .int (nI (5 * (j + 1)))), (0, .ref b), (1, .ref (ad 0)), (2, .ref (ad 57)), (3, .ref (ad 64))]) C dL_law_1241 0 rfl (by rw [show Int32.ofInt 5 = nI 5 from rfl, nad, Nat.mul_add]) (by decide) rfl ?_
        refine j_goto (tgt := 23) C dL_law_1244 (by decide) ?_
        exact ih (j + 1) fc' md' st' rt' o' (by omega) (by omega) R' (by omega)
      refine j_aload_n C dL_law_32 rfl 1 rfl ?_
      refine j_iload C dL_law_33 0 rfl ?_
      refine j_sld C hX hbl hbA (vp_in_nI (show 5 * j < L by omega) (by omega)) dL_law_35 ?_
      refine j_bipush (v := 31) C dL_law_36 (by decide) ?_
      refine j_iand C dL_law_38 ?_
      generalize xs (nI (5 * j)).toNatClampNeg &&& 31 = x
      have hdf : zJ p l e room_1 s m args below meth c Q D zcl 65 ad 8 (lce cI cR cZ cJ ad st rt o) (c0 + 8 * j) (s0 + 48 * j) 1241 [(4, .int (nI (5 * j))), (0, .ref b), (1, .ref (ad 0)), (2, .ref (ad 57)), (3, .ref (ad 64))] [] := j_widen (k := c0 + 8 * j + 8) (n := s0 + 48 * j + 48) (by omega) (by omega) (hnx st rt o fc md Rl (by omega))
      by_cases h1 : x.toInt < 0
      · exact j_tabOut (tgt := 1241) C dL_law_39 (Or.inl h1) (by decide) hdf
      · by_cases h2 : 19 < x.toInt
        · exact j_tabOut (tgt := 1241) C dL_law_39 (Or.inr h2) (by decide) hdf
        · have hx : x.toInt = 0 ∨ x.toInt = 1 ∨ x.toInt = 2 ∨ x.toInt = 3 ∨ x.toInt = 4 ∨ x.toInt = 5 ∨ x.toInt = 6 ∨ x.toInt = 7 ∨ x.toInt = 8 ∨ x.toInt = 9 ∨ x.toInt = 10 ∨ x.toInt = 11 ∨ x.toInt = 12 ∨ x.toInt = 13 ∨ x.toInt = 14 ∨ x.toInt = 15 ∨ x.toInt = 16 ∨ x.toInt = 17 ∨ x.toInt = 18 ∨ x.toInt = 19 := by omega
          rcases hx with h | h | h | h | h | h | h | h | h | h | h | h | h | h | h | h | h | h | h | h
          · exact j_tabIn (off := 93) (tgt := 132) C dL_law_39 h1 h2 (by rw [h]; rfl) (by decide) (lc_make C hl hT hX hbl hbA hL hn Rl (by omega) hi (by omega) (by omega) hnx)
          · exact j_tabIn (off := 161) (tgt := 200) C dL_law_39 h1 h2 (by rw [h]; rfl) (by decide) (lc_copy C hl hT hX hbl hbA hL hn Rl (by omega) hi (by omega) (by omega) hnx)
          · exact j_tabIn (off := 217) (tgt := 256) C dL_law_39 h1 h2 (by rw [h]; rfl) (by decide) (lc_slice C hl hT hX hbl hbA hL hn Rl (by omega) hi (by omega) (by omega) hnx)
          · exact j_tabIn (off := 297) (tgt := 336) C dL_law_39 h1 h2 (by rw [h]; rfl) (by decide) (lc_join C hl hT hX hbl hbA hL hn Rl (by omega) hi (by omega) (by omega) hnx)
          · exact j_tabIn (off := 365) (tgt := 404) C dL_law_39 h1 h2 (by rw [h]; rfl) (by decide) (lc_release C hl hT hX hbl hbA hL hn Rl (by omega) hi (by omega) (by omega) hnx)
          · exact j_tabIn (off := 390) (tgt := 429) C dL_law_39 h1 h2 (by rw [h]; rfl) (by decide) (lc_get C hl hT hX hbl hbA hL hn Rl (by omega) hi (by omega) (by omega) hnx)
          · exact j_tabIn (off := 458) (tgt := 497) C dL_law_39 h1 h2 (by rw [h]; rfl) (by decide) (lc_set C hl hT hX hbl hbA hL hn Rl (by omega) hi (by omega) (by omega) hnx)
          · exact j_tabIn (off := 518) (tgt := 557) C dL_law_39 h1 h2 (by rw [h]; rfl) (by decide) (lc_fill C hl hT hX hbl hbA hL hn Rl (by omega) hi (by omega) (by omega) hnx)
          · exact j_tabIn (off := 590) (tgt := 629) C dL_law_39 h1 h2 (by rw [h]; rfl) (by decide) (lc_move C hl hT hX hbl hbA hL hn Rl (by omega) hi (by omega) (by omega) hnx)
          · exact j_tabIn (off := 662) (tgt := 701) C dL_law_39 h1 h2 (by rw [h]; rfl) (by decide) (lc_sort C hl hT hX hbl hbA hL hn Rl (by omega) hi (by omega) (by omega) hnx)
          · exact j_tabIn (off := 698) (tgt := 737) C dL_law_39 h1 h2 (by rw [h]; rfl) (by decide) (lc_reverse C hl hT hX hbl hbA hL hn Rl (by omega) hi (by omega) (by omega) hnx)
          · exact j_tabIn (off := 734) (tgt := 773) C dL_law_39 h1 h2 (by rw [h]; rfl) (by decide) (lc_length C hl hT hX hbl hbA hL hn Rl (by omega) hi (by omega) (by omega) hnx)
          · exact j_tabIn (off := 759) (tgt := 798) C dL_law_39 h1 h2 (by rw [h]; rfl) (by decide) (lc_sum C hl hT hX hbl hbA hL hn Rl (by omega) hi (by omega) (by omega) hnx)
          · exact j_tabIn (off := 838) (tgt := 877) C dL_law_39 h1 h2 (by rw [h]; rfl) (by decide) (lc_bound C hl hT hX hbl hbA hL hn Rl (by omega) hi (by omega) (by omega) hnx)
          · exact j_tabIn (off := 930) (tgt := 969) C dL_law_39 h1 h2 (by rw [h]; rfl) (by decide) (lc_find C hl hT hX hbl hbA hL hn Rl (by omega) hi (by omega) (by omega) hnx)
          · exact j_tabIn (off := 1010) (tgt := 1049) C dL_law_39 h1 h2 (by rw [h]; rfl) (by decide) (lc_difference C hl hT hX hbl hbA hL hn Rl (by omega) hi (by omega) (by omega) hnx)
          · exact j_tabIn (off := 1078) (tgt := 1117) C dL_law_39 h1 h2 (by rw [h]; rfl) (by decide) (lc_used C hl hT hX hbl hbA hL hn Rl (by omega) hi (by omega) (by omega) hnx)
          · exact j_tabIn (off := 1091) (tgt := 1130) C dL_law_39 h1 h2 (by rw [h]; rfl) (by decide) (lc_made C hl hT hX hbl hbA hL hn Rl (by omega) hi (by omega) (by omega) hnx)
          · exact j_tabIn (off := 1104) (tgt := 1143) C dL_law_39 h1 h2 (by rw [h]; rfl) (by decide) (lc_leaf C hl hT hX hbl hbA hL hn Rl (by omega) hi (by omega) (by omega) hnx)
          · exact j_tabIn (off := 1141) (tgt := 1180) C dL_law_39 h1 h2 (by rw [h]; rfl) (by decide) (lc_alike C hl hT hX hbl hbA hL hn Rl (by omega) hi (by omega) (by omega) hnx)
end
