/-! the law: how the two begin; what one call says; arguments; the helpers' calls -/
theorem rel0 {st : zS} (h : Ini st) : Rel st (fun _ _ => 0) 512 0 := by
  obtain ⟨h1, h2, h3, h4⟩ := h
  have hf : ∀ t, t < 4096 → fC st t = M1 := fun t ht => (h3 (t / 256) (by omega)).2.2 (t % 256) (by omega)
  have hc : ∀ p, p < 512 → cnt (fC st) (nI p) 4096 = 0 := fun p hp => cnt_none 4096 (fun t ht => by rw [hf t ht]; exact fun z => nI_m1 (by omega) z.symm)
  have hr : ∀ t, fR (fun _ _ => 0) t = M1 := fun t => by unfold fR; rw [if_neg (fun z => z.1 rfl)]
  have h01 : (0 : Int32) ≠ 1 := by decide
  refine ⟨⟨h1, ?_⟩, ⟨fun a _ => Or.inl rfl, fun a _ z => absurd z h01, li0, by omega, fun t _ => Or.inl (hr t)⟩, h2, fun a ha => (h3 a ha).1, fun a _ z => absurd z h01, fun a k ha hk _ => ?_, fun a i _ z => absurd z h01, fun t u ht hu => ?_⟩
  · refine ⟨fun t ht => ?_, fun p hp => ?_, ?_, fun j hj => ⟨j, hj, (h4 j hj).1, hc j hj⟩, fun i j hi hj e => ?_⟩
    · rw [hf t ht]; exact Or.inl rfl
    · rw [hc p hp, (h4 p hp).2]; exact li0
    · unfold nz
      rw [sm_congr (g := fun _ => 1) 512 (fun p hp => by rw [hc p hp]; rfl)]
      exact (sm_1 512).symm
    · rw [(h4 i hi).1, (h4 j hj).1] at e
      exact nI_inj (by omega) (by omega) e
  · exact hf _ (by omega)
  · rw [hf t ht, hf u hu, hr t, hr u]
    exact ⟨Iff.rfl, Iff.rfl⟩
theorem Ok.ne {α : Type} {F G : zF α} {md : Nat} (h : Ok F G md) : F ≠ none ∧ G ≠ none ∧ ∀ (b : Bool) (u : zS), G ≠ some (.inr b, u) := by
  obtain ⟨st', rt', fc', md', R, hm, h⟩ := h
  rcases h with ⟨v, h1, h2, -⟩ | ⟨b, v, h1, h2, -⟩
  · rw [h1, h2]
    exact ⟨fun z => (by cases z), fun z => (by cases z), fun _ _ z => (by cases z)⟩
  · rw [h1, h2]
    exact ⟨fun z => (by cases z), fun z => (by cases z), fun _ _ z => (by cases z)⟩
theorem Ok.hr {α : Type} {F G : zF α} {md : Nat} (h : Ok F G md) {cv : α → Option Int64} {o o' : Nat → Int64} {k : Int32} {u w : zS} {r : α} (hH : HR F cv o k u o') (hG : G = some (.inl r, w)) :
    (∃ fc' md', Rel u w fc' md' ∧ md' ≤ md + 256) ∧ w 0 0 = k ∧ (k = 0 → o' = (match cv r with | some x => vp_updL o 0 x | none => o)) := by
  obtain ⟨st', rt', fc', md', R, hm, h⟩ := h
  rcases h with ⟨v, h1, h2, h3⟩ | ⟨b, v, h1, h2, h3⟩
  · have e2 := h2.symm.trans hG
    cases e2
    rcases hH with ⟨v', g1, g2, g3⟩ | ⟨b', g1, g2, g3⟩
    · have e1 := h1.symm.trans g1
      cases e1
      exact ⟨⟨fc', md', R, hm⟩, by rw [h3, g2]; rfl, fun _ => g3⟩
    · have e1 := h1.symm.trans g1
      cases e1
  · have e2 := h2.symm.trans hG
    cases e2
    rcases hH with ⟨v', g1, g2, g3⟩ | ⟨b', g1, g2, g3⟩
    · have e1 := h1.symm.trans g1
      cases e1
    · have e1 := h1.symm.trans g1
      cases e1
      refine ⟨⟨fc', md', R, hm⟩, ?_, fun hk => ?_⟩
      · rw [h3, g2]
        cases b <;> decide
      · rw [g2] at hk
        cases b
        · exact absurd hk (by decide)
        · exact absurd hk (by decide)
theorem Ok.cc {α : Type} {F G : zF α} {md : Nat} (h : Ok F G md) {u w : zS} {r r2 : α} (hF : F = some (.inl r, u)) (hG : G = some (.inl r2, w)) : (∃ fc' md', Rel u w fc' md' ∧ md' ≤ md + 256) ∧ r = r2 := by
  obtain ⟨st', rt', fc', md', R, hm, h⟩ := h
  rcases h with ⟨v, h1, h2, h3⟩ | ⟨b, v, h1, h2, h3⟩
  · have e1 := h1.symm.trans hF
    have e2 := h2.symm.trans hG
    cases e1
    cases e2
    exact ⟨⟨fc', md', R, hm⟩, rfl⟩
  · have e1 := h1.symm.trans hF
    cases e1
section
variable {p : Program} {l : Launch} {e : Env} {R : Room} {s : State} {m : MethodId} {args : Array Value} {below : List Frame} {meth : Method} {c : Code} {Q : State → Prop} {D : va_G} {cI cR cZ cJ : ClassId} {ad : Nat → Nat} {nL : Nat} {cells slots pc : Nat} {lv lv' : List (Nat × Value)} {rest stk : List Value} {cc : ByteArray} {own : String} {Ts : List Cond} {E : Nat → va_E} {st rt : zS} {o : Nat → Int64}
theorem l_arg {cl : List vw_C} {tys : List (ClassId × FieldType)} {N : Nat} (C : zC p s m args meth c cc own Ts D cl tys N ad nL) {b L : Nat} {xs : Nat → Int32} (hX : va_X b L xs s s.heap) (hbl : b < s.heap.size) (hbA : ¬ zA N ad s.heap.size b) (hL : L ≤ 2560) {i k : Nat} {n : Int} (hi : i + k < L) (j0 j4 : Nat) (h0 : lv[j0]? = some (0, .ref b)) (h4 : lv[j4]? = some (4, .int (nI i)))
    (d0 : decode cc pc = .ok (.aload_n 0, 1)) (d1 : decode cc (pc + 1) = .ok (.iload 4, 2)) (d3 : decode cc (pc + 3) = .ok (.iconst n, 1)) (hk : Int32.ofInt n = nI k) (d4 : decode cc (pc + 4) = .ok (.iadd, 1)) (d5 : decode cc (pc + 5) = .ok (.iaload, 1))
    (kk : zJ p l e R s m args below meth c Q D cl N ad nL E cells slots (pc + 6) lv (.int (xs (i + k)) :: rest)) : zJ p l e R s m args below meth c Q D cl N ad nL E cells slots pc lv rest := by
  refine j_aload_n C d0 rfl j0 h0 ?_
  refine j_iload C d1 j4 h4 ?_
  refine j_iconst (v := nI k) C d3 hk ?_
  refine j_iadd C d4 ?_
  rw [nad]
  refine j_sld C hX hbl hbA (vp_in_nI hi (by omega)) d5 ?_
  rw [ncl (by omega)]
  exact kk
theorem l_callH {α : Type} {F : zF α} {cv : α → Option Int64} (C : zC p s m args meth c cc own Ts D zcl (lty cI cR cZ cJ) 65 ad nL) (hT : lT ad s.heap.size s)
    {y : MethodName} {wsY : List Cond} {rmY : Room} {mY sY n index maxL : Nat} {ret : Option FieldType} {hh : List (Nat × Nat × Nat × Nat)} {bytes : ByteArray} {As : List Value}
    (hM : ∀ sz : Nat, Met l y wsY rmY (lPc D cI cR cZ cJ ad st rt o sz As) (lQc F cv D cI cR cZ cJ ad rt o sz) mY sY (zA 65 ad sz)) (cw : vx_CSW R s args own index y bytes maxL ret hh wsY rmY mY sY n)
    (hn : As.length = n) (hstk : stk = As.reverse ++ rest) (hW : (rest.map fun v => v.category).sum ≤ 8) (hdg : decode cc pc = .ok (.invokestatic index, 3)) (hf : cells + mY ≤ R.cells ∧ slots + sY ≤ R.slots)
    (kk : ∀ (k : Int32) (u : zS) (o' : Nat → Int64), HR F cv o k u o' → zJ p l e R s m args below meth c Q D zcl 65 ad nL (lce cI cR cZ cJ ad u rt o') (cells + mY) (slots + sY) (pc + 3) lv (.int k :: rest)) :
    zJ p l e R s m args below meth c Q D zcl 65 ad nL (lce cI cR cZ cJ ad st rt o) cells slots pc lv stk := by
  intro H locs ls hP hS h
  subst hstk
  have hr := vx_runSW (R := R) (e := e) (below := below) (meth := meth) (locs := locs) (cells := cells) (slots := slots) (rest := rest) (g := F0 m pc ls (As.reverse ++ rest)) C.1 (hM H.size) cw ⟨z_blind lT_S, z_pre C lT_S hT hP hS⟩ rfl hn h.1 rfl (lv_room hW) hdg hf
  intro T hT9 X
  have hA : ∀ q : Nat, q < H.size → zA 65 ad H.size q → zA 65 ad s.heap.size q := fun q _ h => zA_mono hS.1 q h
  have hf9 : ∀ q : Nat, zA 65 ad H.size q → zA 65 ad s.heap.size q := fun q h => zA_mono hS.1 q h
  obtain ⟨v, st₀, t, T', L, h0, X', hL, e1, e2, ⟨⟨k, u, o', hv, hH, hb⟩, hF⟩, st9⟩ := hr T hT9 X
  cases hv
  obtain ⟨k1, k2, k3⟩ := vx_keep h0 e1 hS hA hf9 hL hF
  obtain ⟨t2, a1, b1⟩ := kk k u o' hH T'.heap (locs ++ L) ls (by rw [e1]; exact hb) k3 h T' rfl X'
  exact ⟨t2, st9 t2 a1, b1⟩
end
