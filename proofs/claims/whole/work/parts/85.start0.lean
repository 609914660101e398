/-! the law's world as it is made -/
theorem ak {s : State} {args : Array Value} {ty : FieldType} (hno : ∀ n : String, ty = .object n → False) (h : (Cond.arrayClass ty).before args s = true) : ∃ cA : ClassId, ArrOfT s cA ty ∧ va_RA s cA ty := by
  obtain ⟨cA, k, comp, h1, h2, h3⟩ := Cond.arrayClass_spec h
  refine ⟨cA, fun n z => ⟨fun k h => (by cases h), k, h2, comp, h3⟩, ?_⟩
  cases ty <;> first | exact h1 | exact (hno _ rfl).elim
abbrev wL8 (cI cZ cJ : ClassId) (q a1 a2 a3 a4 a5 a6 a9 : Nat) : va_W := [(q, .inr (3, [.int 0, .ref a1, .ref a2, .ref a3, .ref a4, .ref a5, .int 0, .ref a6])), (a1, .inl (cZ, 16, .inl (fun _ => 0))), (a2, .inl (cI, 16, .inl (fun _ => 0))), (a3, .inl (cI, 69632, .inl (fun _ => 0))), (a4, .inl (cI, 4352, .inl (fun _ => 0))), (a5, .inl (cI, 140000, .inl (fun _ => 0))), (a6, .inl (cI, 4096, .inl (fun _ => 0))), (a9, .inl (cJ, 1, .inr (.inl (fun _ => 0))))]
def adL (ad : Nat → Nat) (q a1 a2 a3 a4 a5 a6 a9 : Nat) (k : Nat) : Nat := if k < 57 then ad k else if k = 57 then q else if k = 58 then a1 else if k = 59 then a2 else if k = 60 then a3 else if k = 61 then a4 else if k = 62 then a5 else if k = 63 then a6 else a9
theorem sce_ad {cI cR : ClassId} {ad ad' : Nat → Nat} {st : zS} (h : ∀ k, k < 57 → ad' k = ad k) {k : Nat} (hk : k < 57) (h1 : k ≠ 1) : sce cI cR ad' st k = sce cI cR ad st k := by
  unfold sce
  by_cases c0 : k = 0
  · rw [if_pos c0, if_pos c0, h 1 (by omega), h 2 (by omega), h 6 (by omega), h 7 (by omega), h 8 (by omega)]
  · rw [if_neg c0, if_neg c0, if_neg h1, if_neg h1]
    by_cases c2 : k = 2
    · rw [if_pos c2, if_pos c2, h 3 (by omega), h 4 (by omega), h 5 (by omega)]
    · rw [if_neg c2, if_neg c2]
      by_cases c3 : 9 ≤ k ∧ k < 25
      · rw [if_pos c3, if_pos c3, h (k + 16) (by omega), h (k + 32) (by omega)]
      · rw [if_neg c3, if_neg c3]
theorem adL_at {cI cR cZ cJ : ClassId} {ad : Nat → Nat} {st : zS} {q a1 a2 a3 a4 a5 a6 a9 : Nat} (k : Nat) (hk : k < 65) :
    ∃ e, (zw 57 ad (sce cI cR ad st) ++ wL8 cI cZ cJ q a1 a2 a3 a4 a5 a6 a9)[k]? = some (adL ad q a1 a2 a3 a4 a5 a6 a9 k, e) ∧ (k ≠ 1 → e = lce cI cR cZ cJ (adL ad q a1 a2 a3 a4 a5 a6 a9) st (fun _ _ => 0) (fun _ => 0) k) ∧ (k = 1 → e = sce cI cR ad st 1) := by
  by_cases h : k < 57
  · refine ⟨sce cI cR ad st k, ?_, fun h1 => ?_, fun h1 => by rw [h1]⟩
    · rw [List.getElem?_append_left (by rw [zw_len]; exact h), zw_get h]
      unfold adL
      rw [if_pos h]
    · rw [lce_c h]
      exact (sce_ad (fun j hj => if_pos hj) h h1).symm
  · have : k = 57 ∨ k = 58 ∨ k = 59 ∨ k = 60 ∨ k = 61 ∨ k = 62 ∨ k = 63 ∨ k = 64 := by omega
    rw [List.getElem?_append_right (by rw [zw_len]; omega), zw_len]
    rcases this with rfl | rfl | rfl | rfl | rfl | rfl | rfl | rfl
    all_goals exact ⟨_, rfl, fun _ => rfl, fun z => by cases z⟩
theorem adL_P {D : va_G} {A : Nat → Prop} {cI cR cZ cJ : ClassId} {ad : Nat → Nat} {st : zS} {q a1 a2 a3 a4 a5 a6 a9 : Nat} {H : Heap} (hP : va_P D zcl (zw 57 ad (sce cI cR ad st) ++ wL8 cI cZ cJ q a1 a2 a3 a4 a5 a6 a9) H) (hD : va_D A (zw 57 ad (sce cI cR ad st) ++ wL8 cI cZ cJ q a1 a2 a3 a4 a5 a6 a9)) :
    va_P D zcl (zw 65 (adL ad q a1 a2 a3 a4 a5 a6 a9) (lce cI cR cZ cJ (adL ad q a1 a2 a3 a4 a5 a6 a9) st (fun _ _ => 0) (fun _ => 0))) H ∧ va_D A (zw 65 (adL ad q a1 a2 a3 a4 a5 a6 a9) (lce cI cR cZ cJ (adL ad q a1 a2 a3 a4 a5 a6 a9) st (fun _ _ => 0) (fun _ => 0))) := by
  refine ⟨fun k x hk => ?_, fun i j p x hi hj e => ?_, fun k x hk => ?_⟩
  · obtain ⟨h1, rfl⟩ := zw_inv hk
    obtain ⟨e, e1, e2, e3⟩ := adL_at (cI := cI) (cR := cR) (cZ := cZ) (cJ := cJ) (ad := ad) (st := st) (q := q) (a1 := a1) (a2 := a2) (a3 := a3) (a4 := a4) (a5 := a5) (a6 := a6) (a9 := a9) k h1
    have h := hP _ _ e1
    by_cases c : k = 1
    · subst c
      rw [e3 rfl] at h
      show H[adL ad q a1 a2 a3 a4 a5 a6 a9 1]? = some (vp_cell cR (16, .inr (.inr (.inr (.inr (fun j => some (adL ad q a1 a2 a3 a4 a5 a6 a9 (9 + j))))))))
      rw [← arrV_c (f := fun j => some (ad (9 + j))) (fun j hj => ?_)]
      · exact h
      · show some (ad (9 + j)) = some (adL ad q a1 a2 a3 a4 a5 a6 a9 (9 + j))
        unfold adL
        rw [if_pos (by omega)]
    · rw [← e2 c]; exact h
  · obtain ⟨h1, rfl⟩ := zw_inv hi
    obtain ⟨h2, rfl⟩ := zw_inv hj
    obtain ⟨_, e1, -⟩ := adL_at (cI := cI) (cR := cR) (cZ := cZ) (cJ := cJ) (ad := ad) (st := st) (q := q) (a1 := a1) (a2 := a2) (a3 := a3) (a4 := a4) (a5 := a5) (a6 := a6) (a9 := a9) i h1
    obtain ⟨_, e2, -⟩ := adL_at (cI := cI) (cR := cR) (cZ := cZ) (cJ := cJ) (ad := ad) (st := st) (q := q) (a1 := a1) (a2 := a2) (a3 := a3) (a4 := a4) (a5 := a5) (a6 := a6) (a9 := a9) j h2
    exact hD.1 _ _ _ _ e1 e2 e
  · obtain ⟨h1, rfl⟩ := zw_inv hk
    obtain ⟨_, e1, -⟩ := adL_at (cI := cI) (cR := cR) (cZ := cZ) (cJ := cJ) (ad := ad) (st := st) (q := q) (a1 := a1) (a2 := a2) (a3 := a3) (a4 := a4) (a5 := a5) (a6 := a6) (a9 := a9) k h1
    have h := hD.2 _ _ e1
    exact h
/-! what is carried for throws, at the law's entry -/
theorem l_str : ∀ q ∈ sstr, Cond.stringRef RX2 q.1 q.2 ∈ lw_tbl := by decide +kernel
theorem sbad_in : ∀ w ∈ sbad, w ∈ lw_tbl := by decide +kernel
theorem lT_0 {s : State} {b : Nat} {aL : Nat → Nat} (hts : ∀ w ∈ lw_tbl, w.before #[Value.ref b] s = true) (hgv : (Jvm.Cond.and given_1 narrow_1).before #[Value.ref b] s = true) (had : ∀ k, k < 65 → s.heap.size ≤ aL k) : lT aL s.heap.size s := by
  have hs := flat_of_before _ hgv
  obtain ⟨c2, i2, k2⟩ := u_known (C := RX2) (T := TX2) (N := 5) (n := 5) hts lwX2 (hts (.instantiable RX2 5) (by decide +kernel))
  have hA : ∀ a : Nat, a < s.heap.size → ¬ zA 65 aL s.heap.size a := fun a h z => z.elim (fun ⟨k, h1, h2⟩ => by have := had k h1; omega) (fun z => by omega)
  refine ⟨fun q hq => ?_, vx_Zqof (hts _ (by decide +kernel)) (hts (.initialized Bundle.tN) (by decide +kernel)) (hs _ (by decide +kernel)) hA, vx_Zqof (hts _ (by decide +kernel)) (hts (.initialized Bundle.tN) (by decide +kernel)) (hs _ (by decide +kernel)) hA, fun w hw => va_Nw.of (sbad_ot w hw) (hts w (sbad_in w hw)), va_Nw.of rfl (hts (.methodLinkNest RX1 32 yX2_leavesFor RX2) (by decide +kernel)), va_Nc.of (hs (.not (.castable "java/lang/IllegalStateException" "java/lang/IllegalArgumentException")) (by decide +kernel))⟩
  have h := hts _ (l_str q hq)
  obtain ⟨-, -, -, a, -, -, -, -, -, hev⟩ := Cond.stringRef_spec k2.2.1 h
  exact ⟨a, vk_R.of h hev⟩
