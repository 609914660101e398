theorem cnt_one {f : Nat → Int32} {p t0 T : Nat} (hp : p < 512) (h : cnt f (nI p) T = 1) (ht : t0 < T) (e : f t0 = nI p) : ∀ t, t < T → t ≠ t0 → f t ≠ nI p := by
  intro t htt hne q
  have h1 := cnt_fup (f := f) (x := nI p) (y := M1) T ht
  rw [if_pos e, if_neg (show ¬ M1 = nI p from fun z => nI_m1 (show p < 2147483648 by omega) z.symm)] at h1
  have h2 : cnt (fup f t0 M1) (nI p) T = 0 := by omega
  exact cnt_zero h2 htt (show (if t = t0 then M1 else f t) = nI p by rw [if_neg hne]; exact q)
theorem Lst.refl {st : zS} {t : Nat} : Lst st st t := ⟨fun _ _ _ => ⟨rfl, fun _ _ => rfl⟩, fun _ _ => rfl⟩
theorem carry_loop {n fc0 a m lo e : Nat} {X : zS → zF Unit} {st0 : zS} (P0 : PI st0 fc0) (ha : a < 16) (hm : m ≤ 4096) (em : st0 (9 + a) 3 = nI m) (he : e ≤ lf m) (h8 : ∀ k, lo ≤ k → k < e → st0 8 k = nI (plan st0 (st0 6) a m k)) : ∀ (q i fc : Nat) (st : zS), lo ≤ i → i ≤ e → e - i < q → Chg st0 st (st0 6) a m lo i → PI st fc → wn st0 (st0 6) a m e - wn st0 (st0 6) a m i ≤ fc → st 2 4 = st0 2 4 + nI (wn st0 (st0 6) a m i - wn st0 (st0 6) a m lo) →
    ∃ st' fc', fX2_changeLeaves_55 n X q (9 + a) (nI e) (nI i) st = X st' ∧ Chg st0 st' (st0 6) a m lo e ∧ PI st' fc' ∧ st' 2 4 = st0 2 4 + nI (wn st0 (st0 6) a m e - wn st0 (st0 6) a m lo) := by
  have hl : lf m ≤ 256 := by unfold lf; omega
  have hal8 := al_8
  have hal6 := al_6
  intro q
  induction q with
  | zero => intro i fc st _ _ h; omega
  | succ q ih =>
    intro i fc st h1 h2 h3 hC hP hw hmd
    rw [fX2_changeLeaves_55]
    simp (disch := omega) only [nle]
    by_cases h : e ≤ i
    · have e9 : i = e := by omega
      subst e9
      rw [if_pos h]
      exact ⟨st, fc, rfl, hC, hP, hmd⟩
    · have hi : i * 16 < m := by unfold lf at he; omega
      have hi2 : i < 256 := by omega
      have hr : isRow (9 + a) := by omega
      have ht : a * 256 + i < 4096 := by omega
      have hmo : wn st0 (st0 6) a m (i + 1) ≤ wn st0 (st0 6) a m e := sm_mono (by omega)
      have hmo2 : wn st0 (st0 6) a m lo ≤ wn st0 (st0 6) a m i := sm_mono (by omega)
      have k6 : st 6 = st0 6 := hC.2.2 6 (by omega)
      have k8 : st 8 = st0 8 := hC.2.2 8 (by omega)
      have kr : st (9 + a) = st0 (9 + a) := hC.2.2 (9 + a) (by omega)
      have hb := hC.1 (a * 256 + i) ht (fun k q1 q2 => by omega)
      have hpl := plan_le (st := st0) (w := st0 6) (a := a) (m := m) (k := i)
      have hsn : st (9 + a + 16) i = fC st0 (a * 256 + i) := by rw [← fC_at (st := st) (a := a) hi2]; exact hb.1
      rw [if_neg h, if_pos ((inb_nI (by omega)).mpr (by omega)), ncl (by omega), k8, h8 i h1 (by omega)]
      -- the next leaf
      have go : ∀ (st1 : zS) (fc1 : Nat), fX2_carryOut n (nI (plan st0 (st0 6) a m i)) (9 + a) (nI i) st = some (.inl (), st1) → Chg st0 st1 (st0 6) a m lo (i + 1) → PI st1 fc1 → wn st0 (st0 6) a m e - wn st0 (st0 6) a m (i + 1) ≤ fc1 → st1 2 4 = st0 2 4 + nI (wn st0 (st0 6) a m (i + 1) - wn st0 (st0 6) a m lo) →
          ∃ st' fc', (zb (fX2_carryOut n (nI (plan st0 (st0 6) a m i)) (9 + a) (nI i) st) fun v15 u14 => fX2_changeLeaves_55 n X q (9 + a) (nI e) (nI i + 1) u14) = X st' ∧ Chg st0 st' (st0 6) a m lo e ∧ PI st' fc' ∧ st' 2 4 = st0 2 4 + nI (wn st0 (st0 6) a m e - wn st0 (st0 6) a m lo) := by
        intro st1 fc1 g1 g2 g3 g4 g5
        rw [g1, zb_s, li1, nad]
        exact ih (i + 1) fc1 st1 (by omega) (by omega) (by omega) g2 g3 g4 g5
      rcases (show plan st0 (st0 6) a m i = 0 ∨ plan st0 (st0 6) a m i = 1 ∨ plan st0 (st0 6) a m i = 2 ∨ plan st0 (st0 6) a m i = 3 by omega) with p | p | p | p
      · have hws : wn st0 (st0 6) a m (i + 1) = wn st0 (st0 6) a m i := by rw [wn_s, if_neg (by omega), Nat.add_zero]
        refine go st fc ?_ (hC.step hi2 ha h1 Lst.refl (fun _ => ⟨rfl, fun _ _ => rfl⟩) (fun z => by omega) (fun z => by omega) (fun z => by omega)) hP (by rw [hws]; exact hw) (by rw [hws]; exact hmd)
        rw [p]
        unfold fX2_carryOut
        rw [if_neg (by decide), if_neg (by decide), if_neg (by decide)]
      · have hws : wn st0 (st0 6) a m (i + 1) = wn st0 (st0 6) a m i := by rw [wn_s, if_neg (by omega), Nat.add_zero]
        obtain ⟨st1, fc1, s1, s2, s3, s4, s5, s6, s7⟩ := step_const (n := n) (v := st 6 (i * 16)) hP ha hi2
        refine go st1 fc1 ?_ (hC.step hi2 ha h1 s4 (fun z => by omega) (fun _ => ⟨s5, fun j _ => by rw [s6 j, k6]⟩) (fun z => by omega) (fun z => by omega)) s2 (by rw [hws]; omega) (by rw [hws, s7]; exact hmd)
        rw [p]
        unfold fX2_carryOut
        rw [if_pos (by decide), li16, nml, if_pos ((inb_nI (by omega)).mpr (by omega)), ncl (by omega), s1, zb_s]
      · have hws : wn st0 (st0 6) a m (i + 1) = wn st0 (st0 6) a m i := by rw [wn_s, if_neg (by omega), Nat.add_zero]
        have hpl2 : fC st0 (a * 256 + i) ≠ M1 ∧ cnt (fC st0) (fC st0 (a * 256 + i)) 4096 = 1 := by
          unfold plan at p
          split at p
          · omega
          · split at p
            · omega
            · split at p
              · assumption
              · omega
        rcases P0.2.1 _ ht with z | ⟨pp, hpp, z⟩
        · exact absurd z hpl2.1
        · have hone := cnt_one hpp (by rw [← z]; exact hpl2.2) ht z
          have hlo : lone st (a * 256 + i) := by
            intro t htt hne
            rw [hb.1, z]
            by_cases hin : ∃ k, lo ≤ k ∧ k < i ∧ t = a * 256 + k
            · obtain ⟨k, q1, q2, rfl⟩ := hin
              obtain ⟨c0, c1, c2, c3⟩ := hC.2.1 k q1 q2
              have hpk := plan_le (st := st0) (w := st0 6) (a := a) (m := m) (k := k)
              rcases (show plan st0 (st0 6) a m k = 0 ∨ plan st0 (st0 6) a m k = 1 ∨ plan st0 (st0 6) a m k = 2 ∨ plan st0 (st0 6) a m k = 3 by omega) with r | r | r | r
              · rw [(c0 r).1]; exact hone _ htt hne
              · rw [(c1 r).1]; exact fun w => nI_m1 (show pp < 2147483648 by omega) w.symm
              · rw [(c2 r).1]; exact hone _ htt hne
              · intro w
                exact (c3 r).2.1 (a * 256 + i) ht (fun y => hne y.symm) (by rw [hb.1, z, w])
            · rw [(hC.1 t htt (fun k q1 q2 q3 => hin ⟨k, q1, q2, q3⟩)).1]
              exact hone t htt hne
          obtain ⟨st1, s1, s2, s3, s4, s5, s6⟩ := step_self (n := n) hP ha hi hm hpp (hb.1.trans z) hlo
          refine go st1 fc ?_ (hC.step hi2 ha h1 s3 (fun z => by omega) (fun z => by omega) (fun _ => ⟨s4, fun j hj => by rw [s5 j hj, k6]⟩) (fun z => by omega)) s2 (by rw [hws]; exact hw) (by rw [hws, s6]; exact hmd)
          rw [p]
          unfold fX2_carryOut
          rw [if_neg (by decide), if_pos (by decide), if_pos ((inb_nI (by omega)).mpr (by rw [al_p hr]; exact hi2)), f_valuesIn (m := m) (by omega) (by rw [kr]; exact em) (by omega), zb_s, ncl (by omega), hsn, z, li16, nml, show (nI (if m - i * 16 < 16 then m - i * 16 else 16)) = nI (vin m i) from rfl, s1, zb_s]
      · have hws : wn st0 (st0 6) a m (i + 1) = wn st0 (st0 6) a m i + 1 := by rw [wn_s, if_pos p]
        obtain ⟨st1, fc1, s1, s2, s3, s4, s5, s6, s7, s8⟩ := step_own (n := n) hP ha hi hm (by rw [kr]; exact em) (by omega)
        refine go st1 fc1 ?_ (hC.step hi2 ha h1 s4 (fun z => by omega) (fun z => by omega) (fun z => by omega) (fun _ => ⟨s5, s6, fun j hj => by rw [s7 j hj, k6]⟩)) s2 (by omega) ?_
        · rw [p]
          unfold fX2_carryOut
          rw [if_neg (by decide), if_neg (by decide), if_pos (by decide), s1, zb_s]
        · rw [s8, hmd, hws, Int32.add_assoc, li1, nad]
          congr 2
          omega
