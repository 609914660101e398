/-! an array is CHANGED, on both sides -/
theorem RN_lt {rt : zS} {w : Nat → Int32} {a m k e : Nat} (h : k < e) (h3 : planR rt w a m k = 3) : RN rt w a m k < RN rt w a m e := by
  have h1 : RN rt w a m (k + 1) ≤ RN rt w a m e := sm_mono h
  rw [RN_s, if_pos h3] at h1
  omega
theorem fR_mks {rt rt' : zS} {w : Nat → Int32} {a m md t : Nat} (ha : a < 16) (ht1 : rt 1 a = 1) (em : LR rt a = m) (hm : m ≤ 4096) (h1 : rt' 1 = rt 1) (h2 : rt' 2 = rt 2) (h4 : rt' 4 = mks rt w a m md (lf m)) (ht : t < 4096) :
    fR rt' t = if a * 256 ≤ t ∧ t < a * 256 + lf m then nmk rt w a m md (t - a * 256) else fR rt t := by
  have hl : lf m ≤ 256 := by unfold lf; omega
  unfold fR
  rw [h1, LR_c h2, h4]
  by_cases c : a * 256 ≤ t ∧ t < a * 256 + lf m
  · have e1 : t / 256 = a := by omega
    have e2 : t % 256 = t - a * 256 := by omega
    rw [e1, e2, em, if_pos ⟨by rw [ht1]; decide, by omega⟩, if_pos c]
    unfold mks
    rw [if_pos c]
  · rw [if_neg c]
    unfold mks
    rw [if_neg c]
theorem ok_change {n fc md a m lo e : Nat} {st rt : zS} (R : Rel st rt fc md) (ha : a < 16) (ht : rt 1 a = 1) (em : LR rt a = m) (hlo : lo ≤ e) (he : e ≤ lf m) (hn : 200000 ≤ n) (hmd : md + 256 ≤ 131072)
    (hW1 : ∀ i, i < m → lo * 16 ≤ i → i < e * 16 → rt 6 i = st 6 i) (hW2 : ∀ i, i < m → i < lo * 16 ∨ e * 16 ≤ i → rt 6 i = VR st (9 + a) i) :
    Ok (fX2_changeLeaves n (9 + a) (nI lo) (nI e) st) (fX3_change n (nI a) rt) md := by
  subst em
  have hm := R.le ha ht
  have hl : lf (LR rt a) ≤ 256 := by unfold lf; omega
  have hfc := R.fc
  obtain ⟨c1, c2⟩ := f_change (n := n) (W := rt 6) R.pi ha hm (R.len ha ht) hlo he (by omega) hW1 hW2
  obtain ⟨d1, d2⟩ := f_changeR (n := n) R.mr ha ht rfl hn (by omega)
  rw [wn_eq R ha ht _ (Nat.le_refl _)] at c1 c2
  have hRN : RN rt (rt 6) a (LR rt a) (lf (LR rt a)) ≤ 256 := Nat.le_trans (sm_le (fun i => by split <;> omega) _) hl
  by_cases room : RN rt (rt 6) a (LR rt a) (lf (LR rt a)) ≤ fc
  · obtain ⟨st', fc', C1, C, P', E⟩ := c2 room
    obtain ⟨rt', D1, D0, D6, D11, D22, D4, D3⟩ := d2 (by omega)
    obtain ⟨Ca, Cb, Cc⟩ := C
    have fm : ∀ t, t < 4096 → fR rt' t = if a * 256 ≤ t ∧ t < a * 256 + lf (LR rt a) then nmk rt (rt 6) a (LR rt a) md (t - a * 256) else fR rt t := fun t h => fR_mks ha ht rfl hm D11 D22 D4 h
    have Mm := R.mr.2.2.2.2
    have nm : ∀ k, k < lf (LR rt a) → nmk rt (rt 6) a (LR rt a) md k = if planR rt (rt 6) a (LR rt a) k = 1 then M1 else if planR rt (rt 6) a (LR rt a) k = 3 then nI (md + RN rt (rt 6) a (LR rt a) k) else fR rt (a * 256 + k) := fun k hk => by rw [R.mark ha ht hk]; rfl
    refine ⟨st', rt', fc', md + RN rt (rt 6) a (LR rt a) (lf (LR rt a)), ⟨P', ⟨?_, ?_, D6, by omega, ?_⟩, ?_, ?_, ?_, ?_, ?_, ?_⟩, by omega, Or.inl ⟨(), C1, D1, D0⟩⟩
    · rw [D11]; exact R.mr.1
    · rw [D11, D22, LR_c D22]; exact R.mr.2.1
    · intro t h
      rw [fm t h]
      split
      · rename_i c
        rw [nm _ (by omega)]
        split
        · exact Or.inl rfl
        · split
          · rename_i c3
            exact Or.inr ⟨_, Nat.add_lt_add_left (RN_lt (by omega) c3) md, rfl⟩
          · rcases Mm _ (show a * 256 + (t - a * 256) < 4096 by omega) with z | ⟨x, z1, z2⟩
            · exact Or.inl z
            · exact Or.inr ⟨x, by omega, z2⟩
      · rcases Mm t h with z | ⟨x, z1, z2⟩
        · exact Or.inl z
        · exact Or.inr ⟨x, by omega, z2⟩
    · rw [E, R.md, nad]
    · intro b hb; rw [Cc _ (by omega), D11]; exact R.there hb
    · intro b hb hb1; rw [Cc _ (by omega), LR_c D22]; exact R.len hb (by rw [← D11]; exact hb1)
    · intro b k hb hk hd
      rw [D11, LR_c D22] at hd
      rw [(Ca (b * 256 + k) (lt4k hb hk) (fun k' hk' z => by
        have e1 : b = a := by omega
        have e2 : k = k' := by omega
        subst e1; subst e2
        rcases hd with hd | hd
        · rw [ht] at hd; exact absurd hd (by decide)
        · omega)).1]
      exact R.dead hb hk hd
    · intro b i hb hb1 hi
      rw [D11] at hb1
      rw [LR_c D22] at hi
      have hbm := R.le hb hb1
      rw [D3, VR_LV (by omega)]
      show (if a * 4096 ≤ b * 4096 + i ∧ b * 4096 + i < a * 4096 + LR rt a then rt 6 (b * 4096 + i - a * 4096) else rt 3 (b * 4096 + i)) = _
      by_cases eb : b = a
      · subst eb
        rw [if_pos (by omega), show b * 4096 + i - b * 4096 = i by omega]
        have hk : i / 16 < lf (LR rt b) := by unfold lf; omega
        obtain ⟨k0, k1, k2, k3⟩ := Cb (i / 16) hk
        have hv : i % 16 < vin (LR rt b) (i / 16) := by unfold vin; split <;> omega
        have ei : i / 16 * 16 + i % 16 = i := by omega
        have pe : plan st (rt 6) b (LR rt b) (i / 16) = 0 ∨ plan st (rt 6) b (LR rt b) (i / 16) = 1 ∨ plan st (rt 6) b (LR rt b) (i / 16) = 2 ∨ plan st (rt 6) b (LR rt b) (i / 16) = 3 := by
          have := plan_le (st := st) (w := rt 6) (a := b) (m := LR rt b) (k := i / 16)
          omega
        rcases pe with p | p | p | p
        · rw [(k0 p).2 _ (by omega)]
          unfold plan at p
          by_cases s : sam (VR st (9 + b)) (rt 6) (i / 16) (LR rt b)
          · have := s (i % 16) (by omega) (by omega)
            rw [ei] at this
            rw [← this, VR_LV (by omega)]
          · rw [if_neg s] at p
            split at p
            · exact absurd p (by decide)
            · split at p <;> exact absurd p (by decide)
        · rw [(k1 p).2 _ (by omega)]
          unfold plan at p
          by_cases s : sam (VR st (9 + b)) (rt 6) (i / 16) (LR rt b)
          · rw [if_pos s] at p; exact absurd p (by decide)
          · rw [if_neg s] at p
            by_cases s2 : pl (rt 6) (i / 16) (LR rt b)
            · have := s2 (i % 16) (by omega) (by omega)
              rw [ei] at this
              exact this
            · rw [if_neg s2] at p
              split at p <;> exact absurd p (by decide)
        · rw [(k2 p).2 _ hv, ei]
        · rw [(k3 p).2.2 _ hv, ei]
      · rw [if_neg (by omega), (Ca (b * 256 + i / 16) (lt4k hb (by omega)) (fun k' hk' z => by omega)).2 _ (by omega), ← VR_LV (by omega)]
        exact R.val hb hb1 hi
    · refine Eqv.pat (π := fun t => if a * 256 ≤ t ∧ t < a * 256 + lf (LR rt a) then (if planR rt (rt 6) a (LR rt a) (t - a * 256) = 1 then some none else if planR rt (rt 6) a (LR rt a) (t - a * 256) = 3 then none else some (some t)) else some (some t)) R.eqv ?_ ?_
      · intro t h
        by_cases c : a * 256 ≤ t ∧ t < a * 256 + lf (LR rt a)
        · have hk : t - a * 256 < lf (LR rt a) := by omega
          obtain ⟨k0, k1, k2, k3⟩ := Cb (t - a * 256) hk
          rw [plan_eq R ha ht hk, show a * 256 + (t - a * 256) = t by omega] at k0 k1 k2 k3
          simp only [if_pos c]
          by_cases p1 : planR rt (rt 6) a (LR rt a) (t - a * 256) = 1
          · simp only [if_pos p1]
            exact ⟨fun u z => (by cases z), fun _ => (k1 p1).1, fun z => (by cases z)⟩
          · simp only [if_neg p1]
            by_cases p3 : planR rt (rt 6) a (LR rt a) (t - a * 256) = 3
            · simp only [if_pos p3]
              exact ⟨fun u z => (by cases z), fun z => (by cases z), fun _ => ⟨(k3 p3).1, (k3 p3).2.1⟩⟩
            · simp only [if_neg p3]
              refine ⟨fun u z => ?_, fun z => (by cases z), fun z => (by cases z)⟩
              injection z with z
              injection z with z
              subst z
              refine ⟨h, ?_⟩
              have := planR_le (rt := rt) (w := rt 6) (a := a) (m := LR rt a) (k := t - a * 256)
              by_cases p0 : planR rt (rt 6) a (LR rt a) (t - a * 256) = 0
              · exact (k0 p0).1
              · exact (k2 (by omega)).1
        · simp only [if_neg c]
          refine ⟨fun u z => ?_, fun z => (by cases z), fun z => (by cases z)⟩
          injection z with z
          injection z with z
          subst z
          exact ⟨h, (Ca t h (fun k hk z => c (by omega))).1⟩
      · have small : ∀ t, t < 4096 → ∀ x, md ≤ x → x < 2147483648 → fR rt t ≠ nI x := by
          intro t h x hx hx2 z
          rcases Mm t h with y | ⟨y, y1, y2⟩
          · rw [y] at z; exact nI_m1 hx2 z.symm
          · rw [y2] at z
            have := (nI_eq (by omega) hx2).mp z
            omega
        intro t h
        by_cases c : a * 256 ≤ t ∧ t < a * 256 + lf (LR rt a)
        · have hk : t - a * 256 < lf (LR rt a) := by omega
          have ft := fm t h
          rw [if_pos c, nm _ hk] at ft
          simp only [if_pos c]
          by_cases p1 : planR rt (rt 6) a (LR rt a) (t - a * 256) = 1
          · rw [if_pos p1] at ft
            simp only [if_pos p1]
            exact ⟨fun u z => (by cases z), fun _ => ft, fun z => (by cases z)⟩
          · rw [if_neg p1] at ft
            simp only [if_neg p1]
            by_cases p3 : planR rt (rt 6) a (LR rt a) (t - a * 256) = 3
            · rw [if_pos p3] at ft
              simp only [if_pos p3]
              have hlt := RN_lt hk p3
              refine ⟨fun u z => (by cases z), fun z => (by cases z), fun _ => ⟨by rw [ft]; exact nI_m1 (by omega), fun t' h' hne => ?_⟩⟩
              rw [ft, fm t' h']
              split
              · rename_i c'
                have hk' : t' - a * 256 < lf (LR rt a) := by omega
                rw [nm _ hk']
                split
                · exact fun z => nI_m1 (by omega) z.symm
                · split
                  · rename_i p3'
                    have hlt' := RN_lt hk' p3'
                    intro z
                    have z2 := (nI_eq (by omega) (by omega)).mp z
                    rcases Nat.lt_or_gt_of_ne (show t' - a * 256 ≠ t - a * 256 by omega) with y | y
                    · have := RN_lt y p3'; omega
                    · have := RN_lt y p3; omega
                  · exact small _ (by omega) _ (by omega) (by omega)
              · exact small t' h' _ (by omega) (by omega)
            · rw [if_neg p3] at ft
              simp only [if_neg p3]
              refine ⟨fun u z => ?_, fun z => (by cases z), fun z => (by cases z)⟩
              injection z with z
              injection z with z
              subst z
              exact ⟨h, by rw [ft, show a * 256 + (t - a * 256) = t by omega]⟩
        · have ft := fm t h
          rw [if_neg c] at ft
          simp only [if_neg c]
          refine ⟨fun u z => ?_, fun z => (by cases z), fun z => (by cases z)⟩
          injection z with z
          injection z with z
          subst z
          exact ⟨h, ft⟩
  · obtain ⟨g, C1⟩ := c1 (by omega)
    obtain ⟨rt', D1, D0, D6, D11, D22, D3, D4⟩ := d1 (by omega)
    refine ⟨_, rt', fc, md, Rel_c (st' := upA st 8 g) R (fun x _ _ h8 => upA_n h8) D11 D22 (fun j _ => by rw [D3]) (fun t _ => by rw [D4]) D6, by omega, Or.inr ⟨false, (), C1, D1, D0⟩⟩
