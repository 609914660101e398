/-! two maps of leaves alike: the class's places, the reference's marks -/
/-- how many different ones -/
def dst (f : Nat → Int32) : Nat → Nat
  | 0 => 0
  | T + 1 => dst f T + (if f T ≠ M1 ∧ cnt f (f T) T = 0 then 1 else 0)
theorem dst_le {f : Nat → Int32} : ∀ T, dst f T ≤ T := by
  intro T
  induction T with
  | zero => exact Nat.le_refl _
  | succ T ih => show dst f T + _ ≤ T + 1; split <;> omega
def nzT (f : Nat → Int32) (T : Nat) : Nat := sm (fun p => if cnt f (nI p) T = 0 then 1 else 0) 512
theorem sm_1 : ∀ b, sm (fun _ => 1) b = b := by
  intro b
  induction b with
  | zero => rfl
  | succ b ih => show sm (fun _ => 1) b + 1 = b + 1; rw [ih]
theorem nz_dst {f : Nat → Int32} : ∀ T, (∀ t, t < T → okp (f t)) → nzT f T + dst f T = 512 := by
  intro T
  induction T with
  | zero =>
    intro _
    show sm (fun p => if cnt f (nI p) 0 = 0 then 1 else 0) 512 + 0 = 512
    rw [sm_congr (f := fun p => if cnt f (nI p) 0 = 0 then 1 else 0) (g := fun _ => 1) 512 (fun i _ => if_pos rfl), sm_1]
  | succ T ih =>
    intro h
    have ih9 := ih (fun t ht => h t (by omega))
    rcases h T (by omega) with z | ⟨p, hp, z⟩
    · have e1 : nzT f (T + 1) = nzT f T := by
        unfold nzT
        apply sm_congr
        intro i hi
        show (if cnt f (nI i) T + (if f T = nI i then 1 else 0) = 0 then 1 else 0) = _
        rw [if_neg (show ¬ f T = nI i from fun q => nI_m1 (show i < 2147483648 by omega) (q.symm.trans z)), Nat.add_zero]
      have e2 : dst f (T + 1) = dst f T := by
        show dst f T + (if f T ≠ M1 ∧ cnt f (f T) T = 0 then 1 else 0) = dst f T
        rw [if_neg (fun q => q.1 z), Nat.add_zero]
      rw [e1, e2]
      exact ih9
    · have hne : f T ≠ M1 := by rw [z]; exact nI_m1 (by omega)
      have hstep : ∀ i, i < 512 → cnt f (nI i) (T + 1) = cnt f (nI i) T + (if i = p then 1 else 0) := by
        intro i hi
        show cnt f (nI i) T + (if f T = nI i then 1 else 0) = _
        by_cases c : i = p
        · rw [if_pos c, if_pos (by rw [z, c])]
        · rw [if_neg c, if_neg (fun q => c (nI_inj hi hp (q.symm.trans z)))]
      have e1 := sm_one (f := fun q => if q < 512 then (if cnt f (nI q) T = 0 then 1 else 0) else 0) (g := fun q => if q < 512 then (if cnt f (nI q) (T + 1) = 0 then 1 else 0) else 0) (p := p) (fun i hi => by
        by_cases hi5 : i < 512
        · rw [if_pos hi5, if_pos hi5, hstep i hi5, if_neg hi, Nat.add_zero]
        · rw [if_neg hi5, if_neg hi5]) 512 hp
      have a1 : sm (fun q => if q < 512 then (if cnt f (nI q) T = 0 then 1 else 0) else 0) 512 = nzT f T := sm_congr 512 (fun i hi => by rw [if_pos hi])
      have a2 : sm (fun q => if q < 512 then (if cnt f (nI q) (T + 1) = 0 then 1 else 0) else 0) 512 = nzT f (T + 1) := sm_congr 512 (fun i hi => by rw [if_pos hi])
      rw [a1, a2, if_pos hp, if_pos hp, if_neg (show ¬ cnt f (nI p) (T + 1) = 0 by rw [hstep p hp, if_pos rfl]; omega)] at e1
      have e2 : dst f (T + 1) = dst f T + (if cnt f (nI p) T = 0 then 1 else 0) := by
        show dst f T + (if f T ≠ M1 ∧ cnt f (f T) T = 0 then 1 else 0) = _
        rw [z]
        by_cases c : cnt f (nI p) T = 0
        · rw [if_pos ⟨by rw [← z]; exact hne, c⟩, if_pos c]
        · rw [if_neg (fun q => c q.2), if_neg c]
      rw [e2]
      omega
theorem PI.fc_eq {st : zS} {fc : Nat} (P : PI st fc) : fc + dst (fC st) 4096 = 512 := by
  have h := nz_dst (f := fC st) 4096 P.2.1
  rw [P.2.2.2.1]
  exact h
def Eqv (f g : Nat → Int32) : Prop := ∀ t u, t < 4096 → u < 4096 → (f t = M1 ↔ g t = M1) ∧ (f t = f u ↔ g t = g u)
theorem Eqv_cnt {f g : Nat → Int32} (h : Eqv f g) {t T : Nat} (ht : t < 4096) (hT : T ≤ 4096) : cnt f (f t) T = cnt g (g t) T := cnt_congr T (fun u hu => (h u t (by omega) ht).2)
theorem Eqv_dst {f g : Nat → Int32} (h : Eqv f g) : ∀ T, T ≤ 4096 → dst f T = dst g T := by
  intro T
  induction T with
  | zero => intro _; rfl
  | succ T ih =>
    intro hT
    show _ + _ = _ + _
    rw [ih (by omega), Eqv_cnt h (show T < 4096 by omega) (show T ≤ 4096 by omega)]
    have e := (h T T (by omega) (by omega)).1
    by_cases c : f T = M1
    · rw [if_neg (fun q => q.1 c), if_neg (fun q => q.1 (e.mp c))]
    · have c' : g T ≠ M1 := fun q => c (e.mpr q)
      by_cases d : cnt g (g T) T = 0
      · rw [if_pos ⟨c, d⟩, if_pos ⟨c', d⟩]
      · rw [if_neg (fun q => d q.2), if_neg (fun q => d q.2)]
/-- what becomes of the leaves: some (some u): what u was; some none: none there; none: a new one, alone -/
def Pat (f f' : Nat → Int32) (π : Nat → Option (Option Nat)) : Prop := ∀ t, t < 4096 → (∀ u, π t = some (some u) → u < 4096 ∧ f' t = f u) ∧ (π t = some none → f' t = M1) ∧ (π t = none → f' t ≠ M1 ∧ ∀ t', t' < 4096 → t' ≠ t → f' t' ≠ f' t)
theorem Eqv.pat {f f' g g' : Nat → Int32} {π : Nat → Option (Option Nat)} (h : Eqv f g) (hf : Pat f f' π) (hg : Pat g g' π) : Eqv f' g' := by
  intro t u ht hu
  obtain ⟨f1, f2, f3⟩ := hf t ht
  obtain ⟨g1, g2, g3⟩ := hg t ht
  obtain ⟨p1, p2, p3⟩ := hf u hu
  obtain ⟨q1, q2, q3⟩ := hg u hu
  match hπ : π t, hρ : π u with
  | none, _ =>
    refine ⟨⟨fun z => absurd z (f3 hπ).1, fun z => absurd z (g3 hπ).1⟩, ?_⟩
    by_cases e : u = t
    · subst e; exact ⟨fun _ => rfl, fun _ => rfl⟩
    · exact ⟨fun z => absurd z.symm ((f3 hπ).2 u hu e), fun z => absurd z.symm ((g3 hπ).2 u hu e)⟩
  | some none, none =>
    refine ⟨⟨fun _ => g2 hπ, fun _ => f2 hπ⟩, ?_⟩
    rw [f2 hπ, g2 hπ]
    exact ⟨fun z => absurd z.symm (p3 hρ).1, fun z => absurd z.symm (q3 hρ).1⟩
  | some none, some none =>
    rw [f2 hπ, g2 hπ, p2 hρ, q2 hρ]
    exact ⟨⟨fun _ => rfl, fun _ => rfl⟩, fun _ => rfl, fun _ => rfl⟩
  | some none, some (some v) =>
    obtain ⟨hv, e1⟩ := p1 v hρ
    obtain ⟨-, e2⟩ := q1 v hρ
    rw [f2 hπ, g2 hπ, e1, e2]
    have k := (h v v hv hv).1
    exact ⟨⟨fun _ => rfl, fun _ => rfl⟩, fun z => (k.mp z.symm).symm, fun z => (k.mpr z.symm).symm⟩
  | some (some w), none =>
    obtain ⟨hw, e1⟩ := f1 w hπ
    obtain ⟨-, e2⟩ := g1 w hπ
    refine ⟨by rw [e1, e2]; exact (h w w hw hw).1, ?_⟩
    by_cases e : t = u
    · subst e; exact ⟨fun _ => rfl, fun _ => rfl⟩
    · exact ⟨fun z => absurd z ((p3 hρ).2 t ht e), fun z => absurd z ((q3 hρ).2 t ht e)⟩
  | some (some w), some none =>
    obtain ⟨hw, e1⟩ := f1 w hπ
    obtain ⟨-, e2⟩ := g1 w hπ
    rw [e1, e2, p2 hρ, q2 hρ]
    exact ⟨(h w w hw hw).1, (h w w hw hw).1⟩
  | some (some w), some (some v) =>
    obtain ⟨hw, e1⟩ := f1 w hπ
    obtain ⟨-, e2⟩ := g1 w hπ
    obtain ⟨hv, e3⟩ := p1 v hρ
    obtain ⟨-, e4⟩ := q1 v hρ
    rw [e1, e2, e3, e4]
    exact h w v hw hv
