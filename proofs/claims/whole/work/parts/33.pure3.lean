/-! the places: a map f of leaves (t = 256 a + k) to places; holders count it; the free list holds the others -/
def cnt (f : Nat → Int32) (x : Int32) : Nat → Nat
  | 0 => 0
  | T + 1 => cnt f x T + (if f T = x then 1 else 0)
abbrev fup (f : Nat → Int32) (t0 : Nat) (y : Int32) : Nat → Int32 := fun t => if t = t0 then y else f t
theorem cnt_le {f : Nat → Int32} {x : Int32} : ∀ T, cnt f x T ≤ T := by
  intro T
  induction T with
  | zero => exact Nat.le_refl _
  | succ T ih => show cnt f x T + _ ≤ T + 1; split <;> omega
theorem cnt_congr {f g : Nat → Int32} {x y : Int32} : ∀ T, (∀ t, t < T → (f t = x ↔ g t = y)) → cnt f x T = cnt g y T := by
  intro T
  induction T with
  | zero => intro _; rfl
  | succ T ih =>
    intro h
    show cnt f x T + _ = cnt g y T + _
    rw [ih (fun t ht => h t (by omega))]
    by_cases c : f T = x
    · rw [if_pos c, if_pos ((h T (by omega)).mp c)]
    · rw [if_neg c, if_neg (fun q => c ((h T (by omega)).mpr q))]
theorem cnt_pos {f : Nat → Int32} {x : Int32} {t : Nat} : ∀ T, t < T → f t = x → 0 < cnt f x T := by
  intro T
  induction T with
  | zero => intro h; omega
  | succ T ih =>
    intro h e
    show 0 < cnt f x T + _
    by_cases c : t = T
    · subst c
      rw [if_pos e]; omega
    · have := ih (by omega) e; omega
theorem cnt_zero {f : Nat → Int32} {x : Int32} {T t : Nat} (h : cnt f x T = 0) (ht : t < T) : f t ≠ x := fun e => by have := cnt_pos T ht e; omega
theorem cnt_none {f : Nat → Int32} {x : Int32} : ∀ T, (∀ t, t < T → f t ≠ x) → cnt f x T = 0 := by
  intro T
  induction T with
  | zero => intro _; rfl
  | succ T ih =>
    intro h
    show cnt f x T + _ = 0
    rw [ih (fun t ht => h t (by omega)), if_neg (h T (by omega))]
/-- one leaf more or less -/
theorem cnt_fup {f : Nat → Int32} {x y : Int32} {t0 : Nat} : ∀ T, t0 < T → cnt (fup f t0 y) x T + (if f t0 = x then 1 else 0) = cnt f x T + (if y = x then 1 else 0) := by
  intro T
  induction T with
  | zero => intro h; omega
  | succ T ih =>
    intro h
    show cnt (fup f t0 y) x T + (if fup f t0 y T = x then 1 else 0) + _ = cnt f x T + (if f T = x then 1 else 0) + _
    by_cases c : t0 = T
    · subst c
      have e1 : cnt (fup f t0 y) x t0 = cnt f x t0 := cnt_congr t0 (fun t ht => by show (if t = t0 then y else f t) = x ↔ f t = x; rw [if_neg (by omega)])
      have e2 : fup f t0 y t0 = y := if_pos rfl
      rw [e1, e2]
      omega
    · have e2 : fup f t0 y T = f T := if_neg (by omega)
      have := ih (by omega)
      rw [e2]
      omega
theorem sm_one {f g : Nat → Nat} {p : Nat} (h : ∀ i, i ≠ p → f i = g i) : ∀ b, p < b → sm f b + g p = sm g b + f p := by
  intro b
  induction b with
  | zero => intro h; omega
  | succ b ih =>
    intro hp
    show sm f b + f b + g p = sm g b + g b + f p
    by_cases c : p = b
    · subst c
      rw [sm_congr p (fun i hi => h i (by omega))]
      omega
    · have := ih (by omega)
      rw [h b (by omega)]
      omega
/-- how many of the 512 places nobody has -/
def nz (f : Nat → Int32) : Nat := sm (fun p => if cnt f (nI p) 4096 = 0 then 1 else 0) 512
theorem nz_le {f : Nat → Int32} : nz f ≤ 512 := sm_le (fun i => by split <;> omega) 512
theorem nz_lt {f : Nat → Int32} {p : Nat} (hp : p < 512) (h : cnt f (nI p) 4096 ≠ 0) : nz f < 512 := by
  have h1 := sm_one (f := fun q => if cnt f (nI q) 4096 = 0 then 1 else 0) (g := fun q => if q = p then 1 else if cnt f (nI q) 4096 = 0 then 1 else 0) (p := p) (fun i hi => by rw [if_neg hi]) 512 hp
  have h2 : sm (fun q => if q = p then 1 else if cnt f (nI q) 4096 = 0 then 1 else 0) 512 ≤ 512 := sm_le (fun i => by split <;> (try split) <;> omega) 512
  rw [if_pos rfl, if_neg h] at h1
  unfold nz
  omega
def PIx (f : Nat → Int32) (h fr : Nat → Int32) (fc : Nat) : Prop :=
  (∀ t, t < 4096 → okp (f t)) ∧ (∀ p, p < 512 → h p = nI (cnt f (nI p) 4096)) ∧ fc = nz f ∧ (∀ j, j < fc → ∃ p, p < 512 ∧ fr j = nI p ∧ cnt f (nI p) 4096 = 0) ∧ (∀ i j, i < fc → j < fc → fr i = fr j → i = j)
theorem nz_same {f g : Nat → Int32} (h : ∀ p, p < 512 → (cnt f (nI p) 4096 = 0 ↔ cnt g (nI p) 4096 = 0)) : nz f = nz g := by
  unfold nz
  apply sm_congr
  intro i hi
  by_cases c : cnt f (nI i) 4096 = 0
  · rw [if_pos c, if_pos ((h i hi).mp c)]
  · rw [if_neg c, if_neg (fun q => c ((h i hi).mpr q))]
theorem nz_step {f g : Nat → Int32} {p : Nat} (hp : p < 512) (h0 : cnt f (nI p) 4096 = 0) (h1 : cnt g (nI p) 4096 ≠ 0) (h : ∀ q, q < 512 → q ≠ p → (cnt f (nI q) 4096 = 0 ↔ cnt g (nI q) 4096 = 0)) : nz f = nz g + 1 := by
  have e : nz f + (if cnt g (nI p) 4096 = 0 then 1 else 0) = nz g + (if cnt f (nI p) 4096 = 0 then 1 else 0) := by
    have e1 := sm_one (f := fun q => if q < 512 then (if cnt f (nI q) 4096 = 0 then 1 else 0) else 0) (g := fun q => if q < 512 then (if cnt g (nI q) 4096 = 0 then 1 else 0) else 0) (p := p) (fun i hi => by
      by_cases hi5 : i < 512
      · rw [if_pos hi5, if_pos hi5]
        by_cases c : cnt f (nI i) 4096 = 0
        · rw [if_pos c, if_pos ((h i hi5 hi).mp c)]
        · rw [if_neg c, if_neg (fun q => c ((h i hi5 hi).mpr q))]
      · rw [if_neg hi5, if_neg hi5]) 512 hp
    simp only [if_pos hp] at e1
    unfold nz
    rw [sm_congr (f := fun p => if cnt f (nI p) 4096 = 0 then 1 else 0) (g := fun q => if q < 512 then (if cnt f (nI q) 4096 = 0 then 1 else 0) else 0) 512 (fun i hi => by rw [if_pos hi]), sm_congr (f := fun p => if cnt g (nI p) 4096 = 0 then 1 else 0) (g := fun q => if q < 512 then (if cnt g (nI q) 4096 = 0 then 1 else 0) else 0) 512 (fun i hi => by rw [if_pos hi])]
    exact e1
  rw [if_pos h0, if_neg h1] at e
  omega
theorem nI_inj {a b : Nat} (ha : a < 512) (hb : b < 512) (h : nI a = nI b) : a = b := (nI_eq (by omega) (by omega)).mp h
/-- a leaf with a place becomes one without -/
theorem PIx.drop {f h fr : Nat → Int32} {fc t0 p : Nat} (P : PIx f h fr fc) (ht : t0 < 4096) (hp : p < 512) (e : f t0 = nI p) :
    ∃ c, c + 1 = cnt f (nI p) 4096 ∧ c < 4096 ∧ h p = nI (c + 1) ∧ (c = 0 → fc < 512 ∧ PIx (fup f t0 M1) (upd h p (nI 0)) (upd fr fc (nI p)) (fc + 1)) ∧ (c ≠ 0 → PIx (fup f t0 M1) (upd h p (nI c)) fr fc) := by
  obtain ⟨P1, P2, P3, P4, P5⟩ := P
  have hc := cnt_pos 4096 ht e
  have hl := cnt_le (f := f) (x := nI p) 4096
  refine ⟨cnt f (nI p) 4096 - 1, by omega, by omega, by rw [P2 p hp]; congr 1; omega, ?_⟩
  have hup : ∀ q, q < 512 → cnt (fup f t0 M1) (nI q) 4096 = if q = p then cnt f (nI p) 4096 - 1 else cnt f (nI q) 4096 := by
    intro q hq
    have h1 := cnt_fup (f := f) (x := nI q) (y := M1) 4096 ht
    rw [if_neg (show ¬ M1 = nI q from fun z => nI_m1 (show q < 2147483648 by omega) z.symm)] at h1
    by_cases c : q = p
    · subst c
      rw [if_pos e] at h1
      rw [if_pos rfl]
      omega
    · rw [if_neg (show ¬ f t0 = nI q from fun z => c (nI_inj hq hp (z.symm.trans e)))] at h1
      rw [if_neg c]
      omega
  have hok : ∀ t, t < 4096 → okp (fup f t0 M1 t) := by
    intro t htt
    show okp (if t = t0 then M1 else f t)
    split
    · exact Or.inl rfl
    · exact P1 t htt
  refine ⟨fun c0 => ?_, fun c0 => ?_⟩
  · have hnz : nz (fup f t0 M1) = nz f + 1 := by
      refine nz_step hp (by rw [hup p hp, if_pos rfl]; exact c0) (by omega) (fun q hq hne => by rw [hup q hq, if_neg hne])
    have hlt := nz_lt hp (show cnt f (nI p) 4096 ≠ 0 by omega)
    refine ⟨by omega, hok, fun q hq => ?_, by omega, fun j hj => ?_, fun i j hi hj eij => ?_⟩
    · rw [hup q hq]
      unfold upd
      by_cases c : q = p
      · rw [if_pos c, if_pos c, c0]
      · rw [if_neg c, if_neg c]; exact P2 q hq
    · unfold upd
      by_cases c : j = fc
      · rw [if_pos c]
        exact ⟨p, hp, rfl, by rw [hup p hp, if_pos rfl]; exact c0⟩
      · rw [if_neg c]
        obtain ⟨q, h1, h2, h3⟩ := P4 j (by omega)
        refine ⟨q, h1, h2, ?_⟩
        rw [hup q h1]
        split
        · exact c0
        · exact h3
    · unfold upd at eij
      by_cases c1 : i = fc <;> by_cases c2 : j = fc
      · omega
      · rw [if_pos c1, if_neg c2] at eij
        obtain ⟨q, h1, h2, h3⟩ := P4 j (by omega)
        rw [h2] at eij
        rw [nI_inj hp h1 eij] at hc
        omega
      · rw [if_neg c1, if_pos c2] at eij
        obtain ⟨q, h1, h2, h3⟩ := P4 i (by omega)
        rw [h2] at eij
        rw [nI_inj h1 hp eij] at h3
        omega
      · rw [if_neg c1, if_neg c2] at eij
        exact P5 i j (by omega) (by omega) eij
  · have hnz : nz (fup f t0 M1) = nz f := nz_same (fun q hq => by
      rw [hup q hq]
      by_cases c : q = p
      · subst c; rw [if_pos rfl]; omega
      · rw [if_neg c])
    refine ⟨hok, fun q hq => ?_, by omega, fun j hj => ?_, P5⟩
    · rw [hup q hq]
      unfold upd
      by_cases c : q = p
      · rw [if_pos c, if_pos c]
      · rw [if_neg c, if_neg c]; exact P2 q hq
    · obtain ⟨q, h1, h2, h3⟩ := P4 j hj
      refine ⟨q, h1, h2, ?_⟩
      rw [hup q h1]
      split
      · rename_i c; subst c; omega
      · exact h3
/-- a leaf without a place takes the last free one -/
theorem PIx.take {f h fr : Nat → Int32} {fc t0 : Nat} (P : PIx f h fr fc) (ht : t0 < 4096) (e : f t0 = M1) (h0 : 0 < fc) :
    ∃ p, p < 512 ∧ fr (fc - 1) = nI p ∧ cnt f (nI p) 4096 = 0 ∧ PIx (fup f t0 (nI p)) (upd h p (nI 1)) fr (fc - 1) := by
  obtain ⟨P1, P2, P3, P4, P5⟩ := P
  obtain ⟨p, hp, e1, c0⟩ := P4 (fc - 1) (by omega)
  have hup : ∀ q, q < 512 → cnt (fup f t0 (nI p)) (nI q) 4096 = if q = p then 1 else cnt f (nI q) 4096 := by
    intro q hq
    have h1 := cnt_fup (f := f) (x := nI q) (y := nI p) 4096 ht
    rw [if_neg (show ¬ f t0 = nI q from fun z => nI_m1 (show q < 2147483648 by omega) (z.symm.trans e))] at h1
    by_cases c : q = p
    · subst c
      rw [if_pos rfl] at h1
      rw [if_pos rfl]
      omega
    · rw [if_neg (fun z => c (nI_inj hq hp z.symm))] at h1
      rw [if_neg c]
      omega
  have hnz : nz f = nz (fup f t0 (nI p)) + 1 := nz_step hp c0 (by rw [hup p hp, if_pos rfl]; omega) (fun q hq hne => by rw [hup q hq, if_neg hne])
  refine ⟨p, hp, e1, c0, fun t htt => ?_, fun q hq => ?_, by omega, fun j hj => ?_, fun i j hi hj => P5 i j (by omega) (by omega)⟩
  · show okp (if t = t0 then nI p else f t)
    split
    · exact Or.inr ⟨p, hp, rfl⟩
    · exact P1 t htt
  · rw [hup q hq]
    unfold upd
    by_cases c : q = p
    · rw [if_pos c, if_pos c]
    · rw [if_neg c, if_neg c]; exact P2 q hq
  · obtain ⟨q, h1, h2, h3⟩ := P4 j (by omega)
    refine ⟨q, h1, h2, ?_⟩
    rw [hup q h1]
    split
    · rename_i c
      subst c
      exact absurd (P5 j (fc - 1) (by omega) (by omega) (by rw [h2, e1])) (by omega)
    · exact h3
/-- a leaf without a place shares one that is had -/
theorem PIx.share {f h fr : Nat → Int32} {fc t0 p : Nat} (P : PIx f h fr fc) (ht : t0 < 4096) (e : f t0 = M1) (hp : p < 512) (hc : cnt f (nI p) 4096 ≠ 0) :
    h p = nI (cnt f (nI p) 4096) ∧ PIx (fup f t0 (nI p)) (upd h p (nI (cnt f (nI p) 4096 + 1))) fr fc := by
  obtain ⟨P1, P2, P3, P4, P5⟩ := P
  have hup : ∀ q, q < 512 → cnt (fup f t0 (nI p)) (nI q) 4096 = if q = p then cnt f (nI p) 4096 + 1 else cnt f (nI q) 4096 := by
    intro q hq
    have h1 := cnt_fup (f := f) (x := nI q) (y := nI p) 4096 ht
    rw [if_neg (show ¬ f t0 = nI q from fun z => nI_m1 (show q < 2147483648 by omega) (z.symm.trans e))] at h1
    by_cases c : q = p
    · subst c
      rw [if_pos rfl] at h1
      rw [if_pos rfl]
      omega
    · rw [if_neg (fun z => c (nI_inj hq hp z.symm))] at h1
      rw [if_neg c]
      omega
  have hnz : nz f = nz (fup f t0 (nI p)) := nz_same (fun q hq => by
      rw [hup q hq]
      by_cases c : q = p
      · subst c; rw [if_pos rfl]; omega
      · rw [if_neg c])
  refine ⟨P2 p hp, fun t htt => ?_, fun q hq => ?_, by omega, fun j hj => ?_, P5⟩
  · show okp (if t = t0 then nI p else f t)
    split
    · exact Or.inr ⟨p, hp, rfl⟩
    · exact P1 t htt
  · rw [hup q hq]
    unfold upd
    by_cases c : q = p
    · rw [if_pos c, if_pos c]
    · rw [if_neg c, if_neg c]; exact P2 q hq
  · obtain ⟨q, h1, h2, h3⟩ := P4 j hj
    refine ⟨q, h1, h2, ?_⟩
    rw [hup q h1]
    split
    · rename_i c; subst c; omega
    · exact h3
