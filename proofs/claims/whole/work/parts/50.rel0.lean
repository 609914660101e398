/-! an int is below 0 or a number -/
theorem i_cases (i : Int32) : i < 0 ∨ (¬ i < 0 ∧ ∃ a : Nat, a < 2147483648 ∧ i = nI a) := by
  by_cases h : i < 0
  · exact Or.inl h
  · refine Or.inr ⟨h, i.toNatClampNeg, ?_, ?_⟩
    · have := Int32.toInt_lt i
      rw [Int32.lt_iff_toInt_lt] at h
      have e : i.toNatClampNeg = i.toInt.toNat := rfl
      have z : (0 : Int32).toInt = 0 := rfl
      omega
    · rw [Int32.lt_iff_toInt_lt] at h
      have e : i.toNatClampNeg = i.toInt.toNat := rfl
      have z : (0 : Int32).toInt = 0 := rfl
      have := Int32.toInt_lt i
      apply Int32.toInt_inj.mp
      show i.toInt = (Int32.ofNat i.toNatClampNeg).toInt
      rw [Int32.toInt_ofNat_of_lt (by omega), e]
      omega
theorem nI_nn {a : Nat} (h : a < 2147483648) : ¬ nI a < 0 := by
  have e : (0 : Int32) = nI 0 := rfl
  rw [e, nlt h (by omega)]; omega
theorem there_cases {n fc md : Nat} {st rt : zS} (R : Rel st rt fc md) (i : Int32) :
    (∃ a, a < 16 ∧ i = nI a ∧ rt 1 a = 1 ∧ (∀ r : zS, r 1 = rt 1 → fX3_isArray n i r = some (.inl (1 : Int32), r)) ∧ fX2_isThere n i st = some (.inl (1 : Int32), st) ∧ fX2_arrayThere n i st = some (.inl (9 + a), st)) ∨
    ((∀ r : zS, r 1 = rt 1 → fX3_isArray n i r = some (.inl (0 : Int32), r)) ∧ fX2_isThere n i st = some (.inl (0 : Int32), st) ∧ fX2_arrayThere n i st = some (.inr true, st)) := by
  have no : (∀ r : zS, r 1 = rt 1 → fX3_isArray n i r = some (.inl (0 : Int32), r)) → fX2_isThere n i st = some (.inl (0 : Int32), st) → ((∀ r : zS, r 1 = rt 1 → fX3_isArray n i r = some (.inl (0 : Int32), r)) ∧ fX2_isThere n i st = some (.inl (0 : Int32), st) ∧ fX2_arrayThere n i st = some (.inr true, st)) := by
    intro h1 h2
    refine ⟨h1, h2, ?_⟩
    unfold fX2_arrayThere
    rw [h2, zb_s, if_pos rfl]
  rcases i_cases i with hi | ⟨hi, a, ha, rfl⟩
  · exact Or.inr (no (fun r _ => by unfold fX3_isArray; rw [if_pos hi]) (by unfold fX2_isThere; rw [if_pos hi]))
  · by_cases h16 : 16 ≤ a
    · have h : (16 : Int32) ≤ nI a := by rw [li16, nle (by omega) (by omega)]; exact h16
      exact Or.inr (no (fun r _ => by unfold fX3_isArray; rw [if_neg hi, if_pos h]) (by unfold fX2_isThere; rw [if_neg hi, if_pos h]))
    · have h : ¬ (16 : Int32) ≤ nI a := by rw [li16, nle (by omega) (by omega)]; exact h16
      have hb : inb (nI a) 16 := (inb_nI ha).mpr (by omega)
      have hb2 : inb (nI a) (ml 1) := by rw [ml_1]; exact hb
      rcases R.mr.1 a (by omega) with z | z
      · exact Or.inr (no (fun r hr => by unfold fX3_isArray; rw [if_neg hi, if_neg h, if_pos hb2, ncl ha, hr, if_pos z]) (by unfold fX2_isThere; rw [if_neg hi, if_neg h, if_pos hb, ncl ha, R.there (by omega), if_pos z]))
      · have z0 : ¬ rt 1 a = 0 := by rw [z]; decide
        have hT : fX2_isThere n (nI a) st = some (.inl (1 : Int32), st) := by unfold fX2_isThere; rw [if_neg hi, if_neg h, if_pos hb, ncl ha, R.there (by omega), if_neg z0]
        refine Or.inl ⟨a, by omega, rfl, z, fun r hr => by unfold fX3_isArray; rw [if_neg hi, if_neg h, if_pos hb2, ncl ha, hr, if_neg z0], hT, ?_⟩
        unfold fX2_arrayThere
        rw [hT, zb_s, if_neg (by decide), if_pos hb, ncl ha]
theorem part_cases {n fc md : Nat} {st rt : zS} (R : Rel st rt fc md) (i f t : Int32) :
    (∃ a F T, a < 16 ∧ i = nI a ∧ rt 1 a = 1 ∧ f = nI F ∧ t = nI T ∧ F ≤ T ∧ T ≤ LR rt a ∧ fX3_isPart n i f t rt = some (.inl (1 : Int32), rt) ∧ fX2_arrayThere n i st = some (.inl (9 + a), st) ∧ fX2_checkRange n (9 + a) f t st = some (.inl (), st)) ∨
    (fX3_isPart n i f t rt = some (.inl (0 : Int32), rt) ∧ (fX2_arrayThere n i st = some (.inr true, st) ∨ ∃ a, fX2_arrayThere n i st = some (.inl (9 + a), st) ∧ fX2_checkRange n (9 + a) f t st = some (.inr true, st))) := by
  rcases there_cases (n := n) R i with ⟨a, ha, rfl, ht, hA, hT, hAt⟩ | ⟨hA, hT, hAt⟩
  · have hm := R.le ha ht
    have hb2 : inb (nI a) (ml 2) := by rw [ml_2]; exact (inb_nI (by omega)).mpr ha
    have e1 := R.len ha ht
    have e2 := R.lenR ha ht
    rcases i_cases f with hf | ⟨hf, F, hF, rfl⟩
    · refine Or.inr ⟨?_, Or.inr ⟨a, hAt, ?_⟩⟩
      · unfold fX3_isPart; rw [hA rt rfl, zb_s, if_neg (by decide), if_pos hf]
      · unfold fX2_checkRange; rw [if_pos hf]
    · by_cases htf : t < nI F
      · refine Or.inr ⟨?_, Or.inr ⟨a, hAt, ?_⟩⟩
        · unfold fX3_isPart; rw [hA rt rfl, zb_s, if_neg (by decide), if_neg hf, if_pos htf]
        · unfold fX2_checkRange; rw [if_neg hf, if_pos htf]
      · rcases i_cases t with h | ⟨h, T, hT0, rfl⟩
        · exact absurd (Int32.lt_of_lt_of_le h (by rw [li0, nle (by omega) (by omega)]; omega)) htf
        · rw [nlt hT0 hF] at htf
          by_cases hl : LR rt a < T
          · refine Or.inr ⟨?_, Or.inr ⟨a, hAt, ?_⟩⟩
            · unfold fX3_isPart; rw [hA rt rfl, zb_s, if_neg (by decide), if_neg hf, if_neg (by rw [nlt hT0 hF]; exact htf), if_pos hb2, ncl (by omega), e2, if_pos (by rw [nlt (by omega) (by omega)]; omega)]
            · unfold fX2_checkRange; rw [if_neg hf, if_neg (by rw [nlt hT0 hF]; exact htf), e1, if_neg (by rw [nle (by omega) (by omega)]; omega)]
          · refine Or.inl ⟨a, F, T, ha, rfl, ht, rfl, rfl, by omega, by omega, ?_, hAt, ?_⟩
            · unfold fX3_isPart; rw [hA rt rfl, zb_s, if_neg (by decide), if_neg hf, if_neg (by rw [nlt hT0 hF]; exact htf), if_pos hb2, ncl (by omega), e2, if_neg (by rw [nlt (by omega) (by omega)]; omega)]
            · unfold fX2_checkRange; rw [if_neg hf, if_neg (by rw [nlt hT0 hF]; exact htf), e1, if_pos (by rw [nle (by omega) (by omega)]; omega)]
  · refine Or.inr ⟨?_, Or.inl hAt⟩
    unfold fX3_isPart; rw [hA rt rfl, zb_s, if_pos rfl]
theorem leaf_cases {n fc md : Nat} {st rt : zS} (R : Rel st rt fc md) (i f : Int32) :
    (∃ a k, a < 16 ∧ i = nI a ∧ rt 1 a = 1 ∧ f = nI k ∧ k < lf (LR rt a) ∧ (∀ r : zS, r 1 = rt 1 → r 2 = rt 2 → fX3_isLeaf n i f r = some (.inl (1 : Int32), r)) ∧ fX2_isLeafThere n i f st = some (.inl (1 : Int32), st)) ∨
    ((∀ r : zS, r 1 = rt 1 → r 2 = rt 2 → fX3_isLeaf n i f r = some (.inl (0 : Int32), r)) ∧ fX2_isLeafThere n i f st = some (.inl (0 : Int32), st)) := by
  rcases there_cases (n := n) R i with ⟨a, ha, rfl, ht, hA, hT, hAt⟩ | ⟨hA, hT, hAt⟩
  · have hm := R.le ha ht
    have hl : lf (LR rt a) ≤ 256 := by unfold lf; omega
    have hb : inb (nI a) 16 := (inb_nI (by omega)).mpr ha
    have hb2 : inb (nI a) (ml 2) := by rw [ml_2]; exact (inb_nI (by omega)).mpr ha
    have e1 := R.len ha ht
    have e2 := R.lenR ha ht
    rcases i_cases f with hf | ⟨hf, k, hk, rfl⟩
    · refine Or.inr ⟨fun r h1 h2 => ?_, ?_⟩
      · unfold fX3_isLeaf; rw [hA r h1, zb_s, if_neg (by decide), if_pos hf]
      · unfold fX2_isLeafThere; rw [hT, zb_s, if_neg (by decide), if_pos hf]
    · by_cases h : lf (LR rt a) ≤ k
      · refine Or.inr ⟨fun r h1 h2 => ?_, ?_⟩
        · unfold fX3_isLeaf; rw [hA r h1, zb_s, if_neg (by decide), if_neg hf, if_pos hb2, ncl (by omega), h2, e2, f_leaves (by omega), zb_s, if_pos (by rw [nle (by omega) (by omega)]; omega)]
        · unfold fX2_isLeafThere; rw [hT, zb_s, if_neg (by decide), if_neg hf, if_pos hb, ncl (by omega), f_leafCount (by omega) e1, zb_s, if_pos (by rw [nle (by omega) (by omega)]; omega)]
      · refine Or.inl ⟨a, k, ha, rfl, ht, rfl, by omega, fun r h1 h2 => ?_, ?_⟩
        · unfold fX3_isLeaf; rw [hA r h1, zb_s, if_neg (by decide), if_neg hf, if_pos hb2, ncl (by omega), h2, e2, f_leaves (by omega), zb_s, if_neg (by rw [nle (by omega) (by omega)]; omega)]
        · unfold fX2_isLeafThere; rw [hT, zb_s, if_neg (by decide), if_neg hf, if_pos hb, ncl (by omega), f_leafCount (by omega) e1, zb_s, if_neg (by rw [nle (by omega) (by omega)]; omega)]
  · refine Or.inr ⟨fun r h1 h2 => ?_, ?_⟩
    · unfold fX3_isLeaf; rw [hA r h1, zb_s, if_pos rfl]
    · unfold fX2_isLeafThere; rw [hT, zb_s, if_pos rfl]
theorem Rel_code {st rt : zS} {fc md : Nat} (R : Rel st rt fc md) (c : Int32) : Rel st (upA rt 0 (upd (rt 0) 0 c)) fc md := Rel_c R (fun _ _ _ _ => rfl) (upA_n (by decide)) (upA_n (by decide)) (fun _ _ => by rw [upA_n (by decide)]) (fun _ _ => by rw [upA_n (by decide)]) (by rw [upA_s]; rfl)
theorem code_at {rt : zS} {c : Int32} : upA rt 0 (upd (rt 0) 0 c) 0 0 = c := by rw [upA_s, upd_at]
theorem ok_inl {α : Type} {F G : zF α} {md md' fc : Nat} {st' rt' : zS} {v : α} (R : Rel st' rt' fc md') (h : md' ≤ md + 256) (hF : F = some (.inl v, st')) (hG : G = some (.inl v, rt')) (h0 : rt' 0 0 = nI 0) : Ok F G md := ⟨st', rt', fc, md', R, h, Or.inl ⟨v, hF, hG, h0⟩⟩
theorem ok_iae {α : Type} {F G : zF α} {md fc : Nat} {st' rt : zS} {v : α} (R : Rel st' rt fc md) (hF : F = some (.inr true, st')) (hG : G = some (.inl v, upA rt 0 (upd (rt 0) 0 (1 : Int32)))) : Ok F G md := ⟨st', _, fc, md, Rel_code R 1, by omega, Or.inr ⟨true, v, hF, hG, by rw [code_at]; rfl⟩⟩
theorem ok_ise {α : Type} {F G : zF α} {md fc : Nat} {st' rt : zS} {v : α} (R : Rel st' rt fc md) (hF : F = some (.inr false, st')) (hG : G = some (.inl v, upA rt 0 (upd (rt 0) 0 (2 : Int32)))) : Ok F G md := ⟨st', _, fc, md, Rel_code R 2, by omega, Or.inr ⟨false, v, hF, hG, by rw [code_at]; rfl⟩⟩
theorem ok_length {n fc md : Nat} {i : Int32} {st rt : zS} (R : Rel st rt fc md) : Ok (fX2_length n i st) (fX3_length n i rt) md := by
  unfold fX2_length fX3_length
  rw [zl_s]
  rcases there_cases (n := n) R i with ⟨a, ha, rfl, ht, hA, hT, hAt⟩ | ⟨hA, hT, hAt⟩
  · rw [hT, zb_s, if_neg (by decide), if_pos ((inb_nI (by omega)).mpr ha), hA _ (upA_n (by decide)), zb_s, if_neg (by decide), if_pos (by rw [ml_2]; exact (inb_nI (by omega)).mpr ha), ncl (by omega), R.len ha ht, upA_n (k := 2) (by decide), R.lenR ha ht]
    exact ok_inl (Rel_code R 0) (by omega) rfl rfl code_at
  · rw [hT, zb_s, if_pos rfl, hA _ (upA_n (by decide)), zb_s, if_pos rfl]
    exact ok_inl (Rel_code R 0) (by omega) rfl rfl code_at
theorem ok_made {n fc md : Nat} {st rt : zS} (R : Rel st rt fc md) : Ok (fX2_made n st) (fX3_made n rt) md := by
  unfold fX2_made fX3_made
  rw [zl_s, upA_s, R.md, show upd (rt 0) 0 0 6 = rt 0 6 from rfl, R.mr.2.2.1]
  exact ok_inl (Rel_code R 0) (by omega) rfl rfl code_at
theorem Rel_5 {st rt : zS} {fc md : Nat} {g : Nat → Int32} (R : Rel st rt fc md) : Rel st (upA rt 5 g) fc md := Rel_c R (fun _ _ _ _ => rfl) (upA_n (by decide)) (upA_n (by decide)) (fun _ _ => by rw [upA_n (by decide)]) (fun _ _ => by rw [upA_n (by decide)]) (by rw [upA_n (by decide)])
theorem ok_used {n fc md : Nat} {st rt : zS} (R : Rel st rt fc md) (hn : 200000 ≤ n) : Ok (fX2_used n st) (fX3_used n rt) md := by
  have R0 := Rel_code R 0
  obtain ⟨g, c1, c2⟩ := f_countAll R0.mr hn
  have hfc := R0.fc
  unfold fX2_used fX3_used
  rw [zl_s, c1, zb_s, R.pi.1, li512, nsb (by omega), show 512 - fc = dst (fR (upA rt 0 (upd (rt 0) 0 0))) 4096 by omega]
  exact ok_inl (Rel_5 R0) (by omega) rfl rfl (by rw [upA_n (by decide), code_at]; rfl)
