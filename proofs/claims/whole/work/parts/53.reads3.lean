/-! find, difference -/
def fndv (v : Nat → Int32) (x : Int32) : Nat → Nat → Option Nat
  | 0, _ => none
  | d + 1, i => if v i = x then some i else fndv v x d (i + 1)
theorem fndv_c {v u : Nat → Int32} {x : Int32} : ∀ (d i : Nat), (∀ j, i ≤ j → j < i + d → v j = u j) → fndv v x d i = fndv u x d i := by
  intro d
  induction d with
  | zero => intro i _; rfl
  | succ d ih => intro i h; rw [fndv, fndv, h i (by omega) (by omega), ih _ (fun j h1 h2 => h j (by omega) (by omega))]
def fout (X : zS → zF Int32) (Y : Int32 → zS → zF Int32) (st : zS) : Option Nat → zF Int32
  | none => X st
  | some j => Y (nI j) st
theorem fnd_C {n a m : Nat} {x : Int32} {X : zS → zF Int32} {Y : Int32 → zS → zF Int32} {st : zS} (em : st (9 + a) 3 = nI m) (hm : m ≤ 4096) : ∀ (d q i : Nat), d < q → i + d = m → fX2_find_38 n X Y q x (9 + a) (nI i) st = fout X Y st (fndv (st 6) x d i) := by
  have h6 := al_6
  intro d
  induction d with
  | zero =>
    intro q i hq e
    obtain ⟨q, rfl⟩ : ∃ z, q = z + 1 := ⟨q - 1, by omega⟩
    rw [fX2_find_38, em, if_pos (by rw [nle (by omega) (by omega)]; omega)]; rfl
  | succ d ih =>
    intro q i hq e
    obtain ⟨q, rfl⟩ : ∃ z, q = z + 1 := ⟨q - 1, by omega⟩
    rw [fX2_find_38, em, if_neg (by rw [nle (by omega) (by omega)]; omega), if_pos ((inb_nI (by omega)).mpr (by omega)), ncl (by omega), li1, nad, fndv]
    by_cases c : st 6 i = x
    · rw [if_pos c, if_pos c]; rfl
    · rw [if_neg c, if_neg c, ih q (i + 1) (by omega) (by omega)]
theorem fnd_R {n a m : Nat} {x : Int32} {X : zS → zF Int32} {Y : Int32 → zS → zF Int32} {st : zS} (ha : a < 16) (em : st 2 a = nI m) (hm : m ≤ 4096) : ∀ (d q i : Nat), d < q → i + d = m → fX3_find_40 n X Y q (nI a) x (nI i) st = fout X Y st (fndv (fun j => st 3 (a * 4096 + j)) x d i) := by
  have h2 := ml_2
  have h3 := ml_3
  intro d
  induction d with
  | zero =>
    intro q i hq e
    obtain ⟨q, rfl⟩ : ∃ z, q = z + 1 := ⟨q - 1, by omega⟩
    rw [fX3_find_40, if_pos ((inb_nI (by omega)).mpr (by omega)), ncl (by omega), em, if_pos (by rw [nle (by omega) (by omega)]; omega)]; rfl
  | succ d ih =>
    intro q i hq e
    obtain ⟨q, rfl⟩ : ∃ z, q = z + 1 := ⟨q - 1, by omega⟩
    rw [fX3_find_40, if_pos ((inb_nI (by omega)).mpr (by omega)), ncl (by omega), em, if_neg (by rw [nle (by omega) (by omega)]; omega), li4096, nml, nad, if_pos ((inb_nI (by omega)).mpr (by omega)), ncl (by omega), li1, nad, Nat.mul_comm 4096 a, fndv]
    by_cases c : st 3 (a * 4096 + i) = x
    · rw [if_pos c, if_pos c]; rfl
    · rw [if_neg c, if_neg c, ih q (i + 1) (by omega) (by omega)]
def fans : Option Nat → Int32
  | none => -1
  | some j => nI j
theorem fout_ans {st : zS} {o : Option Nat} : fout (fun st => some (.inl ((-1) : Int32), st)) (fun (i : Int32) (st : zS) => some (.inl i, st)) st o = some (.inl (fans o), st) := by cases o <;> rfl
theorem ok_find {n fc md : Nat} {i f x : Int32} {st rt : zS} (R : Rel st rt fc md) (hn : 200000 ≤ n) : Ok (fX2_find n i f x st) (fX3_find n i f x rt) md := by
  rcases there_cases (n := n) R i with ⟨a, ha, rfl, ht, hA, hT, hAt⟩ | ⟨hA, hT, hAt⟩
  · have hm := R.le ha ht
    have e1 := R.len ha ht
    have hb2 : inb (nI a) (ml 2) := by rw [ml_2]; exact (inb_nI (by omega)).mpr ha
    rcases i_cases f with hf | ⟨hf, F, hF, rfl⟩
    · refine ok_iae R (v := (0 : Int32)) ?_ ?_
      · unfold fX2_find fX2_checkRange
        rw [hAt, zb_s, if_pos hf, zb_t]
      · unfold fX3_find
        rw [hA rt rfl, zb_s, if_neg (by decide), if_pos hf, f_ref1, zb_s, if_neg (by decide)]
    · by_cases h : F ≤ LR rt a
      · refine ok_inl (Rel_code (Rel_67 (K := 6) (g := fun j => if F ≤ j ∧ j < F + (LR rt a - F) then VR st (9 + a) (F + (j - F)) else st 6 j) R (Or.inl rfl)) 0) (by omega) (v := fans (fndv (fun j => rt 3 (a * 4096 + j)) x (LR rt a - F) F)) ?_ ?_ code_at
        · unfold fX2_find
          rw [hAt, zb_s, e1]
          have hC : fX2_checkRange n (9 + a) (nI F) (nI (LR rt a)) st = some (.inl (), st) := by
            unfold fX2_checkRange
            rw [if_neg hf, if_neg (by rw [nlt (by omega) (by omega)]; omega), e1, if_pos (by rw [nle (by omega) (by omega)]; omega)]
          rw [hC, zb_s, e1, f_rd R.pi ha (Or.inl rfl) h (by omega) (by omega) hn, zb_s, fnd_C (m := LR rt a) (by rw [upA_n (by omega)]; exact e1) (by omega) (LR rt a - F) n F (by omega) (by omega), fout_ans, upA_s, fndv_c (LR rt a - F) F (fun j h1 h2 => ?_)]
          rw [if_pos (by omega), show F + (j - F) = j by omega, R.val ha ht (by omega)]
        · unfold fX3_find
          rw [hA rt rfl, zb_s, if_neg (by decide), if_neg hf, if_pos hb2, ncl (by omega), R.lenR ha ht, if_pos (by rw [nle (by omega) (by omega)]; exact h), f_ref0, zb_s, if_pos rfl, fnd_R (m := LR rt a) ha (by rw [upA_n (by decide)]; exact R.lenR ha ht) (by omega) (LR rt a - F) n F (by omega) (by omega), fout_ans, upA_n (k := 3) (by decide)]
      · refine ok_iae R (v := (0 : Int32)) ?_ ?_
        · unfold fX2_find
          have hC : fX2_checkRange n (9 + a) (nI F) (st (9 + a) 3) st = some (.inr true, st) := by
            unfold fX2_checkRange
            rw [if_neg hf, e1, if_pos (by rw [nlt (by omega) (by omega)]; omega)]
          rw [hAt, zb_s, hC, zb_t]
        · unfold fX3_find
          rw [hA rt rfl, zb_s, if_neg (by decide), if_neg hf, if_pos hb2, ncl (by omega), R.lenR ha ht, if_neg (by rw [nle (by omega) (by omega)]; exact h), f_ref1, zb_s, if_neg (by decide)]
  · refine ok_iae R (v := (0 : Int32)) ?_ ?_
    · unfold fX2_find
      rw [hAt, zb_t]
    · unfold fX3_find
      rw [hA rt rfl, zb_s, if_pos rfl, f_ref1, zb_s, if_neg (by decide)]
def difv (v w : Nat → Int32) : Nat → Nat → Option Nat
  | 0, _ => none
  | d + 1, i => if v i = w i then difv v w d (i + 1) else some i
theorem difv_c {v u v' u' : Nat → Int32} : ∀ (d i : Nat), (∀ j, i ≤ j → j < i + d → v j = v' j ∧ u j = u' j) → difv v u d i = difv v' u' d i := by
  intro d
  induction d with
  | zero => intro i _; rfl
  | succ d ih => intro i h; rw [difv, difv, (h i (by omega) (by omega)).1, (h i (by omega) (by omega)).2, ih _ (fun j h1 h2 => h j (by omega) (by omega))]
theorem dif_C {n m : Nat} {r r' : Nat} {X : Nat → Nat → Int32 → zS → zF Int32} {Y : Int32 → zS → zF Int32} {st : zS} (hm : m ≤ 4096) : ∀ (d q i : Nat), d < q → i + d = m → fX2_difference_62 n X Y q r r' (nI m) (nI i) st = fout (X r r' (nI m)) Y st (difv (st 6) (st 7) d i) := by
  have h6 := al_6
  have h7 := al_7
  intro d
  induction d with
  | zero =>
    intro q i hq e
    obtain ⟨q, rfl⟩ : ∃ z, q = z + 1 := ⟨q - 1, by omega⟩
    rw [fX2_difference_62, if_pos (by rw [nle (by omega) (by omega)]; omega)]; rfl
  | succ d ih =>
    intro q i hq e
    obtain ⟨q, rfl⟩ : ∃ z, q = z + 1 := ⟨q - 1, by omega⟩
    rw [fX2_difference_62, if_neg (by rw [nle (by omega) (by omega)]; omega), if_pos ((inb_nI (by omega)).mpr (by omega)), if_pos ((inb_nI (by omega)).mpr (by omega)), ncl (by omega), li1, nad, difv]
    by_cases c : st 6 i = st 7 i
    · rw [if_pos c, if_pos c, ih q (i + 1) (by omega) (by omega)]
    · rw [if_neg c, if_neg c]; rfl
theorem dif_R {n a b m : Nat} {X : Int32 → Int32 → Int32 → zS → zF Int32} {Y : Int32 → zS → zF Int32} {st : zS} (ha : a < 16) (hb : b < 16) (hm : m ≤ 4096) : ∀ (d q i : Nat), d < q → i + d = m → fX3_difference_65 n X Y q (nI a) (nI b) (nI m) (nI i) st = fout (X (nI a) (nI b) (nI m)) Y st (difv (fun j => st 3 (a * 4096 + j)) (fun j => st 3 (b * 4096 + j)) d i) := by
  have h3 := ml_3
  intro d
  induction d with
  | zero =>
    intro q i hq e
    obtain ⟨q, rfl⟩ : ∃ z, q = z + 1 := ⟨q - 1, by omega⟩
    rw [fX3_difference_65, if_pos (by rw [nle (by omega) (by omega)]; omega)]; rfl
  | succ d ih =>
    intro q i hq e
    obtain ⟨q, rfl⟩ : ∃ z, q = z + 1 := ⟨q - 1, by omega⟩
    rw [fX3_difference_65, if_neg (by rw [nle (by omega) (by omega)]; omega), li4096, nml, nad, nml, nad, if_pos ((inb_nI (by omega)).mpr (by omega)), if_pos ((inb_nI (by omega)).mpr (by omega)), ncl (show 4096 * a + i < 2147483648 by omega), ncl (show 4096 * b + i < 2147483648 by omega), li1, nad, Nat.mul_comm 4096 a, Nat.mul_comm 4096 b, difv]
    by_cases c : st 3 (a * 4096 + i) = st 3 (b * 4096 + i)
    · rw [if_pos c, if_pos c, ih q (i + 1) (by omega) (by omega)]
    · rw [if_neg c, if_neg c]; rfl
theorem difference_17 {n : Nat} {i1 i2 : Int32} {rt : zS} : fX3_difference_17 n i1 i2 rt = some (.inl (0 : Int32), upA rt 0 (upd (rt 0) 0 (1 : Int32))) := by
  unfold fX3_difference_17 fX3_difference_22
  rw [f_ref1, zb_s, if_neg (by decide)]
def dans (m m' : Nat) (o : Option Nat) : Int32 := match o with
  | none => if m = m' then -1 else nI (if m' < m then m' else m)
  | some j => nI j
theorem ok_difference {n fc md : Nat} {i j : Int32} {st rt : zS} (R : Rel st rt fc md) (hn : 200000 ≤ n) : Ok (fX2_difference n i j st) (fX3_difference n i j rt) md := by
  rcases there_cases (n := n) R i with ⟨a, ha, rfl, ht, hA, hT, hAt⟩ | ⟨hA, hT, hAt⟩
  · rcases there_cases (n := n) R j with ⟨b, hb, rfl, hbt, hB, hTb, hBt⟩ | ⟨hB, hTb, hBt⟩
    · have hm := R.le ha ht
      have hm' := R.le hb hbt
      have e1 := R.len ha ht
      have e2 := R.len hb hbt
      have r1 := R.lenR ha ht
      have r2 := R.lenR hb hbt
      have hia : inb (nI a) (ml 2) := by rw [ml_2]; exact (inb_nI (by omega)).mpr ha
      have hib : inb (nI b) (ml 2) := by rw [ml_2]; exact (inb_nI (by omega)).mpr hb
      have R1 : Rel (upA st 6 (fun j => if 0 ≤ j ∧ j < 0 + (LR rt a - 0) then VR st (9 + a) (0 + (j - 0)) else st 6 j)) rt fc md := Rel_67 R (Or.inl rfl)
      generalize hs : upA st 6 (fun j => if 0 ≤ j ∧ j < 0 + (LR rt a - 0) then VR st (9 + a) (0 + (j - 0)) else st 6 j) = s at R1
      have R2 : Rel (upA s 7 (fun j => if 0 ≤ j ∧ j < 0 + (LR rt b - 0) then VR s (9 + b) (0 + (j - 0)) else s 7 j)) rt fc md := Rel_67 R1 (Or.inr rfl)
      generalize hs2 : upA s 7 (fun j => if 0 ≤ j ∧ j < 0 + (LR rt b - 0) then VR s (9 + b) (0 + (j - 0)) else s 7 j) = s2 at R2
      have mm : (if nI (LR rt b) < nI (LR rt a) then nI (LR rt b) else nI (LR rt a)) = nI (if LR rt b < LR rt a then LR rt b else LR rt a) := by
        by_cases c : LR rt b < LR rt a
        · rw [if_pos (by rw [nlt (by omega) (by omega)]; exact c), if_pos c]
        · rw [if_neg (by rw [nlt (by omega) (by omega)]; exact c), if_neg c]
      have hmin : (if LR rt b < LR rt a then LR rt b else LR rt a) ≤ 4096 := by split <;> omega
      have hminl : ∀ q, q < (if LR rt b < LR rt a then LR rt b else LR rt a) → q < LR rt a ∧ q < LR rt b := fun q hq => by split at hq <;> omega
      refine ok_inl (Rel_code R2 0) (by omega) (v := dans (LR rt a) (LR rt b) (difv (fun j => rt 3 (a * 4096 + j)) (fun j => rt 3 (b * 4096 + j)) (if LR rt b < LR rt a then LR rt b else LR rt a) 0)) ?_ ?_ code_at
      · unfold fX2_difference
        rw [hAt, zb_s, hBt, zb_s, e1, li0, f_rd R.pi ha (Or.inl rfl) (by omega) (by omega) (by omega) hn, zb_s, hs, R1.len hb hbt, f_rd R1.pi hb (Or.inr rfl) (by omega) (by omega) (by omega) hn, zb_s, hs2, R2.len ha ht, R2.len hb hbt, mm, dif_C hmin (if LR rt b < LR rt a then LR rt b else LR rt a) n 0 (by omega) (by omega)]
        have hd : difv (s2 6) (s2 7) (if LR rt b < LR rt a then LR rt b else LR rt a) 0 = difv (fun j => rt 3 (a * 4096 + j)) (fun j => rt 3 (b * 4096 + j)) (if LR rt b < LR rt a then LR rt b else LR rt a) 0 := by
          refine difv_c _ _ (fun q h1 h2 => ?_)
          obtain ⟨q1, q2⟩ := hminl q (by omega)
          refine ⟨?_, ?_⟩
          · show s2 6 q = rt 3 (a * 4096 + q)
            rw [← hs2, upA_n (by decide), ← hs, upA_s, if_pos (by omega), Nat.sub_zero, Nat.zero_add, R.val ha ht q1]
          · show s2 7 q = rt 3 (b * 4096 + q)
            rw [← hs2, upA_s, if_pos (by omega), Nat.sub_zero, Nat.zero_add, R1.val hb hbt q2]
        rw [hd]
        cases difv (fun j => rt 3 (a * 4096 + j)) (fun j => rt 3 (b * 4096 + j)) (if LR rt b < LR rt a then LR rt b else LR rt a) 0 with
        | some q => rfl
        | none =>
          show (if s2 (9 + a) 3 = s2 (9 + b) 3 then some (Sum.inl ((-1) : Int32), s2) else some (Sum.inl (nI (if LR rt b < LR rt a then LR rt b else LR rt a)), s2)) = some (Sum.inl (if LR rt a = LR rt b then (-1 : Int32) else nI (if LR rt b < LR rt a then LR rt b else LR rt a)), s2)
          rw [R2.len ha ht, R2.len hb hbt]
          by_cases c : LR rt a = LR rt b
          · rw [if_pos (by rw [neq (by omega) (by omega)]; exact c), if_pos c]
          · rw [if_neg (by rw [neq (by omega) (by omega)]; exact c), if_neg c]
      · have hend : ∀ o : Option Nat, ∀ M : Nat, M = (if LR rt b < LR rt a then LR rt b else LR rt a) → fout ((fun (i1 : Int32) (i2 : Int32) (i3 : Int32) (st : zS) => (if inb i1 (ml 2) then (if inb i2 (ml 2) then (if (st 2 (i1).toNatClampNeg) = (st 2 (i2).toNatClampNeg) then some (.inl ((-1) : Int32), st) else some (.inl i3, st)) else none) else none)) (nI a) (nI b) (nI M)) (fun (i4 : Int32) (st : zS) => some (.inl i4, st)) (upA rt 0 (upd (rt 0) 0 0)) o = some (.inl (dans (LR rt a) (LR rt b) o), upA rt 0 (upd (rt 0) 0 0)) := by
          intro o M hM
          cases o with
          | some q => rfl
          | none =>
            show (if inb (nI a) (ml 2) then (if inb (nI b) (ml 2) then (if (upA rt 0 (upd (rt 0) 0 0) 2 (nI a).toNatClampNeg) = (upA rt 0 (upd (rt 0) 0 0) 2 (nI b).toNatClampNeg) then some (.inl ((-1) : Int32), _) else some (.inl (nI M), _)) else none) else none) = some (Sum.inl (if LR rt a = LR rt b then (-1 : Int32) else nI (if LR rt b < LR rt a then LR rt b else LR rt a)), _)
            rw [if_pos hia, if_pos hib, ncl (by omega), ncl (by omega), upA_n (by decide), r1, r2, hM]
            by_cases c : LR rt a = LR rt b
            · rw [if_pos (by rw [neq (by omega) (by omega)]; exact c), if_pos c]
            · rw [if_neg (by rw [neq (by omega) (by omega)]; exact c), if_neg c]
        unfold fX3_difference
        rw [hA rt rfl, zb_s, if_neg (by decide), hB rt rfl, zb_s, if_neg (by decide)]
        unfold fX3_difference_22
        rw [f_ref0, zb_s, if_pos rfl, if_pos hia, if_pos hib, ncl (show a < 2147483648 by omega), ncl (show b < 2147483648 by omega), upA_n (k := 2) (by decide), r1, r2]
        by_cases c : LR rt b ≤ LR rt a
        · have em : LR rt b = (if LR rt b < LR rt a then LR rt b else LR rt a) := by split <;> omega
          rw [if_pos (by rw [nle (by omega) (by omega)]; exact c), if_pos hib, li0, dif_R ha hb (by omega) (LR rt b) n 0 (by omega) (by omega), upA_n (k := 3) (by decide), ← li0, hend _ _ em, ← em]
        · have em : LR rt a = (if LR rt b < LR rt a then LR rt b else LR rt a) := by split <;> omega
          rw [if_neg (by rw [nle (by omega) (by omega)]; exact c), if_pos hia, li0, dif_R ha hb (by omega) (LR rt a) n 0 (by omega) (by omega), upA_n (k := 3) (by decide), ← li0, hend _ _ em, ← em]
    · refine ok_iae R (v := (0 : Int32)) ?_ ?_
      · unfold fX2_difference; rw [hAt, zb_s, hBt, zb_t]
      · unfold fX3_difference; rw [hA rt rfl, zb_s, if_neg (by decide), hB rt rfl, zb_s, if_pos rfl, difference_17]
  · refine ok_iae R (v := (0 : Int32)) ?_ ?_
    · unfold fX2_difference; rw [hAt, zb_t]
    · unfold fX3_difference; rw [hA rt rfl, zb_s, if_pos rfl, difference_17]
