/-! sum, bound, find, difference -/
theorem PI.okq {st : zS} {fc a q : Nat} (P : PI st fc) (ha : a < 16) (hq : q < 256) : okp (st (9 + a + 16) q) := by rw [← fC_at (st := st) (a := a) hq]; exact P.2.1 _ (lt4k ha hq)
theorem f_rd {n fc a K F T A : Nat} {st : zS} (P : PI st fc) (ha : a < 16) (hK : K = 6 ∨ K = 7) (hft : F ≤ T) (ht : T ≤ 4096) (hA : A + (T - F) ≤ 4096) (hn : 200000 ≤ n) :
    fX2_readValues n (9 + a) (nI F) (nI T) K (nI A) st = some (.inl (), upA st K (fun j => if A ≤ j ∧ j < A + (T - F) then VR st (9 + a) (F + (j - A)) else st K j)) :=
  f_readValues (by omega) hK hft ht hA (by omega) (fun q hq => P.okq ha (by unfold lf at hq; omega))
theorem Rel_67 {st rt : zS} {fc md K : Nat} {g : Nat → Int32} (R : Rel st rt fc md) (hK : K = 6 ∨ K = 7) : Rel (upA st K g) rt fc md := Rel_c R (fun x h6 h7 _ => upA_n (by rcases hK with rfl | rfl <;> assumption)) rfl rfl (fun _ _ => rfl) (fun _ _ => rfl) rfl
def sumv (v : Nat → Int32) : Nat → Nat → Int64 → Int64
  | 0, _, s => s
  | d + 1, i, s => sumv v d (i + 1) (s + (v i).toInt64)
theorem sumv_c {v w : Nat → Int32} : ∀ (d i : Nat) (s : Int64), (∀ j, i ≤ j → j < i + d → v j = w j) → sumv v d i s = sumv w d i s := by
  intro d
  induction d with
  | zero => intro i s _; rfl
  | succ d ih => intro i s h; rw [sumv, sumv, h i (by omega) (by omega), ih _ _ (fun j h1 h2 => h j (by omega) (by omega))]
theorem sum_C {n T : Nat} {X : Int64 → zS → zF Int64} {st : zS} (hT : T ≤ 4096) : ∀ (d q i : Nat) (s : Int64), d < q → i + d = T → fX2_sum_33 n X q (nI T) s (nI i) st = X (sumv (st 6) d i s) st := by
  have h6 := al_6
  intro d
  induction d with
  | zero =>
    intro q i s hq e
    obtain ⟨q, rfl⟩ : ∃ z, q = z + 1 := ⟨q - 1, by omega⟩
    rw [fX2_sum_33, if_pos (by rw [nle (by omega) (by omega)]; omega)]; rfl
  | succ d ih =>
    intro q i s hq e
    obtain ⟨q, rfl⟩ : ∃ z, q = z + 1 := ⟨q - 1, by omega⟩
    rw [fX2_sum_33, if_neg (by rw [nle (by omega) (by omega)]; omega), if_pos ((inb_nI (by omega)).mpr (by omega)), ncl (by omega), li1, nad, ih q (i + 1) _ (by omega) (by omega)]; rfl
theorem sum_R {n T a : Nat} {X : Int64 → zS → zF Int64} {st : zS} (ha : a < 16) (hT : T ≤ 4096) : ∀ (d q i : Nat) (s : Int64), d < q → i + d = T → fX3_sum_31 n X q (nI a) (nI T) s (nI i) st = X (sumv (fun j => st 3 (a * 4096 + j)) d i s) st := by
  have h3 := ml_3
  intro d
  induction d with
  | zero =>
    intro q i s hq e
    obtain ⟨q, rfl⟩ : ∃ z, q = z + 1 := ⟨q - 1, by omega⟩
    rw [fX3_sum_31, if_pos (by rw [nle (by omega) (by omega)]; omega)]; rfl
  | succ d ih =>
    intro q i s hq e
    obtain ⟨q, rfl⟩ : ∃ z, q = z + 1 := ⟨q - 1, by omega⟩
    rw [fX3_sum_31, if_neg (by rw [nle (by omega) (by omega)]; omega), li4096, nml, nad, if_pos ((inb_nI (by omega)).mpr (by omega)), ncl (by omega), li1, nad, ih q (i + 1) _ (by omega) (by omega), Nat.mul_comm 4096 a]; rfl
theorem ok_sum {n fc md : Nat} {i f t : Int32} {st rt : zS} (R : Rel st rt fc md) (hn : 200000 ≤ n) : Ok (fX2_sum n i f t st) (fX3_sum n i f t rt) md := by
  rcases part_cases (n := n) R i f t with ⟨a, F, T, ha, rfl, ht, rfl, rfl, hFT, hT, hP, hAt, hC⟩ | ⟨hP, hO⟩
  · have hm := R.le ha ht
    refine ok_inl (Rel_code (Rel_67 (K := 6) (g := fun j => if F ≤ j ∧ j < F + (T - F) then VR st (9 + a) (F + (j - F)) else st 6 j) R (Or.inl rfl)) 0) (by omega) (v := sumv (fun j => rt 3 (a * 4096 + j)) (T - F) F 0) ?_ ?_ code_at
    · unfold fX2_sum
      rw [hAt, zb_s, hC, zb_s, f_rd R.pi ha (Or.inl rfl) hFT (by omega) (by omega) hn, zb_s, sum_C (by omega) (T - F) n F 0 (by omega) (by omega), upA_s]
      rw [sumv_c (T - F) F 0 (fun j h1 h2 => ?_)]
      rw [if_pos (by omega), show F + (j - F) = j by omega, R.val ha ht (by omega)]
    · unfold fX3_sum
      rw [hP, zb_s, if_neg (by decide), f_ref0, zb_s, if_pos rfl, sum_R ha (by omega) (T - F) n F 0 (by omega) (by omega), upA_n (by decide)]
  · refine ok_iae R (v := (0 : Int64)) ?_ ?_
    · unfold fX2_sum
      rcases hO with h | ⟨a, h1, h2⟩
      · rw [h, zb_t]
      · rw [h1, zb_s, h2, zb_t]
    · unfold fX3_sum
      rw [hP, zb_s, if_pos rfl, f_ref1, zb_s, if_neg (by decide)]
def bndv (v : Nat → Int32) (w : Int32) : Nat → Nat → Int32 → Int32
  | 0, _, s => s
  | d + 1, i, s => bndv v w d (i + 1) (if w = 0 then (if s ≤ v i then s else v i) else (if v i ≤ s then s else v i))
theorem bndv_c {v u : Nat → Int32} {w : Int32} : ∀ (d i : Nat) (s : Int32), (∀ j, i ≤ j → j < i + d → v j = u j) → bndv v w d i s = bndv u w d i s := by
  intro d
  induction d with
  | zero => intro i s _; rfl
  | succ d ih => intro i s h; rw [bndv, bndv, h i (by omega) (by omega), ih _ _ (fun j h1 h2 => h j (by omega) (by omega))]
theorem bnd_C {n T : Nat} {w : Int32} {X : Int32 → zS → zF Int32} {st : zS} (hT : T ≤ 4096) : ∀ (d q i : Nat) (s : Int32), d < q → i + d = T → fX2_bound_65 n X q (nI T) w s (nI i) st = X (bndv (st 6) w d i s) st := by
  have h6 := al_6
  intro d
  induction d with
  | zero =>
    intro q i s hq e
    obtain ⟨q, rfl⟩ : ∃ z, q = z + 1 := ⟨q - 1, by omega⟩
    rw [fX2_bound_65, if_pos (by rw [nle (by omega) (by omega)]; omega)]; rfl
  | succ d ih =>
    intro q i s hq e
    obtain ⟨q, rfl⟩ : ∃ z, q = z + 1 := ⟨q - 1, by omega⟩
    rw [fX2_bound_65, if_neg (by rw [nle (by omega) (by omega)]; omega), if_pos ((inb_nI (by omega)).mpr (by omega)), ncl (by omega), li1, nad, bndv]
    by_cases hw : w = 0
    · rw [if_pos hw, if_pos hw, ih q (i + 1) _ (by omega) (by omega)]
      by_cases c : st 6 i < s
      · rw [if_pos c, if_neg (Int32.not_le.mpr c)]
      · rw [if_neg c, if_pos (Int32.not_lt.mp c)]
    · rw [if_neg hw, if_neg hw, if_pos ((inb_nI (by omega)).mpr (by omega)), ih q (i + 1) _ (by omega) (by omega)]
      by_cases c : s < st 6 i
      · rw [if_pos c, if_neg (Int32.not_le.mpr c)]
      · rw [if_neg c, if_pos (Int32.not_lt.mp c)]
theorem bnd_R {n T a : Nat} {w : Int32} {X : Int32 → zS → zF Int32} {st : zS} (ha : a < 16) (hT : T ≤ 4096) : ∀ (d q i : Nat) (s : Int32), d < q → i + d = T → fX3_bound_53 n X q (nI a) (nI T) w s (nI i) st = X (bndv (fun j => st 3 (a * 4096 + j)) w d i s) st := by
  have h3 := ml_3
  intro d
  induction d with
  | zero =>
    intro q i s hq e
    obtain ⟨q, rfl⟩ : ∃ z, q = z + 1 := ⟨q - 1, by omega⟩
    rw [fX3_bound_53, if_pos (by rw [nle (by omega) (by omega)]; omega)]; rfl
  | succ d ih =>
    intro q i s hq e
    obtain ⟨q, rfl⟩ : ∃ z, q = z + 1 := ⟨q - 1, by omega⟩
    rw [fX3_bound_53, if_neg (by rw [nle (by omega) (by omega)]; omega), li4096, nml, nad, if_pos ((inb_nI (by omega)).mpr (by omega)), ncl (by omega), li1, nad, Nat.mul_comm 4096 a, bndv]
    by_cases hw : w = 0
    · rw [if_pos hw, if_pos hw]
      by_cases c : s ≤ st 3 (a * 4096 + i)
      · rw [if_pos c, if_pos c, ih q (i + 1) _ (by omega) (by omega)]
      · rw [if_neg c, if_neg c, ih q (i + 1) _ (by omega) (by omega)]
    · rw [if_neg hw, if_neg hw]
      by_cases c : st 3 (a * 4096 + i) ≤ s
      · rw [if_pos c, if_pos c, ih q (i + 1) _ (by omega) (by omega)]
      · rw [if_neg c, if_neg c, ih q (i + 1) _ (by omega) (by omega)]
theorem bound_22 {n : Nat} {i1 i2 i3 i4 : Int32} {rt : zS} : fX3_bound_22 n i1 i2 i3 i4 rt = some (.inl (0 : Int32), upA rt 0 (upd (rt 0) 0 (1 : Int32))) := by
  unfold fX3_bound_22 fX3_bound_27
  rw [f_ref1, zb_s, if_neg (by decide)]
theorem ok_bound {n fc md : Nat} {i f t w : Int32} {st rt : zS} (R : Rel st rt fc md) (hn : 200000 ≤ n) : Ok (fX2_bound n i f t w st) (fX3_bound n i f t w rt) md := by
  rcases part_cases (n := n) R i f t with ⟨a, F, T, ha, rfl, ht, rfl, rfl, hFT, hT, hP, hAt, hC⟩ | ⟨hP, hO⟩
  · have hm := R.le ha ht
    have go : (w = 0 ∨ w = 1) → Ok (fX2_bound n (nI a) (nI F) (nI T) w st) (fX3_bound n (nI a) (nI F) (nI T) w rt) md := by
      intro hw
      refine ok_inl (Rel_code (Rel_67 (K := 6) (g := fun j => if F ≤ j ∧ j < F + (T - F) then VR st (9 + a) (F + (j - F)) else st 6 j) R (Or.inl rfl)) 0) (by omega) (v := bndv (fun j => rt 3 (a * 4096 + j)) w (T - F) F (if w = 0 then 2147483647 else -2147483648)) ?_ ?_ code_at
      · have hcl : fX2_bound_35 n (nI F) (nI T) w (9 + a) st = some (.inl (bndv (fun j => rt 3 (a * 4096 + j)) w (T - F) F (if w = 0 then 2147483647 else -2147483648)), upA st 6 (fun j => if F ≤ j ∧ j < F + (T - F) then VR st (9 + a) (F + (j - F)) else st 6 j)) := by
          have vc : ∀ s, bndv (fun j => if F ≤ j ∧ j < F + (T - F) then VR st (9 + a) (F + (j - F)) else st 6 j) w (T - F) F s = bndv (fun j => rt 3 (a * 4096 + j)) w (T - F) F s := fun s => bndv_c (T - F) F s (fun j h1 h2 => by
            show (if F ≤ j ∧ j < F + (T - F) then VR st (9 + a) (F + (j - F)) else st 6 j) = _
            rw [if_pos (by omega), show F + (j - F) = j by omega, R.val ha ht (by omega)])
          unfold fX2_bound_35
          rw [f_rd R.pi ha (Or.inl rfl) hFT (by omega) (by omega) hn, zb_s]
          by_cases h0 : w = 0
          · rw [if_pos h0, if_pos h0, bnd_C (by omega) (T - F) n F _ (by omega) (by omega), upA_s, vc]
          · rw [if_neg h0, if_neg h0, bnd_C (by omega) (T - F) n F _ (by omega) (by omega), upA_s, vc]
        unfold fX2_bound
        rw [hAt, zb_s, hC, zb_s]
        rcases hw with h | h
        · rw [if_pos h, hcl]
        · rw [if_neg (by rw [h]; decide), if_pos h, hcl]
      · unfold fX3_bound
        rw [hP, zb_s, if_neg (by decide), if_neg (by rcases hw with rfl | rfl <;> decide), if_pos (by rcases hw with rfl | rfl <;> decide)]
        unfold fX3_bound_27
        rw [f_ref0, zb_s, if_pos rfl]
        by_cases h0 : w = 0
        · rw [if_pos h0, if_pos h0, bnd_R ha (by omega) (T - F) n F _ (by omega) (by omega), upA_n (k := 3) (by decide)]
        · rw [if_neg h0, if_neg h0, bnd_R ha (by omega) (T - F) n F _ (by omega) (by omega), upA_n (k := 3) (by decide)]
    have no : w ≠ 0 → w ≠ 1 → fX3_bound n (nI a) (nI F) (nI T) w rt = some (.inl (0 : Int32), upA rt 0 (upd (rt 0) 0 (1 : Int32))) → Ok (fX2_bound n (nI a) (nI F) (nI T) w st) (fX3_bound n (nI a) (nI F) (nI T) w rt) md := by
      intro h0 h1 hG
      refine ok_iae R (v := (0 : Int32)) ?_ hG
      unfold fX2_bound
      rw [hAt, zb_s, hC, zb_s, if_neg h0, if_neg h1]
    rcases i_cases w with hw | ⟨hw, k, hk, rfl⟩
    · refine no (fun z => by rw [z] at hw; exact absurd hw (by decide)) (fun z => by rw [z] at hw; exact absurd hw (by decide)) ?_
      unfold fX3_bound
      rw [hP, zb_s, if_neg (by decide), if_pos hw, bound_22]
    · by_cases h : k ≤ 1
      · refine go ?_
        have : k = 0 ∨ k = 1 := by omega
        rcases this with rfl | rfl
        · exact Or.inl rfl
        · exact Or.inr rfl
      · refine no (fun z => ?_) (fun z => ?_) ?_
        · rw [li0, neq (by omega) (by omega)] at z; omega
        · rw [li1, neq (by omega) (by omega)] at z; omega
        · unfold fX3_bound
          rw [hP, zb_s, if_neg (by decide), if_neg hw, if_neg (by rw [li1, nle (by omega) (by omega)]; omega), bound_22]
  · refine ok_iae R (v := (0 : Int32)) ?_ ?_
    · unfold fX2_bound
      rcases hO with h | ⟨a, h1, h2⟩
      · rw [h, zb_t]
      · rw [h1, zb_s, h2, zb_t]
    · unfold fX3_bound
      rw [hP, zb_s, if_pos rfl, bound_22]
