/-! set, fill, move, reverse -/
theorem zb_unit {F : zF Unit} : zb F (fun (_ : Unit) (u : zS) => some (.inl (), u)) = F := by
  match F with
  | none => rfl
  | some (.inl (), u) => rfl
  | some (.inr b, u) => rfl
theorem f_rl {n fc a m lo e : Nat} {st : zS} (P : PI st fc) (ha : a < 16) (em : st (9 + a) 3 = nI m) (hm : m ≤ 4096) (h1 : lo * 16 ≤ m) (h2 : lo ≤ e) (he : e ≤ 512) (hn : 200000 ≤ n) :
    fX2_readLeaves n (9 + a) (nI lo) (nI e) st = some (.inl (), upA st 6 (fun j => if lo * 16 ≤ j ∧ j < e * 16 ∧ j < m then VR st (9 + a) j else st 6 j)) := by
  unfold fX2_readLeaves
  rw [em, li16, nml, nml]
  have hmin : (if nI (e * 16) < nI m then nI (e * 16) else nI m) = nI (if e * 16 < m then e * 16 else m) := by
    by_cases c : e * 16 < m
    · rw [if_pos (by rw [nlt (by omega) (by omega)]; exact c), if_pos c]
    · rw [if_neg (by rw [nlt (by omega) (by omega)]; exact c), if_neg c]
  have hT : (if e * 16 < m then e * 16 else m) ≤ 4096 := by split <;> omega
  have hT2 : lo * 16 ≤ (if e * 16 < m then e * 16 else m) := by split <;> omega
  have hT3 : ∀ j, j < (if e * 16 < m then e * 16 else m) ↔ j < e * 16 ∧ j < m := fun j => by split <;> omega
  generalize (if e * 16 < m then e * 16 else m) = T at hmin hT hT2 hT3
  rw [hmin, f_rd P ha (Or.inl rfl) hT2 hT (by omega) hn, zb_s]
  refine congrArg (fun z => some (Sum.inl (), z)) (upA_c (fun j => ?_))
  by_cases c : lo * 16 ≤ j ∧ j < e * 16 ∧ j < m
  · rw [if_pos ⟨c.1, by have := (hT3 j).mpr c.2; omega⟩, if_pos c, show lo * 16 + (j - lo * 16) = j by omega]
  · rw [if_neg c, if_neg (fun z => c ⟨z.1, (hT3 j).mp (by omega)⟩)]
theorem f_takeRow {n a m : Nat} {rt : zS} (ha : a < 16) (em : rt 2 a = nI m) (hm : m ≤ 4096) (hn : 200000 ≤ n) : fX3_takeRow n (nI a) rt = some (.inl (), upA rt 6 (fun j => if j < m then rt 3 (a * 4096 + j) else rt 6 j)) := by
  have h2 := ml_2
  have h3 := ml_3
  have h6 := ml_6
  unfold fX3_takeRow
  rw [li0]
  have h := wr_loop (F := fun q i s => fX3_takeRow_2 n (fun st => some (.inl (), st)) q (nI a) (nI i) s) (X := fun st => some (.inl (), st)) (K := 6) (N := m) (b := 0) (val := fun i => rt 3 (a * 4096 + i)) (st := rt) ?_ ?_ n (by omega)
  · show fX3_takeRow_2 n _ n (nI a) (nI 0) rt = _
    rw [show fX3_takeRow_2 n _ n (nI a) (nI 0) rt = _ from h]
    refine congrArg (fun z => some (Sum.inl (), z)) (upA_c (fun j => ?_))
    by_cases c : j < m
    · rw [if_pos (by omega), if_pos c, Nat.sub_zero]
    · rw [if_neg (by omega), if_neg c]
  · intro q g _
    show fX3_takeRow_2 n _ (q + 1) (nI a) (nI m) _ = _
    rw [fX3_takeRow_2, if_pos ((inb_nI (by omega)).mpr (by omega)), ncl (by omega), upA_n (by decide), em, if_pos (by rw [nle (by omega) (by omega)]; omega)]
  · intro q i g hi _
    show fX3_takeRow_2 n _ (q + 1) (nI a) (nI i) _ = fX3_takeRow_2 n _ q (nI a) (nI (i + 1)) _
    rw [fX3_takeRow_2, if_pos ((inb_nI (by omega)).mpr (by omega)), ncl (by omega), upA_n (by decide), em, if_neg (by rw [nle (by omega) (by omega)]; omega), li4096, nml, nad, if_pos ((inb_nI (by omega)).mpr (by omega)), if_pos ((inb_nI (by omega)).mpr (by omega)), zl_s, li1, nad, ncl (by omega), ncl (by omega), upA_s, upA_n (by decide), upA_uu, Nat.mul_comm 4096 a, Nat.zero_add]
/-- from the two states before the change: W are the values that the array shall have -/
theorem ok_wr {n fc md a lo e : Nat} {st rt st2 rt2 : zS} {W : Nat → Int32} (R : Rel st rt fc md) (ha : a < 16) (ht : rt 1 a = 1) (hlo : lo ≤ e) (he : e ≤ lf (LR rt a)) (hn : 200000 ≤ n) (hmd : md + 256 ≤ 131072)
    (h : ∀ x, x ≠ 6 → x ≠ 7 → x ≠ 8 → st2 x = st x) (h1 : rt2 1 = rt 1) (h2 : rt2 2 = rt 2) (h3 : rt2 3 = rt 3) (h4 : rt2 4 = rt 4) (h0 : rt2 0 6 = rt 0 6)
    (hW : ∀ i, i < LR rt a → rt2 6 i = W i) (hW1 : ∀ i, i < LR rt a → lo * 16 ≤ i → i < e * 16 → W i = st2 6 i) (hW2 : ∀ i, i < LR rt a → i < lo * 16 ∨ e * 16 ≤ i → W i = VR st (9 + a) i) :
    Ok (fX2_changeLeaves n (9 + a) (nI lo) (nI e) st2) (fX3_change n (nI a) rt2) md := by
  have R2 : Rel st2 rt2 fc md := Rel_c R h h1 h2 (fun j _ => by rw [h3]) (fun j _ => by rw [h4]) h0
  exact ok_change R2 ha (by rw [h1]; exact ht) (congrFun (LR_c h2) a) hlo he hn hmd (fun i a1 a2 a3 => by rw [hW i a1]; exact hW1 i a1 a2 a3) (fun i a1 a2 => by rw [hW i a1, VR_c h]; exact hW2 i a1 a2)
theorem lf_mono {a b : Nat} (h : a ≤ b) : lf a ≤ lf b := by unfold lf; omega
theorem lf_16 (a : Nat) : a ≤ lf a * 16 := by unfold lf; omega
theorem f_fillV {n fc a F T m : Nat} {v : Int32} {st : zS} (P : PI st fc) (ha : a < 16) (em : st (9 + a) 3 = nI m) (hm : m ≤ 4096) (hFT : F ≤ T) (hT : T ≤ m) (hn : 200000 ≤ n) :
    ∃ st2, fX2_fillValues n (9 + a) (nI F) (nI T) v st = fX2_changeLeaves n (9 + a) (nI (F / 16)) (nI (lf T)) st2 ∧ (∀ x, x ≠ 6 → st2 x = st x) ∧ (∀ i, F / 16 * 16 ≤ i → i < lf T * 16 → i < m → st2 6 i = if F ≤ i ∧ i < T then v else VR st (9 + a) i) := by
  have h6 := al_6
  have hlf : lf T ≤ 256 := by unfold lf; omega
  unfold fX2_fillValues
  rw [f_leavesFor (by omega), zb_s, li16, ndv (by omega) (by omega) (by omega), f_rl P ha em hm (by omega) (by unfold lf; omega) (by omega) hn, zb_s, f_fill (by omega) hFT (by omega) (by omega), zb_s, zb_unit]
  refine ⟨_, rfl, fun x hx => by rw [upA_n hx, upA_n hx], fun i i1 i2 i3 => ?_⟩
  rw [upA_s, upA_s]
  by_cases c : F ≤ i ∧ i < T
  · rw [if_pos c, if_pos c]
  · rw [if_neg c, if_neg c, if_pos ⟨i1, i2, i3⟩]
theorem set_23 {n : Nat} {i1 i2 i3 : Int32} {rt : zS} : fX3_set_23 n i1 i2 i3 rt = some (.inl (), upA rt 0 (upd (rt 0) 0 (1 : Int32))) := by
  unfold fX3_set_23 fX3_set_28
  rw [f_ref1, zb_s, if_neg (by decide)]
theorem ok_set {n fc md : Nat} {i j v : Int32} {st rt : zS} (R : Rel st rt fc md) (hn : 200000 ≤ n) (hmd : md + 256 ≤ 131072) : Ok (fX2_set n i j v st) (fX3_set n i j v rt) md := by
  rcases index_cases (n := n) R i j with ⟨a, k, ha, rfl, ht, rfl, hk, hA, hAt, hC⟩ | ⟨a, ha, rfl, ht, hA, hj, hAt, hC⟩ | ⟨hA, hAt⟩
  · have hm := R.le ha ht
    have h6 := ml_6
    obtain ⟨st2, e1, e2, e3⟩ := f_fillV (n := n) (F := k) (T := k + 1) (v := v) R.pi ha (R.len ha ht) hm (by omega) (by omega) hn
    have F0 : fX2_set n (nI a) (nI k) v st = fX2_changeLeaves n (9 + a) (nI (k / 16)) (nI (lf (k + 1))) st2 := by
      unfold fX2_set
      rw [hAt, zb_s, hC, zb_s, li1, nad, e1, zb_unit]
    have G0 : fX3_set n (nI a) (nI k) v rt = fX3_change n (nI a) (upA (upA rt 0 (upd (rt 0) 0 0)) 6 (upd (fun j => if j < LR rt a then rt 3 (a * 4096 + j) else rt 6 j) k v)) := by
      unfold fX3_set
      rw [hA, zb_s, if_neg (by decide), if_neg (nI_nn (by omega)), if_pos (by rw [ml_2]; exact (inb_nI (by omega)).mpr ha), ncl (by omega), R.lenR ha ht, if_pos (by rw [nlt (by omega) (by omega)]; exact hk)]
      unfold fX3_set_28
      rw [f_ref0, zb_s, if_pos rfl, f_takeRow ha (by rw [upA_n (by decide)]; exact R.lenR ha ht) hm hn, zb_s, if_pos ((inb_nI (by omega)).mpr (by omega)), zl_s, zb_unit, ncl (by omega), upA_s (K := 6), upA_uu, upA_n (k := 3) (by decide), upA_n (k := 6) (by decide)]
    rw [F0, G0]
    refine ok_wr (W := fun i => if k ≤ i ∧ i < k + 1 then v else VR st (9 + a) i) R ha ht (by unfold lf; omega) (lf_mono (by omega)) hn hmd (fun x h6 _ _ => e2 x h6) ?_ ?_ ?_ ?_ ?_ ?_ ?_ ?_
    · rw [upA_n (by decide), upA_n (by decide)]
    · rw [upA_n (by decide), upA_n (by decide)]
    · rw [upA_n (by decide), upA_n (by decide)]
    · rw [upA_n (by decide), upA_n (by decide)]
    · rw [upA_n (by decide), upA_s]; rfl
    · intro i hi
      rw [upA_s]
      unfold upd
      by_cases c : i = k
      · rw [if_pos c, if_pos (by omega)]
      · rw [if_neg c, if_neg (by omega)]
        show (if i < LR rt a then rt 3 (a * 4096 + i) else rt 6 i) = _
        rw [if_pos hi, R.val ha ht hi]
    · intro i i1 i2 i3
      rw [e3 i i2 i3 i1]
    · intro i i1 i2
      have := lf_16 (k + 1)
      rw [if_neg (by omega)]
  · refine ok_iae R (v := ()) ?_ ?_
    · unfold fX2_set; rw [hAt, zb_s, hC, zb_t]
    · unfold fX3_set
      rw [hA, zb_s, if_neg (by decide)]
      rcases hj with hj | ⟨h1, h2⟩
      · rw [if_pos hj, set_23]
      · rw [if_neg h1, if_pos (by rw [ml_2]; exact (inb_nI (by omega)).mpr ha), ncl (by omega), R.lenR ha ht, if_neg h2, set_23]
  · refine ok_iae R (v := ()) ?_ ?_
    · unfold fX2_set; rw [hAt, zb_t]
    · unfold fX3_set; rw [hA, zb_s, if_pos rfl, set_23]
theorem f_fill32 {n a F T : Nat} {v : Int32} {X : Int32 → zS → zF Unit} {rt : zS} (hFT : F ≤ T) (hT : T ≤ 4096) (hn : 200000 ≤ n) :
    fX3_fill_32 n X n (nI a) (nI T) v (nI F) rt = X (nI a) (upA rt 6 (fun j => if F ≤ j ∧ j < F + (T - F) then v else rt 6 j)) := by
  have h6 := ml_6
  refine wr_loop (F := fun q i s => fX3_fill_32 n X q (nI a) (nI T) v (nI (F + i)) s) (X := fun s => X (nI a) s) (K := 6) (N := T - F) (b := F) (val := fun _ => v) (st := rt) ?_ ?_ n (by omega)
  · intro q g _
    show fX3_fill_32 n X (q + 1) (nI a) (nI T) v (nI (F + (T - F))) _ = _
    rw [fX3_fill_32, if_pos (by rw [nle (by omega) (by omega)]; omega)]
  · intro q i g hi _
    show fX3_fill_32 n X (q + 1) (nI a) (nI T) v (nI (F + i)) _ = fX3_fill_32 n X q (nI a) (nI T) v (nI (F + (i + 1))) _
    rw [fX3_fill_32, if_neg (by rw [nle (by omega) (by omega)]; omega), if_pos ((inb_nI (by omega)).mpr (by omega)), zl_s, li1, nad, ncl (by omega), upA_s, upA_uu, Nat.add_assoc]
theorem ok_fill {n fc md : Nat} {i f t v : Int32} {st rt : zS} (R : Rel st rt fc md) (hn : 200000 ≤ n) (hmd : md + 256 ≤ 131072) : Ok (fX2_fill n i f t v st) (fX3_fill n i f t v rt) md := by
  rcases part_cases (n := n) R i f t with ⟨a, F, T, ha, rfl, ht, rfl, rfl, hFT, hT, hP, hAt, hC⟩ | ⟨hP, hO⟩
  · have hm := R.le ha ht
    obtain ⟨st2, e1, e2, e3⟩ := f_fillV (n := n) (F := F) (T := T) (v := v) R.pi ha (R.len ha ht) hm hFT hT hn
    have F0 : fX2_fill n (nI a) (nI F) (nI T) v st = fX2_changeLeaves n (9 + a) (nI (F / 16)) (nI (lf T)) st2 := by
      unfold fX2_fill
      rw [hAt, zb_s, hC, zb_s, e1, zb_unit]
    have G0 : fX3_fill n (nI a) (nI F) (nI T) v rt = fX3_change n (nI a) (upA (upA rt 0 (upd (rt 0) 0 0)) 6 (fun j => if F ≤ j ∧ j < F + (T - F) then v else if j < LR rt a then rt 3 (a * 4096 + j) else rt 6 j)) := by
      unfold fX3_fill
      rw [hP, zb_s, if_neg (by decide), f_ref0, zb_s, if_pos rfl, f_takeRow ha (by rw [upA_n (by decide)]; exact R.lenR ha ht) hm hn, zb_s, f_fill32 hFT (by omega) hn, zb_unit, upA_s (K := 6), upA_uu, upA_n (k := 3) (by decide), upA_n (k := 6) (by decide)]
    rw [F0, G0]
    refine ok_wr (W := fun i => if F ≤ i ∧ i < T then v else VR st (9 + a) i) R ha ht (by unfold lf; omega) (lf_mono (by omega)) hn hmd (fun x h6 _ _ => e2 x h6) ?_ ?_ ?_ ?_ ?_ ?_ ?_ ?_
    · rw [upA_n (by decide), upA_n (by decide)]
    · rw [upA_n (by decide), upA_n (by decide)]
    · rw [upA_n (by decide), upA_n (by decide)]
    · rw [upA_n (by decide), upA_n (by decide)]
    · rw [upA_n (by decide), upA_s]; rfl
    · intro i hi
      rw [upA_s]
      by_cases c : F ≤ i ∧ i < T
      · rw [if_pos (by omega), if_pos c]
      · rw [if_neg (by omega), if_neg c, if_pos hi, R.val ha ht hi]
    · intro i i1 i2 i3
      rw [e3 i i2 i3 i1]
    · intro i i1 i2
      have := lf_16 T
      rw [if_neg (by omega)]
  · refine ok_iae R (v := ()) ?_ ?_
    · unfold fX2_fill
      rcases hO with h | ⟨a, h1, h2⟩
      · rw [h, zb_t]
      · rw [h1, zb_s, h2, zb_t]
    · unfold fX3_fill
      rw [hP, zb_s, if_pos rfl, f_ref1, zb_s, if_neg (by decide)]
theorem f_move52 {n a F T A m : Nat} {X : Int32 → zS → zF Unit} {rt : zS} (ha : a < 16) (hFT : F ≤ T) (hT : T ≤ m) (hm : m ≤ 4096) (hA : A + (T - F) ≤ m) (hn : 200000 ≤ n) :
    fX3_move_52 n X n (nI a) (nI F) (nI T) (nI A) (nI F) rt = X (nI a) (upA rt 6 (fun j => if A ≤ j ∧ j < A + (T - F) then rt 3 (a * 4096 + (F + (j - A))) else rt 6 j)) := by
  have h3 := ml_3
  have h6 := ml_6
  refine wr_loop (F := fun q i s => fX3_move_52 n X q (nI a) (nI F) (nI T) (nI A) (nI (F + i)) s) (X := fun s => X (nI a) s) (K := 6) (N := T - F) (b := A) (val := fun i => rt 3 (a * 4096 + (F + i))) (st := rt) ?_ ?_ n (by omega)
  · intro q g _
    show fX3_move_52 n X (q + 1) (nI a) (nI F) (nI T) (nI A) (nI (F + (T - F))) _ = _
    rw [fX3_move_52, if_pos (by rw [nle (by omega) (by omega)]; omega)]
  · intro q i g hi _
    show fX3_move_52 n X (q + 1) (nI a) (nI F) (nI T) (nI A) (nI (F + i)) _ = fX3_move_52 n X q (nI a) (nI F) (nI T) (nI A) (nI (F + (i + 1))) _
    rw [fX3_move_52, if_neg (by rw [nle (by omega) (by omega)]; omega), li4096, nml, nad, if_pos ((inb_nI (by omega)).mpr (by omega)), nad, nsb (by omega), if_pos ((inb_nI (by omega)).mpr (by omega)), zl_s, li1, nad, ncl (by omega), ncl (by omega), upA_s, upA_uu, upA_n (by decide), Nat.add_assoc, show A + (F + i) - F = A + i by omega, Nat.mul_comm 4096 a]
theorem move_31 {n : Nat} {i1 i2 i3 i4 : Int32} {rt : zS} : fX3_move_31 n i1 i2 i3 i4 rt = some (.inl (), upA rt 0 (upd (rt 0) 0 (1 : Int32))) := by
  unfold fX3_move_31
  rw [f_ref1, zb_s, if_neg (by decide)]
theorem ok_move {n fc md : Nat} {i f t at_ : Int32} {st rt : zS} (R : Rel st rt fc md) (hn : 200000 ≤ n) (hmd : md + 256 ≤ 131072) : Ok (fX2_move n i f t at_ st) (fX3_move n i f t at_ rt) md := by
  rcases part_cases (n := n) R i f t with ⟨a, F, T, ha, rfl, ht, rfl, rfl, hFT, hT, hP, hAt, hC⟩ | ⟨hP, hO⟩
  · have hm := R.le ha ht
    have hb2 : inb (nI a) (ml 2) := by rw [ml_2]; exact (inb_nI (by omega)).mpr ha
    rcases i_cases at_ with hj | ⟨hj, A, hA, rfl⟩
    · refine ok_iae R (v := ()) ?_ ?_
      · unfold fX2_move; rw [hAt, zb_s, hC, zb_s, if_pos hj]
      · unfold fX3_move; rw [hP, zb_s, if_neg (by decide), if_pos hj, move_31]
    · by_cases h : A ≤ LR rt a - (T - F)
      · have hlf : lf (A + (T - F)) ≤ 256 := by unfold lf; omega
        have F0 : ∃ st2, fX2_move n (nI a) (nI F) (nI T) (nI A) st = fX2_changeLeaves n (9 + a) (nI (A / 16)) (nI (lf (A + (T - F)))) st2 ∧ (∀ x, x ≠ 6 → st2 x = st x) ∧ (∀ i, A / 16 * 16 ≤ i → i < lf (A + (T - F)) * 16 → i < LR rt a → st2 6 i = if A ≤ i ∧ i < A + (T - F) then VR st (9 + a) (F + (i - A)) else VR st (9 + a) i) := by
          have e1 := R.len ha ht
          unfold fX2_move
          rw [hAt, zb_s, hC, zb_s, if_neg hj, e1, nsb hFT, nsb (by omega), if_pos (by rw [nle (by omega) (by omega)]; exact h), nad, f_leavesFor (by omega), zb_s, li16, ndv (by omega) (by omega) (by omega), f_rl R.pi ha e1 hm (by omega) (by unfold lf; omega) (by omega) hn, zb_s]
          have R1 : Rel (upA st 6 (fun j => if A / 16 * 16 ≤ j ∧ j < lf (A + (T - F)) * 16 ∧ j < LR rt a then VR st (9 + a) j else st 6 j)) rt fc md := Rel_67 R (Or.inl rfl)
          rw [f_rd R1.pi ha (Or.inl rfl) hFT (by omega) (by omega) hn, zb_s, zb_unit]
          refine ⟨_, rfl, fun x hx => by rw [upA_n hx, upA_n hx], fun i i1 i2 i3 => ?_⟩
          rw [upA_s, upA_s]
          by_cases c : A ≤ i ∧ i < A + (T - F)
          · rw [if_pos c, if_pos c, VR_upA (by omega) (by omega) (by omega)]
          · rw [if_neg c, if_neg c, if_pos ⟨i1, i2, i3⟩]
        obtain ⟨st2, e1, e2, e3⟩ := F0
        have G0 : fX3_move n (nI a) (nI F) (nI T) (nI A) rt = fX3_change n (nI a) (upA (upA rt 0 (upd (rt 0) 0 0)) 6 (fun j => if A ≤ j ∧ j < A + (T - F) then rt 3 (a * 4096 + (F + (j - A))) else if j < LR rt a then rt 3 (a * 4096 + j) else rt 6 j)) := by
          unfold fX3_move
          rw [hP, zb_s, if_neg (by decide), if_neg hj, if_pos hb2, ncl (by omega), R.lenR ha ht, nsb hFT, nsb (by omega), if_pos (by rw [nle (by omega) (by omega)]; exact h), f_ref0, zb_s, if_pos rfl, f_takeRow ha (by rw [upA_n (by decide)]; exact R.lenR ha ht) hm hn, zb_s, f_move52 ha hFT hT hm (by omega) hn, zb_unit, upA_s (K := 6), upA_uu, upA_n (k := 3) (by decide), upA_n (k := 3) (by decide), upA_n (k := 6) (by decide)]
        rw [e1, G0]
        refine ok_wr (W := fun i => if A ≤ i ∧ i < A + (T - F) then VR st (9 + a) (F + (i - A)) else VR st (9 + a) i) R ha ht (by unfold lf; omega) (lf_mono (by omega)) hn hmd (fun x h6 _ _ => e2 x h6) ?_ ?_ ?_ ?_ ?_ ?_ ?_ ?_
        · rw [upA_n (by decide), upA_n (by decide)]
        · rw [upA_n (by decide), upA_n (by decide)]
        · rw [upA_n (by decide), upA_n (by decide)]
        · rw [upA_n (by decide), upA_n (by decide)]
        · rw [upA_n (by decide), upA_s]; rfl
        · intro i hi
          rw [upA_s]
          by_cases c : A ≤ i ∧ i < A + (T - F)
          · rw [if_pos c, if_pos c, R.val ha ht (by omega)]
          · rw [if_neg c, if_neg c, if_pos hi, R.val ha ht hi]
        · intro i i1 i2 i3
          rw [e3 i i2 i3 i1]
        · intro i i1 i2
          have := lf_16 (A + (T - F))
          rw [if_neg (by omega)]
      · refine ok_iae R (v := ()) ?_ ?_
        · unfold fX2_move
          rw [hAt, zb_s, hC, zb_s, if_neg hj, R.len ha ht, nsb hFT, nsb (by omega), if_neg (by rw [nle (by omega) (by omega)]; exact h)]
        · unfold fX3_move
          rw [hP, zb_s, if_neg (by decide), if_neg hj, if_pos hb2, ncl (by omega), R.lenR ha ht, nsb hFT, nsb (by omega), if_neg (by rw [nle (by omega) (by omega)]; exact h), move_31]
  · refine ok_iae R (v := ()) ?_ ?_
    · unfold fX2_move
      rcases hO with h | ⟨a, h1, h2⟩
      · rw [h, zb_t]
      · rw [h1, zb_s, h2, zb_t]
    · unfold fX3_move
      rw [hP, zb_s, if_pos rfl, move_31]
theorem f_rev23 {n a m : Nat} {X : Nat → zS → zF Unit} {st : zS} (em : st (9 + a) 3 = nI m) (hm : m ≤ 4096) (hn : 200000 ≤ n) :
    fX2_reverse_23 n X n (9 + a) (nI 0) st = X (9 + a) (upA st 6 (fun j => if 0 ≤ j ∧ j < 0 + m then st 7 (m - 1 - (j - 0)) else st 6 j)) := by
  have h6 := al_6
  have h7 := al_7
  refine wr_loop (F := fun q i s => fX2_reverse_23 n X q (9 + a) (nI i) s) (X := fun s => X (9 + a) s) (K := 6) (N := m) (b := 0) (val := fun i => st 7 (m - 1 - i)) (st := st) ?_ ?_ n (by omega)
  · intro q g _
    show fX2_reverse_23 n X (q + 1) (9 + a) (nI m) _ = _
    rw [fX2_reverse_23, upA_n (by omega), em, if_pos (by rw [nle (by omega) (by omega)]; omega)]
  · intro q i g hi _
    show fX2_reverse_23 n X (q + 1) (9 + a) (nI i) _ = fX2_reverse_23 n X q (9 + a) (nI (i + 1)) _
    rw [fX2_reverse_23, upA_n (k := 9 + a) (by omega), em, if_neg (by rw [nle (by omega) (by omega)]; omega), li1, nsb (by omega), nsb (by omega), if_pos ((inb_nI (by omega)).mpr (by omega)), if_pos ((inb_nI (by omega)).mpr (by omega)), zl_s, nad, ncl (by omega), ncl (by omega), upA_s, upA_uu, upA_n (by decide), Nat.zero_add]
theorem f_rev24 {n a m : Nat} {X : Int32 → zS → zF Unit} {rt : zS} (ha : a < 16) (em : rt 2 a = nI m) (hm : m ≤ 4096) (hn : 200000 ≤ n) :
    fX3_reverse_24 n X n (nI a) (nI 0) rt = X (nI a) (upA rt 6 (fun j => if 0 ≤ j ∧ j < 0 + m then rt 3 (a * 4096 + (m - 1 - (j - 0))) else rt 6 j)) := by
  have h2 := ml_2
  have h3 := ml_3
  have h6 := ml_6
  refine wr_loop (F := fun q i s => fX3_reverse_24 n X q (nI a) (nI i) s) (X := fun s => X (nI a) s) (K := 6) (N := m) (b := 0) (val := fun i => rt 3 (a * 4096 + (m - 1 - i))) (st := rt) ?_ ?_ n (by omega)
  · intro q g _
    show fX3_reverse_24 n X (q + 1) (nI a) (nI m) _ = _
    rw [fX3_reverse_24, if_pos ((inb_nI (by omega)).mpr (by omega)), ncl (by omega), upA_n (by decide), em, if_pos (by rw [nle (by omega) (by omega)]; omega)]
  · intro q i g hi _
    show fX3_reverse_24 n X (q + 1) (nI a) (nI i) _ = fX3_reverse_24 n X q (nI a) (nI (i + 1)) _
    rw [fX3_reverse_24, if_pos ((inb_nI (by omega)).mpr (by omega)), ncl (show a < 2147483648 by omega), upA_n (k := 2) (by decide), em, if_neg (by rw [nle (by omega) (by omega)]; omega), if_pos ((inb_nI (by omega)).mpr (by omega)), li4096, nml, nad, li1, nsb (by omega), nsb (by omega), if_pos ((inb_nI (by omega)).mpr (by omega)), if_pos ((inb_nI (by omega)).mpr (by omega)), zl_s, nad, ncl (by omega), ncl (by omega), upA_s, upA_uu, upA_n (by decide), Nat.zero_add, show 4096 * a + m - 1 - i = a * 4096 + (m - 1 - i) by omega]
theorem ok_reverse {n fc md : Nat} {i : Int32} {st rt : zS} (R : Rel st rt fc md) (hn : 200000 ≤ n) (hmd : md + 256 ≤ 131072) : Ok (fX2_reverse n i st) (fX3_reverse n i rt) md := by
  rcases there_cases (n := n) R i with ⟨a, ha, rfl, ht, hA, hT, hAt⟩ | ⟨hA, hT, hAt⟩
  · have hm := R.le ha ht
    have e1 := R.len ha ht
    have hl : lf (LR rt a) ≤ 256 := by unfold lf; omega
    have F0 : ∃ st2, fX2_reverse n (nI a) st = fX2_changeLeaves n (9 + a) (nI 0) (nI (lf (LR rt a))) st2 ∧ (∀ x, x ≠ 6 → x ≠ 7 → st2 x = st x) ∧ (∀ i, i < LR rt a → st2 6 i = VR st (9 + a) (LR rt a - 1 - i)) := by
      unfold fX2_reverse
      rw [hAt, zb_s, e1, li0, f_rd R.pi ha (Or.inr rfl) (by omega) (by omega) (by omega) hn, zb_s, f_rev23 (m := LR rt a) (by rw [upA_n (by omega)]; exact e1) hm hn, f_leafCount (m := LR rt a) (by omega) (by rw [upA_n (by omega), upA_n (by omega)]; exact e1), zb_s, zb_unit]
      refine ⟨_, rfl, fun x hx hy => by rw [upA_n hx, upA_n hy], fun i hi => ?_⟩
      rw [upA_s, if_pos (by omega), upA_s, if_pos (by omega)]
      congr 1
      omega
    obtain ⟨st2, f1, f2, f3⟩ := F0
    have G0 : fX3_reverse n (nI a) rt = fX3_change n (nI a) (upA (upA rt 0 (upd (rt 0) 0 0)) 6 (fun j => if 0 ≤ j ∧ j < 0 + LR rt a then rt 3 (a * 4096 + (LR rt a - 1 - (j - 0))) else rt 6 j)) := by
      unfold fX3_reverse
      rw [hA rt rfl, zb_s, if_neg (by decide), f_ref0, zb_s, if_pos rfl, li0, f_rev24 (m := LR rt a) ha (by rw [upA_n (by decide)]; exact R.lenR ha ht) hm hn, zb_unit, upA_n (k := 3) (by decide), upA_n (k := 6) (by decide)]
    rw [f1, G0]
    refine ok_wr (W := fun i => VR st (9 + a) (LR rt a - 1 - i)) R ha ht (by omega) (Nat.le_refl _) hn hmd (fun x h6 h7 _ => f2 x h6 h7) ?_ ?_ ?_ ?_ ?_ ?_ ?_ ?_
    · rw [upA_n (by decide), upA_n (by decide)]
    · rw [upA_n (by decide), upA_n (by decide)]
    · rw [upA_n (by decide), upA_n (by decide)]
    · rw [upA_n (by decide), upA_n (by decide)]
    · rw [upA_n (by decide), upA_s]; rfl
    · intro i hi
      rw [upA_s, if_pos (by omega), Nat.sub_zero, R.val ha ht (by omega)]
    · intro i i1 i2 i3
      exact (f3 i i1).symm
    · intro i i1 i2
      have := lf_16 (LR rt a)
      omega
  · refine ok_iae R (v := ()) ?_ ?_
    · unfold fX2_reverse; rw [hAt, zb_t]
    · unfold fX3_reverse; rw [hA rt rfl, zb_s, if_pos rfl, f_ref1, zb_s, if_neg (by decide)]
