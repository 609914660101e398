/-! the reference: countAll -/
theorem ml_1 : ml 1 = 16 := rfl
theorem ml_2 : ml 2 = 16 := rfl
theorem ml_3 : ml 3 = 69632 := rfl
theorem ml_4 : ml 4 = 4352 := rfl
theorem ml_5 : ml 5 = 140000 := rfl
theorem ml_6 : ml 6 = 4096 := rfl
theorem li65536 : (65536 : Int32) = nI 65536 := by decide +kernel
def LR (rt : zS) (a : Nat) : Nat := (rt 2 a).toNatClampNeg
/-- the reference's map of leaves: marks of the leaves that are there -/
def fR (rt : zS) (t : Nat) : Int32 := if rt 1 (t / 256) ≠ 0 ∧ t % 256 < lf (LR rt (t / 256)) then rt 4 t else M1
def MR (rt : zS) (md : Nat) : Prop := (∀ a, a < 16 → rt 1 a = 0 ∨ rt 1 a = 1) ∧ (∀ a, a < 16 → rt 1 a = 1 → rt 2 a = nI (LR rt a) ∧ LR rt a ≤ 4096) ∧ rt 0 6 = nI md ∧ md ≤ 131072 ∧ (∀ t, t < 4096 → fR rt t = M1 ∨ ∃ x, x < md ∧ fR rt t = nI x)
theorem f_leaves {n m : Nat} {st : zS} (h : m ≤ 8192) : fX3_leaves n (nI m) st = some (.inl (nI (lf m)), st) := by
  unfold fX3_leaves lf
  simp (disch := omega) only [li16, li15, nad, ndv]
theorem zero_loop {n md : Nat} {X : zS → zF Int32} (hmd : md ≤ 131072) : ∀ (q i : Nat) (rt : zS), rt 0 6 = nI md → i ≤ md + 1 → md + 1 - i < q → fX3_countAll_2 n X q (nI i) rt = X (upA rt 5 (fun j => if i ≤ j ∧ j ≤ md then nI 0 else rt 5 j)) := by
  have h5 := ml_5
  intro q
  induction q with
  | zero => intro i rt _ _ h; omega
  | succ q ih =>
    intro i rt e h1 h2
    rw [fX3_countAll_2, e]
    simp (disch := omega) only [nlt, nib, ncl, li1, li0, nad, zl_s]
    by_cases h : md < i
    · rw [if_pos h]
      congr 1
      rw [show (fun j => if i ≤ j ∧ j ≤ md then nI 0 else rt 5 j) = rt 5 from funext fun j => if_neg (by omega), upA_id]
    · rw [if_neg h, if_pos (by omega), ih (i + 1) _ (by rw [upA_n (by decide)]; exact e) (by omega) (by omega)]
      congr 1
      rw [upA_uu]
      apply upA_c
      intro j
      rw [upA_s]
      unfold upd
      by_cases e1 : j = i
      · subst e1
        rw [if_neg (by omega), if_pos rfl, if_pos (by omega)]
      · rw [if_neg e1]
        by_cases e2 : i ≤ j ∧ j ≤ md
        · rw [if_pos (by omega), if_pos e2]
        · rw [if_neg (by omega), if_neg e2]
theorem cnt_stay {f : Nat → Int32} {x T : Nat} (hx : x < 2147483648) : ∀ d, (∀ t, T ≤ t → t < T + d → f t = M1) → cnt f (nI x) (T + d) = cnt f (nI x) T := by
  intro d
  induction d with
  | zero => intro _; rfl
  | succ d ih =>
    intro h
    show cnt f (nI x) (T + d) + _ = _
    rw [ih (fun t h1 h2 => h t h1 (by omega)), if_neg (fun q => nI_m1 hx (q.symm.trans (h (T + d) (by omega) (by omega)))), Nat.add_zero]
theorem dst_stay {f : Nat → Int32} {T : Nat} : ∀ d, (∀ t, T ≤ t → t < T + d → f t = M1) → dst f (T + d) = dst f T := by
  intro d
  induction d with
  | zero => intro _; rfl
  | succ d ih =>
    intro h
    show dst f (T + d) + _ = _
    rw [ih (fun t h1 h2 => h t h1 (by omega)), if_neg (fun q => q.1 (h (T + d) (by omega) (by omega))), Nat.add_zero]
/-- the counts of the leaves below T -/
def CN (f : Nat → Int32) (md : Nat) (g : Nat → Int32) (T : Nat) : Prop := ∀ x, x < md → g x = nI (cnt f (nI x) T)
set_option maxRecDepth 100000 in
theorem count_in {n md a : Nat} {X : Int32 → Int32 → zS → zF Int32} {rt : zS} (M : MR rt md) (ha : a < 16) : ∀ (q k : Nat) (g : Nat → Int32), k ≤ 256 → 257 - k < q → CN (fR rt) md g (a * 256 + k) →
    ∃ g', fX3_countAll_35 n X q (nI (dst (fR rt) (a * 256 + k))) (nI a) (nI k) (upA rt 5 g) = X (nI (dst (fR rt) (a * 256 + 256))) (nI a) (upA rt 5 g') ∧ CN (fR rt) md g' (a * 256 + 256) := by
  obtain ⟨M1', M2, M3, M4, M5⟩ := M
  have h1 := ml_1
  have h2 := ml_2
  have h4 := ml_4
  have h5 := ml_5
  intro q
  induction q with
  | zero => intro k g _ h; omega
  | succ q ih =>
    intro k g hk hq hC
    have k1 : ∀ g', upA rt 5 g' 1 = rt 1 := fun _ => upA_n (by decide)
    have k2 : ∀ g', upA rt 5 g' 2 = rt 2 := fun _ => upA_n (by decide)
    have k4 : ∀ g', upA rt 5 g' 4 = rt 4 := fun _ => upA_n (by decide)
    have hd9 : dst (fR rt) (a * 256 + k) ≤ 4096 := Nat.le_trans (dst_le _) (by omega)
    -- no more leaves
    have out : (∀ t, a * 256 + k ≤ t → t < a * 256 + 256 → fR rt t = M1) → ∃ g', X (nI (dst (fR rt) (a * 256 + k))) (nI a) (upA rt 5 g) = X (nI (dst (fR rt) (a * 256 + 256))) (nI a) (upA rt 5 g') ∧ CN (fR rt) md g' (a * 256 + 256) := by
      intro hz
      have e1 := dst_stay (f := fR rt) (T := a * 256 + k) (256 - k) (fun t q1 q2 => hz t q1 (by omega))
      rw [show a * 256 + k + (256 - k) = a * 256 + 256 by omega] at e1
      refine ⟨g, by rw [e1], fun x hx => ?_⟩
      have e2 := cnt_stay (f := fR rt) (x := x) (T := a * 256 + k) (by omega) (256 - k) (fun t q1 q2 => hz t q1 (by omega))
      rw [show a * 256 + k + (256 - k) = a * 256 + 256 by omega] at e2
      rw [e2]
      exact hC x hx
    rw [fX3_countAll_35]
    rw [if_pos ((inb_nI (by omega)).mpr (by omega)), ncl (by omega), k1]
    rcases M1' a ha with z | z
    · rw [if_pos z]
      refine out (fun t q1 q2 => ?_)
      unfold fR
      rw [if_neg (fun w => w.1 (by rw [show t / 256 = a by omega]; exact z))]
    · have hz0 : ¬ rt 1 a = 0 := by rw [z]; decide
      obtain ⟨e2, e3⟩ := M2 a ha z
      have hl : lf (LR rt a) ≤ 256 := by unfold lf; omega
      rw [if_neg hz0, if_pos ((inb_nI (by omega)).mpr (by omega)), k2, e2, f_leaves (by omega), zb_s]
      by_cases c : lf (LR rt a) ≤ k
      · rw [if_pos (by rw [nle (by omega) (by omega)]; exact c)]
        refine out (fun t q1 q2 => ?_)
        unfold fR
        rw [if_neg (fun w => by have := w.2; rw [show t / 256 = a by omega] at this; omega)]
      · have hlive : fR rt (a * 256 + k) = rt 4 (a * 256 + k) := by
          unfold fR
          rw [show (a * 256 + k) / 256 = a by omega, show (a * 256 + k) % 256 = k by omega, if_pos ⟨hz0, by omega⟩]
        have hcs : ∀ x, cnt (fR rt) (nI x) (a * 256 + k + 1) = cnt (fR rt) (nI x) (a * 256 + k) + (if fR rt (a * 256 + k) = nI x then 1 else 0) := fun x => rfl
        have hds : dst (fR rt) (a * 256 + k + 1) = dst (fR rt) (a * 256 + k) + (if fR rt (a * 256 + k) ≠ M1 ∧ cnt (fR rt) (fR rt (a * 256 + k)) (a * 256 + k) = 0 then 1 else 0) := rfl
        rw [if_neg (by rw [nle (by omega) (by omega)]; exact c), li256, nml, nad, if_pos ((inb_nI (by omega)).mpr (by omega)), ncl (by omega), k4, show 256 * a + k = a * 256 + k by omega, ← hlive, M1e]
        rcases M5 (a * 256 + k) (by omega) with w | ⟨x, hx, w⟩
        · rw [if_pos w, li1, nad]
          have hd : dst (fR rt) (a * 256 + k + 1) = dst (fR rt) (a * 256 + k) := by rw [hds, if_neg (fun y => y.1 w), Nat.add_zero]
          rw [← hd, Nat.add_assoc]
          refine ih (k + 1) g (by omega) (by omega) (fun x hx => ?_)
          rw [← Nat.add_assoc, hcs, if_neg (fun y => nI_m1 (show x < 2147483648 by omega) (y.symm.trans w)), Nat.add_zero]
          exact hC x hx
        · have hgx : g x = nI (cnt (fR rt) (nI x) (a * 256 + k)) := hC x hx
          have hcl : cnt (fR rt) (nI x) (a * 256 + k) ≤ 4096 := Nat.le_trans (cnt_le _) (by omega)
          have hC' : CN (fR rt) md (upd g x (nI (cnt (fR rt) (nI x) (a * 256 + k) + 1))) (a * 256 + (k + 1)) := by
            intro y hy
            rw [← Nat.add_assoc, hcs, w]
            unfold upd
            by_cases ey : y = x
            · rw [if_pos ey, ey, if_pos rfl]
            · rw [if_neg ey, if_neg (fun z9 => ey ((neq (by omega) (by omega)).mp z9).symm), Nat.add_zero]
              exact hC y hy
          have fin : ∀ d, d = dst (fR rt) (a * 256 + (k + 1)) → ∃ g', fX3_countAll_35 n X q (nI d) (nI a) (nI (k + 1)) (upA rt 5 (upd g x (nI (cnt (fR rt) (nI x) (a * 256 + k) + 1)))) = X (nI (dst (fR rt) (a * 256 + 256))) (nI a) (upA rt 5 g') ∧ CN (fR rt) md g' (a * 256 + 256) := fun d hd => by
            rw [hd]
            exact ih (k + 1) _ (by omega) (by omega) hC'
          have hb5 : inb (nI x) (ml 5) := (inb_nI (by omega)).mpr (by omega)
          rw [w, if_neg (nI_m1 (by omega)), if_pos hb5, ncl (by omega), upA_s, hgx]
          by_cases c0 : cnt (fR rt) (nI x) (a * 256 + k) = 0
          · rw [if_pos (by rw [c0]; exact li0.symm)]
            unfold fX3_countAll_96
            rw [if_pos hb5, if_pos hb5, zl_s, ncl (by omega), upA_s, upA_uu, hgx, li1, nad, nad, nad]
            refine fin _ ?_
            rw [← Nat.add_assoc, hds, if_pos ⟨by rw [w]; exact nI_m1 (by omega), by rw [w]; exact c0⟩]
          · rw [if_neg (by rw [li0, neq (by omega) (by omega)]; exact c0)]
            unfold fX3_countAll_96
            rw [if_pos hb5, if_pos hb5, zl_s, ncl (by omega), upA_s, upA_uu, hgx, li0, li1, nad, nad, nad]
            refine fin _ ?_
            rw [← Nat.add_assoc, hds, if_neg (fun y => c0 (by rw [← w]; exact y.2))]
set_option maxRecDepth 100000 in
theorem count_out {n md : Nat} {X : Int32 → zS → zF Int32} {rt : zS} (M : MR rt md) (hn : 200000 ≤ n) : ∀ (q a : Nat) (g : Nat → Int32), a ≤ 16 → 16 - a < q → CN (fR rt) md g (a * 256) →
    ∃ g', fX3_countAll_27 n X q (nI (dst (fR rt) (a * 256))) (nI a) (upA rt 5 g) = X (nI (dst (fR rt) 4096)) (upA rt 5 g') ∧ CN (fR rt) md g' 4096 := by
  intro q
  induction q with
  | zero => intro a g _ h; omega
  | succ q ih =>
    intro a g ha hq hC
    rw [fX3_countAll_27]
    simp (disch := omega) only [li16, nle]
    by_cases h : 16 ≤ a
    · have e : a = 16 := by omega
      subst e
      rw [if_pos h]
      exact ⟨g, rfl, hC⟩
    · rw [if_neg h, li0]
      obtain ⟨g', e1, e2⟩ := count_in (n := n) (X := fun (i1 : Int32) (i2 : Int32) (st : zS) => fX3_countAll_27 n X q i1 (i2 + (1 : Int32)) st) M (show a < 16 by omega) n 0 g (by omega) (by omega) hC
      have e1' : fX3_countAll_35 n (fun (i1 : Int32) (i2 : Int32) (st : zS) => fX3_countAll_27 n X q i1 (i2 + (1 : Int32)) st) n (nI (dst (fR rt) (a * 256))) (nI a) (nI 0) (upA rt 5 g) = fX3_countAll_27 n X q (nI (dst (fR rt) (a * 256 + 256))) (nI a + (1 : Int32)) (upA rt 5 g') := e1
      rw [e1', li1, nad, show a * 256 + 256 = (a + 1) * 256 by omega]
      refine ih (a + 1) g' (by omega) (by omega) ?_
      rw [show (a + 1) * 256 = a * 256 + 256 by omega]
      exact e2
set_option maxRecDepth 100000 in
theorem f_countAll {n md : Nat} {rt : zS} (M : MR rt md) (hn : 200000 ≤ n) : ∃ g, fX3_countAll n rt = some (.inl (nI (dst (fR rt) 4096)), upA rt 5 g) ∧ CN (fR rt) md g 4096 := by
  have hmd := M.2.2.2.1
  unfold fX3_countAll
  rw [li0, zero_loop hmd n 0 rt M.2.2.1 (by omega) (by omega)]
  obtain ⟨g', e1, e2⟩ := count_out (n := n) (X := fun (i1 : Int32) (st : zS) => some (.inl i1, st)) M hn n 0 (fun j => if 0 ≤ j ∧ j ≤ md then nI 0 else rt 5 j) (by omega) (by omega) (fun x hx => by show (if 0 ≤ x ∧ x ≤ md then nI 0 else rt 5 x) = _; rw [if_pos (by omega)]; rfl)
  exact ⟨g', e1, e2⟩
