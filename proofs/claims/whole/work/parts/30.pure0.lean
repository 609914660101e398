/-! PURE: what the class's functions compute. Numbers as nI of naturals -/
theorem li0 : (0 : Int32) = nI 0 := by decide +kernel
theorem li1 : (1 : Int32) = nI 1 := by decide +kernel
theorem li2 : (2 : Int32) = nI 2 := by decide +kernel
theorem li3 : (3 : Int32) = nI 3 := by decide +kernel
theorem li15 : (15 : Int32) = nI 15 := by decide +kernel
theorem li16 : (16 : Int32) = nI 16 := by decide +kernel
theorem li256 : (256 : Int32) = nI 256 := by decide +kernel
theorem li512 : (512 : Int32) = nI 512 := by decide +kernel
theorem li4096 : (4096 : Int32) = nI 4096 := by decide +kernel
/-- none there: -1, under a name of its own -/
def M1 : Int32 := -1
theorem lim : -nI 1 = M1 := by decide +kernel
theorem M1e : (-1 : Int32) = M1 := rfl
theorem nI_m1 {p : Nat} (h : p < 2147483648) : nI p ≠ M1 := by
  intro e
  unfold M1 at e
  have h2 := congrArg Int32.toInt e
  rw [nI_toInt h] at h2
  have h3 : ((-1 : Int32)).toInt = -1 := by decide +kernel
  omega
theorem inb_nI {i N : Nat} (h : i < 2147483648) : inb (nI i) N ↔ i < N := by
  unfold inb
  rw [nI_toInt h]
  omega
theorem nle {a b : Nat} (ha : a < 2147483648) (hb : b < 2147483648) : (nI a ≤ nI b) = (a ≤ b) := propext (nI_leI ha hb)
theorem nlt {a b : Nat} (ha : a < 2147483648) (hb : b < 2147483648) : (nI a < nI b) = (a < b) := propext (nI_ltI ha hb)
theorem neq {a b : Nat} (ha : a < 2147483648) (hb : b < 2147483648) : (nI a = nI b) = (a = b) := propext (nI_eq ha hb)
theorem nib {i N : Nat} (h : i < 2147483648) : inb (nI i) N = (i < N) := propext (inb_nI h)
theorem ncl {i : Nat} (h : i < 2147483648) : (nI i).toNatClampNeg = i := nI_clamp h
theorem nm1 {p : Nat} (h : p < 2147483648) : (nI p = M1) = False := eq_false (nI_m1 h)
theorem ndv {a d : Nat} (ha : a < 2147483648) (h0 : 0 < d) (hd : d < 2147483648) : nI a / nI d = nI (a / d) := pk_div ha h0 hd
theorem nrm {a d : Nat} (ha : a < 2147483648) (h0 : 0 < d) (hd : d < 2147483648) : nI a - nI a / nI d * nI d = nI (a % d) := pk_rem ha h0 hd
theorem nsb {a b : Nat} (h : b ≤ a) : nI a - nI b = nI (a - b) := pk_sub h
theorem nml (a b : Nat) : nI a * nI b = nI (a * b) := pk_mul a b
theorem nad (a b : Nat) : nI a + nI b = nI (a + b) := nI_add a b
theorem nit {c : Prop} [Decidable c] {a b : Nat} : (if c then nI a else nI b) = nI (if c then a else b) := by split <;> rfl
theorem zb_s {α β : Type} {r : α} {u : zS} {K : α → zS → zF β} : zb (some (.inl r, u)) K = K r u := rfl
theorem zb_t {α β : Type} {b : Bool} {u : zS} {K : α → zS → zF β} : zb (some (.inr b, u)) K = some (.inr b, u) := rfl
theorem zl_s {α β : Type} {x : α} {K : α → β} : zl x K = K x := rfl
theorem upA_uu {st : zS} {K : Nat} {f g : Nat → Int32} : upA (upA st K f) K g = upA st K g := by
  funext k
  unfold upA
  split <;> rfl
theorem upA_id {st : zS} {K : Nat} : upA st K (st K) = st := by
  funext k
  unfold upA
  split
  · rename_i h; rw [h]
  · rfl
theorem upA_c {st : zS} {K : Nat} {f g : Nat → Int32} (h : ∀ j, f j = g j) : upA st K f = upA st K g := by rw [funext h]
theorem al_6 : al 6 = 4096 := rfl
theorem al_7 : al 7 = 4096 := rfl
theorem al_3 : al 3 = 8192 := rfl
theorem al_4 : al 4 = 512 := rfl
theorem al_5 : al 5 = 512 := rfl
theorem al_8 : al 8 = 256 := rfl
theorem al_p {r : Nat} (h : isRow r) : al (r + 16) = 256 := by unfold al; rw [if_neg (by omega), if_neg (by omega), if_neg (by omega)]
theorem al_n {r : Nat} (h : isRow r) : al (r + 32) = 256 := by unfold al; rw [if_neg (by omega), if_neg (by omega), if_neg (by omega)]
/-- how many leaves n values have -/
def lf (n : Nat) : Nat := (n + 15) / 16
theorem f_leavesFor {n m : Nat} {st : zS} (h : m ≤ 8192) : fX2_leavesFor n (nI m) st = some (.inl (nI (lf m)), st) := by
  unfold fX2_leavesFor lf
  simp (disch := omega) only [li16, li1, nad, nsb, ndv]
  congr
theorem f_leafCount {n m r : Nat} {st : zS} (h : m ≤ 8192) (e : st r 3 = nI m) : fX1_leafCount n r st = some (.inl (nI (lf m)), st) := by
  unfold fX1_leafCount
  rw [e, f_leavesFor h, zb_s]
theorem f_valuesIn {n m r k : Nat} {st : zS} (h : m ≤ 8192) (e : st r 3 = nI m) (hk : 16 * k ≤ m) : fX1_valuesIn n r (nI k) st = some (.inl (nI (if m - k * 16 < 16 then m - k * 16 else 16)), st) := by
  unfold fX1_valuesIn
  rw [e]
  simp (disch := omega) only [li16, nml, nsb, nlt, nit]
theorem nfn_none {n : Nat} {X28 : zS → zF Int32} {X20 : Int32 → zS → zF Int32} {st : zS} : ∀ (k a : Nat), a ≤ 16 → 16 - a < k → (∀ b, a ≤ b → b < 16 → st (9 + b) 2 ≠ 0) → fX2_numberForNewArray_2 n X28 X20 k (nI a) st = X28 st := by
  intro k
  induction k with
  | zero => intro a _ h; omega
  | succ k ih =>
    intro a h1 h2 h3
    rw [fX2_numberForNewArray_2]
    simp (disch := omega) only [li16, li1, nle, nib, ncl, nad]
    by_cases h : 16 ≤ a
    · rw [if_pos h]
    · rw [if_neg h, if_pos (by omega), if_neg (h3 a (Nat.le_refl a) (by omega))]
      exact ih (a + 1) (by omega) (by omega) (fun b hb => h3 b (by omega))
theorem nfn_some {n a0 : Nat} {X28 : zS → zF Int32} {X20 : Int32 → zS → zF Int32} {st : zS} (h0 : a0 < 16) (h1 : st (9 + a0) 2 = 0) : ∀ (k a : Nat), a ≤ a0 → a0 - a < k → (∀ b, a ≤ b → b < a0 → st (9 + b) 2 ≠ 0) → fX2_numberForNewArray_2 n X28 X20 k (nI a) st = X20 (nI a0) st := by
  intro k
  induction k with
  | zero => intro a _ h; omega
  | succ k ih =>
    intro a h2 h3 h4
    rw [fX2_numberForNewArray_2]
    simp (disch := omega) only [li16, li1, nle, nib, ncl, nad]
    rw [if_neg (by omega), if_pos (by omega)]
    by_cases h : a = a0
    · subst h
      rw [if_pos h1]
    · rw [if_neg (h4 a (Nat.le_refl a) (by omega))]
      exact ih (a + 1) (by omega) (by omega) (fun b hb => h4 b (by omega))
theorem fill_loop {n T b : Nat} {v : Int32} {X : zS → zF Unit} (hb : b ≤ al T) (hT : al T ≤ 8192) : ∀ (k a : Nat) (st : zS), a ≤ b → b - a < k → fJ7_fill_fda19_10 n X k T (nI b) v (nI a) st = X (upA st T (fun j => if a ≤ j ∧ j < b then v else st T j)) := by
  intro k
  induction k with
  | zero => intro a st _ h; omega
  | succ k ih =>
    intro a st h1 h2
    rw [fJ7_fill_fda19_10]
    simp (disch := omega) only [li1, nle, nib, ncl, nad, zl_s]
    by_cases h : b ≤ a
    · rw [if_pos h]
      congr 1
      rw [show (fun j => if a ≤ j ∧ j < b then v else st T j) = st T from funext fun j => if_neg (by omega), upA_id]
    · rw [if_neg h, if_pos (by omega), ih (a + 1) _ (by omega) (by omega)]
      congr 1
      rw [upA_uu]
      apply upA_c
      intro j
      rw [upA_s]
      unfold upd
      by_cases e : j = a
      · subst e
        rw [if_neg (by omega), if_pos rfl, if_pos (by omega)]
      · rw [if_neg e]
        by_cases e2 : a ≤ j ∧ j < b
        · rw [if_pos (by omega), if_pos e2]
        · rw [if_neg (by omega), if_neg e2]
theorem f_fill {n T a b : Nat} {v : Int32} {st : zS} (hT : al T ≤ 8192) (h1 : a ≤ b) (h2 : b ≤ al T) (hn : 8192 < n) : fJ7_fill_fda19 n T (nI a) (nI b) v st = some (.inl (), upA st T (fun j => if a ≤ j ∧ j < b then v else st T j)) := by
  unfold fJ7_fill_fda19 fJ7_rangeCheck_23922
  simp (disch := omega) only [li0, nle]
  rw [if_pos h1, if_pos (by omega), if_pos h2, zb_s, fill_loop h2 hT n a st h1 (by omega)]
