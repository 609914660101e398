/-! a new array a: leaf k is the leaf u (src k = some u) or a NEW one -/
def Nxt (st st' : zS) (W : Nat → Int32) (src : Nat → Option Nat) (a m i : Nat) : Prop :=
  (∀ t, t < 4096 → (∀ k, k < i → t ≠ a * 256 + k) → fC st' t = fC st t ∧ ∀ j, j < 16 → LV st' t j = LV st t j) ∧
  (∀ k, k < i → (∀ u, src k = some u → fC st' (a * 256 + k) = fC st u ∧ ∀ j, j < 16 → LV st' (a * 256 + k) j = LV st u j) ∧
    (src k = none → pl W k m → fC st' (a * 256 + k) = M1 ∧ ∀ j, j < 16 → LV st' (a * 256 + k) j = W (k * 16)) ∧
    (src k = none → ¬ pl W k m → fC st' (a * 256 + k) ≠ M1 ∧ lone st' (a * 256 + k) ∧ ∀ j, j < vin m k → LV st' (a * 256 + k) j = W (k * 16 + j))) ∧
  (∀ x, 6 ≤ x ∧ x < 25 → st' x = st x)
theorem Nxt.refl {st : zS} {W : Nat → Int32} {src : Nat → Option Nat} {a m : Nat} : Nxt st st W src a m 0 := ⟨fun _ _ _ => ⟨rfl, fun _ _ => rfl⟩, fun k h => by omega, fun _ _ => rfl⟩
theorem Nxt.step {st st1 st' : zS} {W : Nat → Int32} {src : Nat → Option Nat} {a m i : Nat} (hi : i < 256) (ha : a < 16) (C : Nxt st st1 W src a m i) (S : Lst st1 st' (a * 256 + i))
    (hal : fC st' (a * 256 + i) = M1 ∨ lone st' (a * 256 + i) ∨ ∀ k, k < i → src k ≠ none)
    (h1 : ∀ u, src i = some u → fC st' (a * 256 + i) = fC st u ∧ ∀ j, j < 16 → LV st' (a * 256 + i) j = LV st u j)
    (h2 : src i = none → pl W i m → fC st' (a * 256 + i) = M1 ∧ ∀ j, j < 16 → LV st' (a * 256 + i) j = W (i * 16))
    (h3 : src i = none → ¬ pl W i m → fC st' (a * 256 + i) ≠ M1 ∧ lone st' (a * 256 + i) ∧ ∀ j, j < vin m i → LV st' (a * 256 + i) j = W (i * 16 + j)) : Nxt st st' W src a m (i + 1) := by
  obtain ⟨C1, C2, C3⟩ := C
  obtain ⟨S1, S2⟩ := S
  refine ⟨fun t ht hne => ?_, fun k hk => ?_, fun x hx => (S2 x hx).trans (C3 x hx)⟩
  · obtain ⟨u1, u2⟩ := S1 t ht (hne i (by omega))
    obtain ⟨v1, v2⟩ := C1 t ht (fun k h => hne k (by omega))
    exact ⟨u1.trans v1, fun j hj => (u2 j hj).trans (v2 j hj)⟩
  · by_cases e : k = i
    · subst e
      exact ⟨h1, h2, h3⟩
    · obtain ⟨c1, c2, c3⟩ := C2 k (by omega)
      obtain ⟨u1, u2⟩ := S1 (a * 256 + k) (by omega) (by omega)
      have hv : vin m k ≤ 16 := vin_le
      refine ⟨fun u hu => ⟨u1.trans (c1 u hu).1, fun j hj => (u2 j hj).trans ((c1 u hu).2 j hj)⟩, fun hs hp => ⟨u1.trans (c2 hs hp).1, fun j hj => (u2 j hj).trans ((c2 hs hp).2 j hj)⟩, fun hs hp => ⟨by rw [u1]; exact (c3 hs hp).1, fun t ht hne => ?_, fun j hj => (u2 j (by omega)).trans ((c3 hs hp).2.2 j hj)⟩⟩
      rw [u1]
      by_cases et : t = a * 256 + i
      · subst et
        rcases hal with z | z | z
        · rw [z]; exact fun q => (c3 hs hp).1 q.symm
        · rw [← u1]; exact fun q => z (a * 256 + k) (by omega) (by omega) q.symm
        · exact absurd hs (z k (by omega))
      · rw [(S1 t ht et).1]
        exact (c3 hs hp).2.1 t ht hne
theorem lt4k {b s : Nat} (hb : b < 16) (hs : s < 256) : b * 256 + s < 4096 := by omega
/-- one leaf is shared: t0 becomes u -/
theorem step_share {fc a b k s : Nat} {st : zS} (P : PI st fc) (ha : a < 16) (hb : b < 16) (hab : b ≠ a) (hk : k < 256) (hs : s < 256) (e0 : fC st (a * 256 + k) = M1) {st7 : zS} (h7 : st7 = upA (upA st (9 + a + 16) (upd (st (9 + a + 16)) k (st (9 + b + 16) s))) (9 + a + 32) (upd (st (9 + a + 32)) k (st (9 + b + 32) s))) :
    ∃ st', (st (9 + b + 16) s = M1 → st' = st7) ∧ (st (9 + b + 16) s ≠ M1 → ∀ n, fX0_addHolder n (st (9 + b + 16) s) st7 = some (.inl (), st')) ∧ PI st' fc ∧ Lst st st' (a * 256 + k) ∧ fC st' (a * 256 + k) = fC st (b * 256 + s) ∧ (∀ j, j < 16 → LV st' (a * 256 + k) j = LV st (b * 256 + s) j) ∧ st' 2 4 = st 2 4 := by
  have ht : a * 256 + k < 4096 := by omega
  have hu : b * 256 + s < 4096 := lt4k hb hs
  have hat : fC st (b * 256 + s) = st (9 + b + 16) s := fC_at hs
  have h4 := al_4
  have q16 : st7 (9 + a + 16) = upd (st (9 + a + 16)) k (st (9 + b + 16) s) := by rw [h7, upA_n (by omega), upA_s]
  have q32 : st7 (9 + a + 32) = upd (st (9 + a + 32)) k (st (9 + b + 32) s) := by rw [h7, upA_s]
  have qx : ∀ x, x ≠ 9 + a + 16 → x ≠ 9 + a + 32 → st7 x = st x := fun x x1 x2 => by rw [h7, upA_n x2, upA_n x1]
  -- any st' that differs from st7 in the holders alone
  have fin : ∀ st' : zS, (∀ x, x ≠ 4 → st' x = st7 x) → PIx (fup (fC st) (a * 256 + k) (fC st (b * 256 + s))) (st' 4) (st 5) fc → PI st' fc ∧ Lst st st' (a * 256 + k) ∧ fC st' (a * 256 + k) = fC st (b * 256 + s) ∧ (∀ j, j < 16 → LV st' (a * 256 + k) j = LV st (b * 256 + s) j) ∧ st' 2 4 = st 2 4 := by
    intro st' h' hP
    have hf := fC_fup (st := st) (st' := st') (y := fC st (b * 256 + s)) hk (by rw [h' _ (by omega), q16, hat]) (fun c hc hne => by rw [h' _ (by omega), qx _ (by omega) (by omega)])
    have g0 : fC st' (a * 256 + k) = fC st (b * 256 + s) := (hf _ ht).trans (if_pos rfl)
    refine ⟨⟨by rw [h' 2 (by decide), qx 2 (by omega) (by omega)]; exact P.1, ?_⟩, ⟨fun t htt hne => ?_, fun x hx => by rw [h' x (by omega), qx x (by omega) (by omega)]⟩, g0, fun j hj => ?_, by rw [h' 2 (by decide), qx 2 (by omega) (by omega)]⟩
    · rw [h' 5 (by decide), qx 5 (by omega) (by omega)]
      exact hP.congr hf (fun _ _ => rfl) (fun _ _ => rfl)
    · have e : fC st' t = fC st t := (hf t htt).trans (if_neg hne)
      refine ⟨e, fun i hi => LV_keep e (fun _ => ?_) (fun _ => by rw [h' 3 (by decide), qx 3 (by omega) (by omega)])⟩
      by_cases c : t / 256 = a
      · rw [c, h' _ (by omega), q32]
        unfold upd
        rw [if_neg (by omega)]
      · rw [h' _ (by omega), qx _ (by omega) (by omega)]
    · unfold LV
      rw [g0, show (a * 256 + k) / 256 = a by omega, show (a * 256 + k) % 256 = k by omega, show (b * 256 + s) / 256 = b by omega, show (b * 256 + s) % 256 = s by omega, h' (9 + a + 32) (by omega), q32, h' 3 (by decide), qx 3 (by omega) (by omega)]
      unfold upd
      rw [if_pos rfl]
  rcases P.2.1 _ hu with z | ⟨p, hp, z⟩
  · have z' : st (9 + b + 16) s = M1 := hat.symm.trans z
    obtain ⟨f1, f2⟩ := fin st7 (fun _ _ => rfl) (by rw [z, qx 4 (by omega) (by omega)]; exact P.2.congr (fun t _ => fup_same e0 t) (fun _ _ => rfl) (fun _ _ => rfl))
    exact ⟨st7, fun _ => rfl, fun q => absurd z' q, f1, f2⟩
  · have z' : st (9 + b + 16) s = nI p := hat.symm.trans z
    have hc := cnt_pos 4096 hu z
    have hl := cnt_le (f := fC st) (x := nI p) 4096
    obtain ⟨s1, s2⟩ := P.2.share ht e0 hp (by omega)
    obtain ⟨f1, f2⟩ := fin (upA st7 4 (upd (st7 4) p (nI (cnt (fC st) (nI p) 4096 + 1)))) (fun x hx => upA_n hx) (by rw [z, upA_s, qx 4 (by omega) (by omega)]; exact s2)
    refine ⟨_, fun q => absurd (z'.symm.trans q) (nI_m1 (by omega)), fun _ n => ?_, f1, f2⟩
    unfold fX0_addHolder
    have e4 : st7 4 p = nI (cnt (fC st) (nI p) 4096) := by rw [qx 4 (by omega) (by omega)]; exact s1
    rw [z', if_pos ((inb_nI (by omega)).mpr (by omega)), if_pos ((inb_nI (by omega)).mpr (by omega)), ncl (by omega), zl_s, e4, li1, nad]
theorem share_loop {n fc0 a b m lo s c : Nat} {W : Nat → Int32} {src : Nat → Option Nat} {X : zS → zF Unit} {st0 : zS} (ha : a < 16) (hb : b < 16) (hab : b ≠ a) (hlo : lo + c ≤ 256) (hs : s + c ≤ 256) (hdead : ∀ k, k < 256 → fC st0 (a * 256 + k) = M1) (hsrc0 : ∀ k, k < lo → src k ≠ none) (hsrc : ∀ k, k < c → src (lo + k) = some (b * 256 + (s + k))) : ∀ (q i : Nat) (st : zS), i ≤ c → c - i < q → Nxt st0 st W src a m (lo + i) → PI st fc0 → st 2 4 = st0 2 4 →
    ∃ st', fX2_shareLeaves_3 n X q (9 + b) (nI s) (9 + a) (nI lo) (nI c) (nI i) st = X st' ∧ Nxt st0 st' W src a m (lo + c) ∧ PI st' fc0 ∧ st' 2 4 = st0 2 4 := by
  have hra : isRow (9 + a) := by omega
  have hrb : isRow (9 + b) := by omega
  intro q
  induction q with
  | zero => intro i st _ h; omega
  | succ q ih =>
    intro i st h1 h2 hN hP hmd
    rw [fX2_shareLeaves_3]
    simp (disch := omega) only [nle]
    by_cases h : c ≤ i
    · rw [if_pos h]
      have e9 : i = c := by omega
      subst e9
      exact ⟨st, rfl, hN, hP, hmd⟩
    · have ht : a * 256 + (lo + i) < 4096 := by omega
      have hu : b * 256 + (s + i) < 4096 := lt4k hb (by omega)
      have e0 : fC st (a * 256 + (lo + i)) = M1 := (hN.1 _ ht (fun k hk => by omega)).1.trans (hdead _ (by omega))
      obtain ⟨u1, u2⟩ := hN.1 _ hu (fun k hk => by omega)
      obtain ⟨st', g1, g2, g3, g4, g5, g6, g7⟩ := step_share hP ha hb hab (show lo + i < 256 by omega) (show s + i < 256 by omega) e0 rfl
      have hN' : Nxt st0 st' W src a m (lo + i + 1) := hN.step (by omega) ha g4 (Or.inr (Or.inr (fun k hk => by
          by_cases hk2 : k < lo
          · exact hsrc0 k hk2
          · rw [show k = lo + (k - lo) by omega, hsrc _ (by omega)]
            exact fun q => by cases q))) (fun u hu9 => by
          rw [hsrc i (by omega)] at hu9
          cases hu9
          exact ⟨g5.trans u1, fun j hj => (g6 j hj).trans (u2 j hj)⟩) (fun z => by rw [hsrc i (by omega)] at z; cases z) (fun z => by rw [hsrc i (by omega)] at z; cases z)
      rw [if_neg h]
      simp only [nad, zl_s]
      rw [ncl (show s + i < 2147483648 by omega), ncl (show lo + i < 2147483648 by omega), if_pos ((inb_nI (by omega)).mpr (by rw [al_p hrb]; omega)), if_pos ((inb_nI (by omega)).mpr (by rw [al_p hra]; omega)), if_pos ((inb_nI (by omega)).mpr (by rw [al_n hrb]; omega)), if_pos ((inb_nI (by omega)).mpr (by rw [al_n hra]; omega)), upA_n (show 9 + a + 32 ≠ 9 + a + 16 by omega), upA_n (show 9 + b + 32 ≠ 9 + a + 16 by omega), M1e, li1, nad]
      by_cases cz : st (9 + b + 16) (s + i) = M1
      · rw [if_pos cz, ← g1 cz]
        exact ih (i + 1) st' (by omega) (by omega) hN' g3 (g7.trans hmd)
      · rw [if_neg cz, g2 cz, zb_s]
        exact ih (i + 1) st' (by omega) (by omega) hN' g3 (g7.trans hmd)
theorem new_loop {n a m : Nat} {src : Nat → Option Nat} {X : zS → zF Unit} {st0 : zS} (ha : a < 16) (hm : m ≤ 4096) (em : st0 (9 + a) 3 = nI m) (hn : 8192 < n) : ∀ (q i fc : Nat) (st : zS), i ≤ lf m → lf m - i < q → (∀ k, i ≤ k → k < lf m → src k = none) → Nxt st0 st (st0 6) src a m i → PI st fc → sm (own1 (st0 6) m) (lf m) - sm (own1 (st0 6) m) i ≤ fc →
    ∃ st' fc', fX2_newLeaves_2 n X q (9 + a) (nI i) st = X st' ∧ Nxt st0 st' (st0 6) src a m (lf m) ∧ PI st' fc' ∧ st' 2 4 = st 2 4 + nI (sm (own1 (st0 6) m) (lf m) - sm (own1 (st0 6) m) i) := by
  have hl : lf m ≤ 256 := by unfold lf; omega
  have h6 := al_6
  intro q
  induction q with
  | zero => intro i fc st _ h; omega
  | succ q ih =>
    intro i fc st h1 h2 hsrc hN hP hw
    have k6 : st 6 = st0 6 := hN.2.2 6 (by omega)
    have kr : st (9 + a) = st0 (9 + a) := hN.2.2 (9 + a) (by omega)
    rw [fX2_newLeaves_2, f_leafCount (m := m) (by omega) (by rw [kr]; exact em), zb_s]
    simp (disch := omega) only [nle]
    by_cases h : lf m ≤ i
    · rw [if_pos h]
      have e9 : i = lf m := by omega
      subst e9
      refine ⟨st, fc, rfl, hN, hP, ?_⟩
      rw [Nat.sub_self, ← li0, Int32.add_zero]
    · have hi : i * 16 < m := by unfold lf at h; omega
      have hs := hsrc i (Nat.le_refl _) (by omega)
      have hmo := sm_mono (f := own1 (st0 6) m) (show i + 1 ≤ lf m by omega)
      have hst : sm (own1 (st0 6) m) (i + 1) = sm (own1 (st0 6) m) i + own1 (st0 6) m i := rfl
      rw [if_neg h, kr, em, f_isOne hm hi hn, zb_s, k6]
      by_cases hp : pl (st0 6) i m
      · have h7 : own1 (st0 6) m i = 0 := if_pos hp
        obtain ⟨st1, fc1, s1, s2, s3, s4, s5, s6, s7⟩ := step_const (n := n) (v := st0 6 (i * 16)) hP ha (show i < 256 by omega)
        rw [if_pos hp, if_neg (by decide), li16, nml, if_pos ((inb_nI (by omega)).mpr (by omega)), ncl (by omega), s1, zb_s, li1, nad]
        obtain ⟨st', fc', r1, r2, r3, r4⟩ := ih (i + 1) fc1 st1 (by omega) (by omega) (fun k q1 q2 => hsrc k (by omega) q2) (hN.step (by omega) ha s4 (Or.inl s5) (fun u z => by rw [hs] at z; cases z) (fun _ _ => ⟨s5, fun j _ => s6 j⟩) (fun _ z => absurd hp z)) s2 (by omega)
        refine ⟨st', fc', r1, r2, r3, ?_⟩
        rw [r4, s7, hst, h7, Nat.add_zero]
      · have h7 : own1 (st0 6) m i = 1 := if_neg hp
        obtain ⟨st1, fc1, s1, s2, s3, s4, s5, s6, s7, s8⟩ := step_own (n := n) hP ha hi hm (by rw [kr]; exact em) (by omega)
        rw [if_neg hp, if_pos (by decide), s1, zb_s, li1, nad]
        obtain ⟨st', fc', r1, r2, r3, r4⟩ := ih (i + 1) fc1 st1 (by omega) (by omega) (fun k q1 q2 => hsrc k (by omega) q2) (hN.step (by omega) ha s4 (Or.inr (Or.inl s6)) (fun u z => by rw [hs] at z; cases z) (fun _ z => absurd z hp) (fun _ _ => ⟨s5, s6, fun j hj => by rw [s7 j hj, k6]⟩)) s2 (by omega)
        refine ⟨st', fc', r1, r2, r3, ?_⟩
        rw [r4, s8, Int32.add_assoc, li1, nad]
        congr 2
        omega
