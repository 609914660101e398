/-! the reference's keep -/
def M2 : Int32 := -2
theorem M2e : (-2 : Int32) = M2 := rfl
theorem M2_M1 : M2 ≠ M1 := by decide
theorem nI_m2 {p : Nat} (h : p < 2147483648) : nI p ≠ M2 := by
  intro e
  unfold M2 at e
  have h2 := congrArg Int32.toInt e
  rw [nI_toInt h] at h2
  have h3 : ((-2 : Int32)).toInt = -2 := by decide +kernel
  omega
def svr (rt : zS) (i : Nat) : Int32 := rt 3 (65536 + i)
theorem plain_loop {n k N : Nat} {X : Int32 → zS → zF Int32} {st : zS} (hN : N ≤ 16) (hk : k < 256) : ∀ (q i : Nat), i ≤ N → N - i < q → fX3_isPlain_5 n X q (nI (65536 + 16 * k)) (nI N) (fl (plf (svr st) k i)) (nI i) st = X (fl (plf (svr st) k N)) st := by
  have h3 := ml_3
  intro q
  induction q with
  | zero => intro i _ h; omega
  | succ q ih =>
    intro i h1 hq
    by_cases c : N ≤ i
    · have e : i = N := by omega
      subst e
      rw [fX3_isPlain_5, if_pos (by rw [nle (by omega) (by omega)]; exact c)]
    · have e1 : st 3 (65536 + 16 * k + i) = svr st (k * 16 + i) := by unfold svr; congr 1; omega
      have e2 : st 3 (65536 + 16 * k) = svr st (k * 16) := by unfold svr; congr 1; omega
      rw [fX3_isPlain_5, if_neg (by rw [nle (by omega) (by omega)]; exact c), nad, li1, nad]
      by_cases d : plf (svr st) k i
      · rw [if_neg (by rw [fl_0]; exact fun z => z d), if_pos ((inb_nI (by omega)).mpr (by omega)), if_pos ((inb_nI (by omega)).mpr (by omega)), ncl (by omega), ncl (by omega), e1, e2]
        by_cases e : svr st (k * 16 + i) = svr st (k * 16)
        · rw [if_pos e, ← li1, fl_t (plf_s.mpr ⟨d, e⟩), ih (i + 1) (by omega) (by omega)]
        · rw [if_neg e, fl_f (fun z => e (plf_s.mp z).2), ih (i + 1) (by omega) (by omega)]
      · rw [if_pos (by rw [fl_0]; exact d), fl_f (fun z => d (plf_s.mp z).1), ih (i + 1) (by omega) (by omega)]
theorem fl_01 {P : Prop} [Decidable P] : fl P = 0 ∨ fl P = 1 := by unfold fl; split; exact Or.inr rfl; exact Or.inl rfl
theorem f_isPlain {n k m : Nat} {st : zS} (hm : m ≤ 4096) (hk : k * 16 < m) (hn : 200000 ≤ n) : fX3_isPlain n (nI (65536 + 16 * k)) (nI (vin m k)) st = some (.inl (fl (pl (svr st) k m)), st) := by
  have hv := vin_le (m := m) (k := k)
  have hv0 : 1 ≤ vin m k := by unfold vin; split <;> omega
  unfold fX3_isPlain
  have e1 : (1 : Int32) = fl (plf (svr st) k 1) := fl_t (fun i hi => by rw [show i = 0 by omega]; rfl)
  have h := plain_loop (n := n) (X := fun (i3 : Int32) (st : zS) => (if (i3 = 0 ∨ i3 = 1) then some (.inl i3, st) else none)) (st := st) hv (show k < 256 by omega) n 1 hv0 (by omega)
  rw [← e1, ← li1, if_pos fl_01, fl_c plf_pl] at h
  exact h
def K4 (rt : zS) (m : Nat) : Nat → Nat := sm (fun k => if rt 4 (4096 + k) = M2 ∧ ¬ pl (svr rt) k m then 1 else 0)
theorem K4_s {rt : zS} {m i : Nat} : K4 rt m (i + 1) = K4 rt m i + (if rt 4 (4096 + i) = M2 ∧ ¬ pl (svr rt) i m then 1 else 0) := rfl
theorem K4_le {rt : zS} {m i : Nat} : K4 rt m i ≤ i := sm_le (fun i => by split <;> omega) i
def gk (rt : zS) (m i j : Nat) : Int32 := if 4096 ≤ j ∧ j < 4096 + i ∧ rt 4 j = M2 ∧ pl (svr rt) (j - 4096) m then M1 else rt 4 j
theorem gk_at {rt : zS} {m i : Nat} : gk rt m i (4096 + i) = rt 4 (4096 + i) := by unfold gk; rw [if_neg (by omega)]
theorem gk_lo {rt : zS} {m i t : Nat} (h : t < 4096) : gk rt m i t = rt 4 t := by unfold gk; rw [if_neg (by omega)]
theorem gk_s {rt : zS} {m i : Nat} (h : rt 4 (4096 + i) = M2) (hp : pl (svr rt) i m) : upd (gk rt m i) (4096 + i) M1 = gk rt m (i + 1) := by
  funext j
  unfold upd gk
  by_cases e : j = 4096 + i
  · rw [if_pos e, if_pos ⟨by omega, by omega, by rw [e]; exact h, by rw [e, show 4096 + i - 4096 = i by omega]; exact hp⟩]
  · rw [if_neg e]
    by_cases c : 4096 ≤ j ∧ j < 4096 + i ∧ rt 4 j = M2 ∧ pl (svr rt) (j - 4096) m
    · rw [if_pos c, if_pos ⟨c.1, by omega, c.2.2⟩]
    · rw [if_neg c, if_neg (fun z => c ⟨z.1, by omega, z.2.2⟩)]
theorem gk_n {rt : zS} {m i : Nat} (h : ¬ (rt 4 (4096 + i) = M2 ∧ pl (svr rt) i m)) : gk rt m i = gk rt m (i + 1) := by
  funext j
  unfold gk
  by_cases c : 4096 ≤ j ∧ j < 4096 + i ∧ rt 4 j = M2 ∧ pl (svr rt) (j - 4096) m
  · rw [if_pos c, if_pos ⟨c.1, by omega, c.2.2⟩]
  · rw [if_neg c, if_neg (fun z => ?_)]
    by_cases e : j = 4096 + i
    · refine h ⟨by rw [← e]; exact z.2.2.1, ?_⟩
      have := z.2.2.2
      rw [e, show 4096 + i - 4096 = i by omega] at this
      exact this
    · exact c ⟨z.1, by omega, z.2.2⟩
theorem keep4 {n m : Nat} {X : Int32 → Int32 → zS → zF Int32} {rt : zS} (hm : m ≤ 4096) (hn : 200000 ≤ n) : ∀ (q i : Nat), i ≤ lf m → lf m - i < q → fX3_keep_4 n X q (nI m) (nI (K4 rt m i)) (nI i) (upA rt 4 (gk rt m i)) = X (nI m) (nI (K4 rt m (lf m))) (upA rt 4 (gk rt m (lf m))) := by
  have hl : lf m ≤ 256 := by unfold lf; omega
  have h4 := ml_4
  intro q
  induction q with
  | zero => intro i _ h; omega
  | succ q ih =>
    intro i h1 hq
    by_cases c : lf m ≤ i
    · have e : i = lf m := by omega
      subst e
      rw [fX3_keep_4, f_leaves (by omega), zb_s, if_pos (by rw [nle (by omega) (by omega)]; exact c)]
    · have hk : i * 16 < m := by unfold lf at c; omega
      have hs : svr (upA rt 4 (gk rt m i)) = svr rt := by funext j; unfold svr; rw [upA_n (by decide)]
      rw [fX3_keep_4, f_leaves (by omega), zb_s, if_neg (by rw [nle (by omega) (by omega)]; exact c), li4096, nad, if_pos ((inb_nI (by omega)).mpr (by omega)), ncl (by omega), upA_s, gk_at, M2e]
      by_cases d : rt 4 (4096 + i) = M2
      · rw [if_pos d, f_inLeaf hm hk, zb_s, li65536, li16, nml, nad, f_isPlain hm hk hn, zb_s, hs, li1, nad]
        by_cases p : pl (svr rt) i m
        · rw [if_neg (by rw [fl_0]; exact fun z => z p), if_pos ((inb_nI (by omega)).mpr (by omega)), zl_s, if_neg (by rw [fl_0]; exact fun z => z p), upA_uu, upA_s, lim, gk_s d p, li0, nad, nad]
          have e := K4_s (rt := rt) (m := m) (i := i)
          rw [if_neg (fun z => z.2 p)] at e
          rw [← e]
          exact ih (i + 1) (by omega) (by omega)
        · rw [if_pos (by rw [fl_0]; exact p), if_pos (by rw [fl_0]; exact p), nad, gk_n (fun z => p z.2)]
          have e := K4_s (rt := rt) (m := m) (i := i)
          rw [if_pos ⟨d, p⟩] at e
          rw [← e]
          exact ih (i + 1) (by omega) (by omega)
      · rw [if_neg d, li1, nad, gk_n (fun z => d z.1)]
        have e : K4 rt m (i + 1) = K4 rt m i := by rw [K4_s, if_neg (fun z => d z.1)]; rfl
        rw [← e]
        exact ih (i + 1) (by omega) (by omega)
theorem keep132 {n a m : Nat} {X : Int32 → Int32 → zS → zF Int32} {rt : zS} (ha : a < 16) (hm : m ≤ 4096) (hn : 200000 ≤ n) :
    fX3_keep_132 n X n (nI m) (nI a) (nI 0) rt = X (nI m) (nI a) (upA rt 3 (fun j => if a * 4096 ≤ j ∧ j < a * 4096 + m then rt 3 (65536 + (j - a * 4096)) else rt 3 j)) := by
  have h3 := ml_3
  refine wr_loop (F := fun q i s => fX3_keep_132 n X q (nI m) (nI a) (nI i) s) (X := fun s => X (nI m) (nI a) s) (K := 3) (N := m) (b := a * 4096) (val := fun i => rt 3 (65536 + i)) (st := rt) ?_ ?_ n (by omega)
  · intro q g _
    show fX3_keep_132 n X (q + 1) (nI m) (nI a) (nI m) _ = _
    rw [fX3_keep_132, if_pos (by rw [nle (by omega) (by omega)]; omega)]
  · intro q i g hi hg
    show fX3_keep_132 n X (q + 1) (nI m) (nI a) (nI i) _ = fX3_keep_132 n X q (nI m) (nI a) (nI (i + 1)) _
    rw [fX3_keep_132, if_neg (by rw [nle (by omega) (by omega)]; omega), li65536, nad, if_pos ((inb_nI (by omega)).mpr (by omega)), li4096, nml, nad, if_pos ((inb_nI (by omega)).mpr (by omega)), zl_s, li1, nad, ncl (by omega), ncl (by omega), upA_s, upA_uu, hg _ (by omega), Nat.mul_comm 4096 a]
def KK (s : zS) : Nat → Nat := sm (fun k => if s 4 (4096 + k) = M2 then 1 else 0)
theorem KK_s {s : zS} {i : Nat} : KK s (i + 1) = KK s i + (if s 4 (4096 + i) = M2 then 1 else 0) := rfl
theorem KK_le {s : zS} {i : Nat} : KK s i ≤ i := sm_le (fun i => by split <;> omega) i
def kv (s : zS) (md k : Nat) : Int32 := if s 4 (4096 + k) = M2 then nI (md + KK s k) else s 4 (4096 + k)
def km (s : zS) (a md i t : Nat) : Int32 := if a * 256 ≤ t ∧ t < a * 256 + i then kv s md (t - a * 256) else s 4 t
def curk (s : zS) (a md i : Nat) : zS := upA (upA s 4 (km s a md i)) 0 (upd (s 0) 6 (nI (md + KK s i)))
theorem curk_4 {s : zS} {a md i : Nat} : curk s a md i 4 = km s a md i := by unfold curk; rw [upA_n (by decide), upA_s]
theorem curk_0 {s : zS} {a md i : Nat} : curk s a md i 0 = upd (s 0) 6 (nI (md + KK s i)) := by unfold curk; rw [upA_s]
theorem curk_n {s : zS} {a md i x : Nat} (h0 : x ≠ 0) (h4 : x ≠ 4) : curk s a md i x = s x := by unfold curk; rw [upA_n h0, upA_n h4]
theorem km_s {s : zS} {a md i : Nat} {v : Int32} (hv : v = kv s md i) : upd (km s a md i) (a * 256 + i) v = km s a md (i + 1) := by
  funext t
  unfold upd km
  by_cases e : t = a * 256 + i
  · rw [if_pos e, if_pos (by omega), hv, e, show a * 256 + i - a * 256 = i by omega]
  · rw [if_neg e]
    by_cases c : a * 256 ≤ t ∧ t < a * 256 + i
    · rw [if_pos c, if_pos (by omega)]
    · rw [if_neg c, if_neg (by omega)]
theorem curk_w {s : zS} {a md i : Nat} {v z : Int32} (hv : v = kv s md i) (hz : z = nI (md + KK s (i + 1))) : upA (upA (curk s a md i) 4 (upd (km s a md i) (a * 256 + i) v)) 0 (upd (curk s a md i 0) 6 z) = curk s a md (i + 1) := by
  rw [curk_0, km_s hv, upd_uu, hz]
  funext x
  unfold curk
  by_cases x0 : x = 0
  · subst x0; rw [upA_s, upA_s]
  · rw [upA_n x0, upA_n x0]
    by_cases x4 : x = 4
    · subst x4; rw [upA_s, upA_s]
    · rw [upA_n x4, upA_n x4, upA_n x0, upA_n x4]
theorem curk_z {s : zS} {a md : Nat} (h : s 0 6 = nI md) : curk s a md 0 = s := by
  funext x
  by_cases x0 : x = 0
  · subst x0; rw [curk_0]
    have e : KK s 0 = 0 := rfl
    rw [e, Nat.add_zero, ← h, upd_self]
  · by_cases x4 : x = 4
    · subst x4; rw [curk_4]; funext t; unfold km; rw [if_neg (by omega)]
    · exact curk_n x0 x4
theorem keep170 {n a m md : Nat} {X : Int32 → zS → zF Int32} {s : zS} (ha : a < 16) (hm : m ≤ 4096) (hn : 200000 ≤ n) : ∀ (q i : Nat), i ≤ lf m → lf m - i < q → fX3_keep_170 n X q (nI m) (nI a) (nI i) (curk s a md i) = X (nI a) (curk s a md (lf m)) := by
  have hl : lf m ≤ 256 := by unfold lf; omega
  have h4 := ml_4
  intro q
  induction q with
  | zero => intro i _ h; omega
  | succ q ih =>
    intro i h1 hq
    by_cases c : lf m ≤ i
    · have e : i = lf m := by omega
      subst e
      rw [fX3_keep_170, f_leaves (by omega), zb_s, if_pos (by rw [nle (by omega) (by omega)]; exact c)]
    · have hkm : km s a md i (4096 + i) = s 4 (4096 + i) := by unfold km; rw [if_neg (by omega)]
      have h06 : curk s a md i 0 6 = nI (md + KK s i) := by rw [curk_0, upd_at]
      have go : ∀ v : Int32, v = kv s md i → fX3_keep_220 n (fun (i1 : Int32) (i3 : Int32) (i4 : Int32) (st : zS) => fX3_keep_170 n X q i1 i3 i4 st) (nI m) (nI a) (nI i) (s 4 (4096 + i)) v (nI (256 * a + i)) (curk s a md i) = X (nI a) (curk s a md (lf m)) := by
        intro v hv
        unfold fX3_keep_220
        have e0 : ∀ g, upA (curk s a md i) 4 g 0 = curk s a md i 0 := fun g => upA_n (by decide)
        rw [if_pos ((inb_nI (by omega)).mpr (by omega)), zl_s, ncl (by omega), curk_4, e0, h06, show 256 * a + i = a * 256 + i by omega, M2e]
        have e := KK_s (s := s) (i := i)
        by_cases d : s 4 (4096 + i) = M2
        · rw [if_pos d] at e
          rw [if_pos d, zl_s, li1, nad, nad, curk_w hv (by rw [e, Nat.add_assoc])]
          exact ih (i + 1) (by omega) (by omega)
        · rw [if_neg d] at e
          rw [if_neg d, zl_s, li1, nad, li0, nad, curk_w hv (by rw [e, Nat.add_assoc])]
          exact ih (i + 1) (by omega) (by omega)
      rw [fX3_keep_170, f_leaves (by omega), zb_s, if_neg (by rw [nle (by omega) (by omega)]; exact c), li4096, nad, if_pos ((inb_nI (by omega)).mpr (by omega)), ncl (by omega), curk_4, hkm, h06, li256, nml, nad, M2e]
      by_cases d : s 4 (4096 + i) = M2
      · rw [if_pos d]
        exact go _ (by unfold kv; rw [if_pos d])
      · rw [if_neg d]
        exact go _ (by unfold kv; rw [if_neg d])
