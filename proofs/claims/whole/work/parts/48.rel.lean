/-! how the class's contents and the reference's belong together -/
def Rel (st rt : zS) (fc md : Nat) : Prop :=
  PI st fc ∧ MR rt md ∧ st 2 4 = nI md ∧ (∀ a, a < 16 → st (9 + a) 2 = rt 1 a) ∧ (∀ a, a < 16 → rt 1 a = 1 → st (9 + a) 3 = nI (LR rt a)) ∧
  (∀ a k, a < 16 → k < 256 → (rt 1 a = 0 ∨ lf (LR rt a) ≤ k) → fC st (a * 256 + k) = M1) ∧
  (∀ a i, a < 16 → rt 1 a = 1 → i < LR rt a → rt 3 (a * 4096 + i) = VR st (9 + a) i) ∧ Eqv (fC st) (fR rt)
theorem Rel.pi {st rt : zS} {fc md : Nat} (R : Rel st rt fc md) : PI st fc := R.1
theorem Rel.mr {st rt : zS} {fc md : Nat} (R : Rel st rt fc md) : MR rt md := R.2.1
theorem Rel.md {st rt : zS} {fc md : Nat} (R : Rel st rt fc md) : st 2 4 = nI md := R.2.2.1
theorem Rel.there {st rt : zS} {fc md : Nat} (R : Rel st rt fc md) {a : Nat} (ha : a < 16) : st (9 + a) 2 = rt 1 a := R.2.2.2.1 a ha
theorem Rel.len {st rt : zS} {fc md : Nat} (R : Rel st rt fc md) {a : Nat} (ha : a < 16) (ht : rt 1 a = 1) : st (9 + a) 3 = nI (LR rt a) := R.2.2.2.2.1 a ha ht
theorem Rel.lenR {st rt : zS} {fc md : Nat} (R : Rel st rt fc md) {a : Nat} (ha : a < 16) (ht : rt 1 a = 1) : rt 2 a = nI (LR rt a) := (R.mr.2.1 a ha ht).1
theorem Rel.le {st rt : zS} {fc md : Nat} (R : Rel st rt fc md) {a : Nat} (ha : a < 16) (ht : rt 1 a = 1) : LR rt a ≤ 4096 := (R.mr.2.1 a ha ht).2
theorem Rel.dead {st rt : zS} {fc md : Nat} (R : Rel st rt fc md) {a k : Nat} (ha : a < 16) (hk : k < 256) (h : rt 1 a = 0 ∨ lf (LR rt a) ≤ k) : fC st (a * 256 + k) = M1 := R.2.2.2.2.2.1 a k ha hk h
theorem Rel.val {st rt : zS} {fc md : Nat} (R : Rel st rt fc md) {a i : Nat} (ha : a < 16) (ht : rt 1 a = 1) (hi : i < LR rt a) : rt 3 (a * 4096 + i) = VR st (9 + a) i := R.2.2.2.2.2.2.1 a i ha ht hi
theorem Rel.eqv {st rt : zS} {fc md : Nat} (R : Rel st rt fc md) : Eqv (fC st) (fR rt) := R.2.2.2.2.2.2.2
theorem Rel.fc {st rt : zS} {fc md : Nat} (R : Rel st rt fc md) : fc + dst (fR rt) 4096 = 512 := by rw [← Eqv_dst R.eqv 4096 (Nat.le_refl _)]; exact R.pi.fc_eq
theorem fC_c {st st' : zS} (h : ∀ x, 25 ≤ x → st' x = st x) {t : Nat} (ht : t < 4096) : fC st' t = fC st t := fC_keep (fun b hb => h _ (by omega)) ht
theorem PI_c {st st' : zS} {fc : Nat} (P : PI st fc) (h : ∀ x, x ≠ 6 → x ≠ 7 → x ≠ 8 → st' x = st x) : PI st' fc := by
  refine ⟨by rw [h 2 (by decide) (by decide) (by decide)]; exact P.1, P.2.congr (fun t ht => fC_keep (fun b hb => h _ (by omega) (by omega) (by omega)) ht) (fun p _ => by rw [h 4 (by decide) (by decide) (by decide)]) (fun j _ => by rw [h 5 (by decide) (by decide) (by decide)])⟩
theorem VR_c {st st' : zS} {a i : Nat} (h : ∀ x, x ≠ 6 → x ≠ 7 → x ≠ 8 → st' x = st x) : VR st' (9 + a) i = VR st (9 + a) i := by
  unfold VR
  rw [h (9 + a + 16) (by omega) (by omega) (by omega), h (9 + a + 32) (by omega) (by omega) (by omega), h 3 (by decide) (by decide) (by decide)]
theorem Eqv_c {f f' g g' : Nat → Int32} (h : Eqv f g) (hf : ∀ t, t < 4096 → f' t = f t) (hg : ∀ t, t < 4096 → g' t = g t) : Eqv f' g' := fun t u ht hu => by rw [hf t ht, hf u hu, hg t ht, hg u hu]; exact h t u ht hu
theorem Rel_c {st st' rt rt' : zS} {fc md : Nat} (R : Rel st rt fc md) (h : ∀ x, x ≠ 6 → x ≠ 7 → x ≠ 8 → st' x = st x) (h1 : rt' 1 = rt 1) (h2 : rt' 2 = rt 2) (h3 : ∀ j, j < 65536 → rt' 3 j = rt 3 j) (h4 : ∀ t, t < 4096 → rt' 4 t = rt 4 t) (h0 : rt' 0 6 = rt 0 6) : Rel st' rt' fc md := by
  refine ⟨PI_c R.pi h, MR_c R.mr h1 h2 h4 h0, ?_, ?_, ?_, ?_, ?_, ?_⟩
  · rw [h 2 (by decide) (by decide) (by decide)]; exact R.md
  · intro a ha; rw [h _ (by omega) (by omega) (by omega), h1]; exact R.there ha
  · intro a ha ht; rw [h _ (by omega) (by omega) (by omega), LR_c h2]; exact R.len ha (by rw [← h1]; exact ht)
  · intro a k ha hk hd
    rw [h1, LR_c h2] at hd
    rw [fC_keep (fun b hb => h _ (by omega) (by omega) (by omega)) (lt4k ha hk)]
    exact R.dead ha hk hd
  · intro a i ha ht hi
    rw [h1] at ht
    rw [LR_c h2] at hi
    have := R.le ha ht
    rw [h3 _ (by omega), VR_c h]
    exact R.val ha ht hi
  · exact Eqv_c R.eqv (fun t ht => fC_keep (fun b hb => h _ (by omega) (by omega) (by omega)) ht) (fun t ht => fR_c h1 h2 h4 ht)
/-! one call: the class's outcome F, the reference's G -/
def Ok {α : Type} (F G : zF α) (md : Nat) : Prop := ∃ st' rt' fc' md', Rel st' rt' fc' md' ∧ md' ≤ md + 256 ∧ ((∃ v, F = some (.inl v, st') ∧ G = some (.inl v, rt') ∧ rt' 0 0 = nI 0) ∨ ∃ b v, F = some (.inr b, st') ∧ G = some (.inl v, rt') ∧ rt' 0 0 = nI (if b then 1 else 2))
theorem lt_t {a k : Nat} (ha : a < 16) (hk : k < 256) : (a * 256 + k) / 256 = a ∧ (a * 256 + k) % 256 = k := by omega
theorem Rel.mark {st rt : zS} {fc md : Nat} (R : Rel st rt fc md) {a k : Nat} (ha : a < 16) (ht : rt 1 a = 1) (hk : k < lf (LR rt a)) : fR rt (a * 256 + k) = rt 4 (a * 256 + k) := by
  have := R.le ha ht
  have hk2 : k < 256 := by unfold lf at hk; omega
  obtain ⟨e1, e2⟩ := lt_t ha hk2
  unfold fR
  rw [e1, e2, if_pos ⟨by rw [ht]; decide, hk⟩]
theorem plan_eq {st rt : zS} {fc md a k : Nat} {w : Nat → Int32} (R : Rel st rt fc md) (ha : a < 16) (ht : rt 1 a = 1) (hk : k < lf (LR rt a)) : plan st w a (LR rt a) k = planR rt w a (LR rt a) k := by
  have hle := R.le ha ht
  have hk2 : k < 256 := by unfold lf at hk; omega
  have e1 : sam (VR st (9 + a)) w k (LR rt a) ↔ sam (fun i => rt 3 (a * 4096 + i)) w k (LR rt a) :=
    ⟨fun h i hi hm => by show rt 3 (a * 4096 + (k * 16 + i)) = _; rw [R.val ha ht hm]; exact h i hi hm, fun h i hi hm => by rw [← R.val ha ht hm]; exact h i hi hm⟩
  have t4 : a * 256 + k < 4096 := lt4k ha hk2
  have e2 := (R.eqv (a * 256 + k) (a * 256 + k) t4 t4).1
  have e3 := Eqv_cnt R.eqv t4 (Nat.le_refl 4096)
  rw [R.mark ha ht hk] at e2 e3
  unfold plan planR
  rw [e3]
  by_cases c1 : sam (VR st (9 + a)) w k (LR rt a)
  · rw [if_pos c1, if_pos (e1.mp c1)]
  · rw [if_neg c1, if_neg (fun z => c1 (e1.mpr z))]
    by_cases c2 : pl w k (LR rt a)
    · rw [if_pos c2, if_pos c2]
    · rw [if_neg c2, if_neg c2]
      by_cases c3 : fC st (a * 256 + k) = M1
      · rw [if_neg (fun z => z.1 c3), if_neg (fun z => z.1 (e2.mp c3))]
      · have c4 : rt 4 (a * 256 + k) ≠ M1 := fun z => c3 (e2.mpr z)
        by_cases c5 : cnt (fR rt) (rt 4 (a * 256 + k)) 4096 = 1
        · rw [if_pos ⟨c3, c5⟩, if_pos ⟨c4, c5⟩]
        · rw [if_neg (fun z => c5 z.2), if_neg (fun z => c5 z.2)]
theorem wn_eq {st rt : zS} {fc md a : Nat} {w : Nat → Int32} (R : Rel st rt fc md) (ha : a < 16) (ht : rt 1 a = 1) : ∀ e, e ≤ lf (LR rt a) → wn st w a (LR rt a) e = RN rt w a (LR rt a) e := fun e he => sm_congr e (fun i hi => by rw [plan_eq R ha ht (by omega)])
