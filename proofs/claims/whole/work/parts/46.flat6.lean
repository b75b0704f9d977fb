/-- the Path at a (arrays k, n) holds the N commands of the row m -/
def numR (V : vM) (n : Nat) (m : Nat → Int32) (i : Nat) : Prop :=
  (m (i * 7) = 0 ∨ m (i * 7) = 1 → V n (i * 6) = m (i * 7 + 5) ∧ V n (i * 6 + 1) = m (i * 7 + 6)) ∧
  (m (i * 7) = 2 → V n (i * 6) = m (i * 7 + 1) ∧ V n (i * 6 + 1) = m (i * 7 + 2) ∧ V n (i * 6 + 2) = m (i * 7 + 5) ∧ V n (i * 6 + 3) = m (i * 7 + 6)) ∧
  (m (i * 7) = 3 → V n (i * 6) = m (i * 7 + 1) ∧ V n (i * 6 + 1) = m (i * 7 + 2) ∧ V n (i * 6 + 2) = m (i * 7 + 3) ∧ V n (i * 6 + 3) = m (i * 7 + 4) ∧ V n (i * 6 + 4) = m (i * 7 + 5) ∧ V n (i * 6 + 5) = m (i * 7 + 6)) ∧
  (m (i * 7) = 4 → V n (i * 6) = ex7 m i ∧ V n (i * 6 + 1) = ey7 m i)
def PR (V : vM) (a k n N : Nat) (m : Nat → Int32) : Prop := V a 2 = nI N ∧ V a 3 = nI (cntM (kd7 m) N) ∧ WF m N ∧ ∀ i, i < N → V k i = m (i * 7) ∧ numR V n m i
theorem PR.kept {V U : vM} {a k n N : Nat} {m : Nat → Int32} (h : PR V a k n N m) (h1 : ∀ i, U a i = V a i) (h2 : ∀ i, U k i = V k i) (h3 : ∀ i, U n i = V n i) : PR U a k n N m := by
  obtain ⟨p1, p2, p3, p4⟩ := h
  refine ⟨by rw [h1]; exact p1, by rw [h1]; exact p2, p3, fun i hi => ⟨by rw [h2]; exact (p4 i hi).1, ?_⟩⟩
  have := (p4 i hi).2
  unfold numR at this ⊢
  simp only [h3]
  exact this
theorem PR.kok {V : vM} {a k n N : Nat} {m : Nat → Int32} (h : PR V a k n N m) : kok V a k := by
  obtain ⟨p1, p2, p3, p4⟩ := h
  refine ⟨szok_of p1 p3.1, fun i hi h24 => ?_⟩
  rw [p1, nI_ltI (by omega) (by have := p3.1; omega)] at hi
  rw [(p4 i hi).1]
  exact (p3.2 i hi).1
theorem PR.ki {V : vM} {a k n N : Nat} {m : Nat → Int32} (h : PR V a k n N m) {i : Nat} (hi : i < N) : kiV V a k (nI i) = m (i * 7) := by
  obtain ⟨p1, p2, p3, p4⟩ := h
  have := p3.1
  unfold kiV
  rw [if_pos ⟨nI_pos' (by omega), by rw [p1]; exact nI_lt hi (by omega)⟩, nI_clamp (by omega)]
  exact (p4 i hi).1
theorem PR.nb {V : vM} {a k n N : Nat} {m : Nat → Int32} (h : PR V a k n N m) {i : Nat} (hi : i < N) {j : Nat} (hj : j < 6) : nbV V a n (nI i) (nI j) = V n (i * 6 + j) := by
  obtain ⟨p1, p2, p3, p4⟩ := h
  have := p3.1
  unfold nbV
  rw [if_pos ⟨nI_pos' (by omega), by rw [p1]; exact nI_lt hi (by omega), nI_pos' (by omega), (nI_ltI (a := j) (b := 6) (by omega) (by omega)).mpr hj⟩]
  rw [show nI i * 6 + nI j = nI (i * 6 + j) from nadd (nmul rfl rfl) rfl, nI_clamp (by omega)]
theorem PR.pt {V : vM} {a k n N : Nat} {m : Nat → Int32} (h : PR V a k n N m) {i : Nat} (hi : i < N) : ptV V a k (nI i) = pV (m (i * 7)).toNatClampNeg := by
  unfold ptV
  rw [h.ki hi]
theorem k5 {x : Int32} (h : 0 ≤ x ∧ x ≤ 4) : x = 0 ∨ x = 1 ∨ x = 2 ∨ x = 3 ∨ x = 4 := by grind
theorem PR.exy {V : vM} {a k n N : Nat} {m : Nat → Int32} (h : PR V a k n N m) {i : Nat} (hi : i < N) : nbV V a n (nI i) (2 * ptV V a k (nI i) - 2) = ex7 m i ∧ nbV V a n (nI i) (2 * ptV V a k (nI i) - 1) = ey7 m i := by
  rw [h.pt hi]
  obtain ⟨q1, q2, q3, q4⟩ := (h.2.2.2 i hi).2
  rcases k5 (h.2.2.1.2 i hi).1 with e | e | e | e | e
  · have ne : ¬ m (i * 7) = 4 := by rw [e]; decide
    rw [e]
    have a1 := h.nb hi (j := 0) (by omega); have a2 := h.nb hi (j := 1) (by omega)
    refine ⟨?_, ?_⟩
    · show nbV V a n (nI i) (nI 0) = _
      rw [a1, ex7, if_neg ne]; exact (q1 (Or.inl e)).1
    · show nbV V a n (nI i) (nI 1) = _
      rw [a2, ey7, if_neg ne]; exact (q1 (Or.inl e)).2
  · have ne : ¬ m (i * 7) = 4 := by rw [e]; decide
    rw [e]
    have a1 := h.nb hi (j := 0) (by omega); have a2 := h.nb hi (j := 1) (by omega)
    refine ⟨?_, ?_⟩
    · show nbV V a n (nI i) (nI 0) = _
      rw [a1, ex7, if_neg ne]; exact (q1 (Or.inr e)).1
    · show nbV V a n (nI i) (nI 1) = _
      rw [a2, ey7, if_neg ne]; exact (q1 (Or.inr e)).2
  · have ne : ¬ m (i * 7) = 4 := by rw [e]; decide
    rw [e]
    have a1 := h.nb hi (j := 2) (by omega); have a2 := h.nb hi (j := 3) (by omega)
    refine ⟨?_, ?_⟩
    · show nbV V a n (nI i) (nI 2) = _
      rw [a1, ex7, if_neg ne]; exact (q2 e).2.2.1
    · show nbV V a n (nI i) (nI 3) = _
      rw [a2, ey7, if_neg ne]; exact (q2 e).2.2.2
  · have ne : ¬ m (i * 7) = 4 := by rw [e]; decide
    rw [e]
    have a1 := h.nb hi (j := 4) (by omega); have a2 := h.nb hi (j := 5) (by omega)
    refine ⟨?_, ?_⟩
    · show nbV V a n (nI i) (nI 4) = _
      rw [a1, ex7, if_neg ne]; exact (q3 e).2.2.2.2.1
    · show nbV V a n (nI i) (nI 5) = _
      rw [a2, ey7, if_neg ne]; exact (q3 e).2.2.2.2.2
  · rw [e]
    have a1 := h.nb hi (j := 0) (by omega); have a2 := h.nb hi (j := 1) (by omega)
    refine ⟨?_, ?_⟩
    · show nbV V a n (nI i) (nI 0) = _
      rw [a1]; exact (q4 e).1
    · show nbV V a n (nI i) (nI 1) = _
      rw [a2]; exact (q4 e).2
/-- the numbers of a curve's points, in their order; a curve from the point before -/
def nb7 (m : Nat → Int32) (i j : Nat) : Int32 := if m (i * 7) = 2 then (if j < 2 then m (i * 7 + 1 + j) else m (i * 7 + 3 + j)) else m (i * 7 + 1 + j)
def cv7 (m : Nat → Int32) (i : Nat) : Nat → Int32 := cst (ex7 m (i - 1)) (ey7 m (i - 1)) (nb7 m i)
theorem PR.cv {V : vM} {a k n N : Nat} {m : Nat → Int32} (h : PR V a k n N m) {i : Nat} (hi : i < N) {l : Nat} (hl : l = 2 ∨ l = 3) (hk : m (i * 7) = nI l) : ptV V a k (nI i) = nI l ∧ 0 < i ∧ ∀ j, j < 2 * l + 2 → cv7 m i j = cst (nbV V a n (nI i - 1) (2 * ptV V a k (nI i - 1) - 2)) (nbV V a n (nI i - 1) (2 * ptV V a k (nI i - 1) - 1)) (fun j => nbV V a n (nI i) (nI j)) j := by
  have h0 : m (i * 7) ≠ 0 := by rw [hk]; rcases hl with rfl | rfl <;> decide
  obtain ⟨i1, rfl, -⟩ := (h.2.2.1.2 i hi).2.1 h0
  rw [nI_pred]
  obtain ⟨e1, e2⟩ := h.exy (i := i1) (by omega)
  rw [e1, e2]
  refine ⟨by rw [h.pt hi, hk]; rcases hl with rfl | rfl <;> rfl, by omega, fun j hj => ?_⟩
  unfold cv7 cst
  rw [Nat.add_sub_cancel]
  by_cases j0 : j = 0
  · rw [if_pos j0, if_pos j0]
  · by_cases j1 : j = 1
    · rw [if_neg j0, if_neg j0, if_pos j1, if_pos j1]
    · rw [if_neg j0, if_neg j0, if_neg j1, if_neg j1]
      show nb7 m (i1 + 1) (j - 2) = nbV V a n (nI (i1 + 1)) (nI (j - 2))
      rw [h.nb hi (j := j - 2) (by omega)]
      obtain ⟨q1, q2, q3, q4⟩ := (h.2.2.2 (i1 + 1) hi).2
      unfold nb7
      rcases hl with rfl | rfl
      · have e : m ((i1 + 1) * 7) = 2 := hk
        rw [if_pos e]
        obtain ⟨b0, b1, b2, b3⟩ := q2 e
        have : j = 2 ∨ j = 3 ∨ j = 4 ∨ j = 5 := by omega
        rcases this with rfl | rfl | rfl | rfl
        · rw [if_pos (by omega)]; exact b0.symm
        · rw [if_pos (by omega)]; exact b1.symm
        · rw [if_neg (by omega)]; exact b2.symm
        · rw [if_neg (by omega)]; exact b3.symm
      · have e : m ((i1 + 1) * 7) = 3 := hk
        rw [if_neg (by rw [e]; decide)]
        obtain ⟨b0, b1, b2, b3, b4, b5⟩ := q3 e
        have : j = 2 ∨ j = 3 ∨ j = 4 ∨ j = 5 ∨ j = 6 ∨ j = 7 := by omega
        rcases this with rfl | rfl | rfl | rfl | rfl | rfl
        · exact b0.symm
        · exact b1.symm
        · exact b2.symm
        · exact b3.symm
        · exact b4.symm
        · exact b5.symm
theorem WF.exy_r {m : Nat → Int32} {N : Nat} (h : WF m N) {i : Nat} (hi : i < N) : inR (ex7 m i) ∧ inR (ey7 m i) := by
  unfold ex7 ey7
  have : (if m (i * 7) = 4 then mv7 m i else i) < N := by
    split
    · have := mv7_le m i; omega
    · exact hi
  exact ⟨(h.2 _ this).2.2.1 5 (by omega) (by omega), (h.2 _ this).2.2.1 6 (by omega) (by omega)⟩
theorem WF.cv_r {m : Nat → Int32} {N : Nat} (h : WF m N) {i : Nat} (hi : i < N) {l : Nat} (hl : l = 2 ∨ l = 3) (hk : m (i * 7) = nI l) : ∀ j, j < 2 * l + 2 → inR (cv7 m i j) := by
  intro j hj
  unfold cv7 cst
  split
  · exact (h.exy_r (i := i - 1) (by omega)).1
  · split
    · exact (h.exy_r (i := i - 1) (by omega)).2
    · have hr := (h.2 i hi).2.2.1
      unfold nb7
      rcases hl with rfl | rfl
      · rw [if_pos (show m (i * 7) = 2 from hk)]
        split
        · rw [show i * 7 + 1 + (j - 2) = i * 7 + (1 + (j - 2)) by omega]; exact hr _ (by omega) (by omega)
        · rw [show i * 7 + 3 + (j - 2) = i * 7 + (3 + (j - 2)) by omega]; exact hr _ (by omega) (by omega)
      · rw [if_neg (by rw [hk]; decide), show i * 7 + 1 + (j - 2) = i * 7 + (1 + (j - 2)) by omega]; exact hr _ (by omega) (by omega)
def fbeg (S : FS) (c : Nat) (x y : Int32) : FS := fpsh (S.1, S.2.1 + 1, uM S.2.2 6 S.2.1 0) c x y 0
def fcls (S : FS) : FS := (S.1, S.2.1, uM S.2.2 6 (S.2.1 - 1) 1)
noncomputable def fcmd (m : Nat → Int32) (t : Int32) (i : Nat) (S : FS) : FS :=
  if m (i * 7) = 0 then fbeg (S.1, S.2.1, uM S.2.2 5 i 0) i (ex7 m i) (ey7 m i)
  else if m (i * 7) = 2 then fsub 2 t i 6 (cv7 m i) (S.1, S.2.1, uM S.2.2 5 i 0)
  else if m (i * 7) = 3 then fsub 3 t i 6 (cv7 m i) (S.1, S.2.1, uM S.2.2 5 i 0)
  else if m (i * 7) = 4 then fcls (fadd (S.1, S.2.1, uM S.2.2 5 i 0) i (ex7 m i) (ey7 m i))
  else fadd (S.1, S.2.1, uM S.2.2 5 i 0) i (ex7 m i) (ey7 m i)
/-- the flattening of the first N commands of the row m by the tolerance t -/
noncomputable def fall (m : Nat → Int32) (t : Int32) : Nat → FS
  | 0 => (0, 0, fun _ _ => 0)
  | i + 1 => fcmd m t i (fall m t i)
theorem FRC.five {V : vM} {S : FS} (h : FRC V S) (i : Nat) (x : Int32) : FRC V (S.1, S.2.1, uM S.2.2 5 i x) := by
  obtain ⟨h1, h2, h3, h4, h5⟩ := h
  exact ⟨h1, h2, fun j hj => by simpa [uM_at] using h3 j hj, fun j hj => by simpa [uM_at] using h4 j hj, fun j hj => by simpa [uM_at] using h5 j hj⟩
theorem SOK.five {S : FS} (h : SOK S) (i : Nat) (x : Int32) : SOK (S.1, S.2.1, uM S.2.2 5 i x) := by
  obtain ⟨h1, h2, h3, h4⟩ := h
  exact ⟨h1, h2, h3, fun j hj => by simpa [uM_at] using h4 j hj⟩
theorem FRC.cls {V : vM} {S : FS} (h : FRC V S) (h0 : 0 < S.2.1) : FRC (uM V 25 (S.2.1 - 1) 1) (fcls S) := by
  obtain ⟨h1, h2, h3, h4, h5⟩ := h
  unfold fcls
  refine ⟨by rw [uM_na (by decide)]; exact h1, by rw [uM_na (by decide)]; exact h2, fun j hj => by simpa [uM_at] using h3 j hj, fun j hj => by simpa [uM_at] using h4 j hj, fun j hj => ?_⟩
  have := h5 j hj
  simp only [uM_at]
  by_cases e : j = S.2.1 - 1
  · simp [e]
  · simp [e, this]
theorem SOK.cls {S : FS} (h : SOK S) : SOK (fcls S) := by
  obtain ⟨h1, h2, h3, h4⟩ := h
  exact ⟨h1, h2, h3, fun j hj => by simpa [fcls, uM_at] using h4 j hj⟩
theorem FRC.beg {V : vM} {S : FS} (h : FRC V S) (c : Nat) (x y : Int32) : FRC (cap (uM (uM V 25 S.2.1 0) 6 8 (nI (S.2.1 + 1))) S.1 (S.2.1 + 1) (nI c) x y 0) (fbeg S c x y) := by
  obtain ⟨h1, h2, h3, h4, h5⟩ := h
  unfold fbeg fpsh cap
  refine ⟨?_, ?_, fun i hi => ?_, fun j hj => ?_, fun j hj => ?_⟩
  · simp [uM_at]
  · simp [uM_at]
  · have hi : i < S.1 + 1 := hi
    by_cases e : i = S.1
    · subst e; simp [uM_at]
    · have := h3 i (by omega)
      simp [uM_at, e, this]
  · have hj : j ≤ S.2.1 + 1 := hj
    by_cases e : j = S.2.1 + 1
    · subst e; simp [uM_at]
    · simp [uM_at, e, h4 j (by omega)]
  · have hj : j < S.2.1 + 1 := hj
    by_cases e : j = S.2.1
    · subst e; simp [uM_at]
    · simp [uM_at, e, h5 j (by omega)]
theorem fbeg_ok {S : FS} (h : ∀ i, i < S.1 → inR (S.2.2 0 i) ∧ inR (S.2.2 1 i)) (hc : S.2.1 < 24) (c : Nat) {x y : Int32} (hx : inR x) (hy : inR y) : SOK (fbeg S c x y) := by
  refine ⟨by show 0 < S.1 + 1; omega, by show 0 < S.2.1 + 1; omega, by show S.2.1 + 1 ≤ 24; omega, fun i hi => ?_⟩
  have hi : i < S.1 + 1 := hi
  by_cases e : i = S.1
  · subst e
    exact ⟨by simp [fbeg, fpsh, uM_at, hx], by simp [fbeg, fpsh, uM_at, hy]⟩
  · have := h i (by omega)
    exact ⟨by simp [fbeg, fpsh, uM_at, e, this.1], by simp [fbeg, fpsh, uM_at, e, this.2]⟩
theorem fsub_fc (l : Nat) (t : Int32) (c : Nat) : ∀ (k : Nat) (p : Nat → Int32) (S : FS), (fsub l t c k p S).2.1 = S.2.1 ∧ S.1 ≤ (fsub l t c k p S).1 ∧ (fsub l t c k p S).1 ≤ S.1 + 2 ^ k
  | 0, p, S => by
    have := fadd_sz S c (p (2 * l)) (p (2 * l + 1))
    exact ⟨this.2.2, this.2.1, this.1⟩
  | k + 1, p, S => by
    unfold fsub
    have h2 := Nat.two_pow_pos k
    split
    · have := fadd_sz S c (p (2 * l)) (p (2 * l + 1))
      exact ⟨this.2.2, this.2.1, by rw [Nat.pow_succ]; omega⟩
    · obtain ⟨a1, a2, a3⟩ := fsub_fc l t c k (hA l p) S
      obtain ⟨b1, b2, b3⟩ := fsub_fc l t c k (hB l p) (fsub l t c k (hA l p) S)
      exact ⟨by rw [b1, a1], by omega, by rw [Nat.pow_succ]; omega⟩
theorem fsub_ok {l : Nat} (hl : l = 2 ∨ l = 3) (t : Int32) (c : Nat) : ∀ (k : Nat) {p : Nat → Int32} {S : FS}, (∀ i, i < 2 * l + 2 → inR (p i)) → SOK S → SOK (fsub l t c k p S)
  | 0, p, S, hp, h => fadd_ok h c (hp _ (by omega)) (hp _ (by omega))
  | k + 1, p, S, hp, h => by
    unfold fsub
    split
    · exact fadd_ok h c (hp _ (by omega)) (hp _ (by omega))
    · exact fsub_ok hl t c k (hB_r hl hp) (fsub_ok hl t c k (hA_r hl hp) h)
/-- what holds of the flattening of the first i commands -/
def FG (m : Nat → Int32) (i : Nat) (S : FS) : Prop := (0 < i → SOK S) ∧ S.1 ≤ 64 * i ∧ S.2.1 = cntM (kd7 m) i ∧ (i = 0 → S.1 = 0)
theorem fall_ok {m : Nat → Int32} {N : Nat} (hw : WF m N) (t : Int32) : ∀ i, i ≤ N → FG m i (fall m t i)
  | 0, _ => ⟨fun q => absurd q (by omega), Nat.le_refl _, rfl, fun _ => rfl⟩
  | i + 1, hi => by
    obtain ⟨g1, g2, g3, g4⟩ := fall_ok hw t i (by omega)
    have hN := hw.1
    have hc := cntM_le (kd7 m) i
    obtain ⟨hx, hy⟩ := hw.exy_r (i := i) (by omega)
    have hK := (hw.2 i (by omega))
    unfold fall fcmd
    rcases k5 hK.1 with e | e | e | e | e
    · rw [if_pos e]
      refine ⟨fun _ => fbeg_ok (fun j hj => ?_) (by show (fall m t i).2.1 < 24; omega) i hx hy, ?_, ?_, fun q => absurd q (by omega)⟩
      · rcases Nat.eq_zero_or_pos i with q | q
        · exact absurd hj (by show ¬ j < (fall m t i).1; rw [g4 q]; omega)
        · exact ((g1 q).five i 0).2.2.2 j hj
      · show (fall m t i).1 + 1 ≤ _; omega
      · show (fall m t i).2.1 + 1 = cntM (kd7 m) (i + 1)
        rw [cntM, if_pos (show kd7 m i = 0 from e), g3]
    all_goals
      have h0 : m (i * 7) ≠ 0 := by rw [e]; decide
      have hi0 : 0 < i := by obtain ⟨j, q, -⟩ := hK.2.1 h0; omega
      have hS := (g1 hi0).five i 0
      have hcn : cntM (kd7 m) (i + 1) = cntM (kd7 m) i := by rw [cntM, if_neg (show ¬ kd7 m i = 0 from h0)]
      rw [if_neg h0]
    · rw [if_neg (by rw [e]; decide), if_neg (by rw [e]; decide), if_neg (by rw [e]; decide)]
      have := fadd_sz ((fall m t i).1, (fall m t i).2.1, uM (fall m t i).2.2 5 i 0) i (ex7 m i) (ey7 m i)
      exact ⟨fun _ => fadd_ok hS i hx hy, by have := this.1; dsimp only at this; omega, by rw [this.2.2, hcn]; exact g3, fun q => absurd q (by omega)⟩
    · rw [if_pos e]
      have := fsub_fc 2 t i 6 (cv7 m i) ((fall m t i).1, (fall m t i).2.1, uM (fall m t i).2.2 5 i 0)
      exact ⟨fun _ => fsub_ok (by omega) t i 6 (hw.cv_r (by omega) (l := 2) (by omega) e) hS, by have := this.2.2; dsimp only at this; omega, by rw [this.1, hcn]; exact g3, fun q => absurd q (by omega)⟩
    · rw [if_neg (by rw [e]; decide), if_pos e]
      have := fsub_fc 3 t i 6 (cv7 m i) ((fall m t i).1, (fall m t i).2.1, uM (fall m t i).2.2 5 i 0)
      exact ⟨fun _ => fsub_ok (by omega) t i 6 (hw.cv_r (by omega) (l := 3) (by omega) e) hS, by have := this.2.2; dsimp only at this; omega, by rw [this.1, hcn]; exact g3, fun q => absurd q (by omega)⟩
    · rw [if_neg (by rw [e]; decide), if_neg (by rw [e]; decide), if_pos e]
      have := fadd_sz ((fall m t i).1, (fall m t i).2.1, uM (fall m t i).2.2 5 i 0) i (ex7 m i) (ey7 m i)
      exact ⟨fun _ => (fadd_ok hS i hx hy).cls, by have := this.1; dsimp only at this; show (fadd _ i _ _).1 ≤ _; omega, by show (fadd _ i _ _).2.1 = _; rw [this.2.2, hcn]; exact g3, fun q => absurd q (by omega)⟩
/-- what the class's flatten leaves alone -/
def frF (V U : vM) : Prop := ∀ a i, a ≠ 6 → (a < 20 ∨ 26 < a) → a ≠ 40 → (a < 42 ∨ 49 ≤ a) → U a i = V a i
def FLi (m : Nat → Int32) (t : Int32) (V U : vM) (i : Nat) : Prop := FRC U (fall m t i) ∧ frF V U
theorem fall_s (m : Nat → Int32) (t : Int32) (i : Nat) : fall m t (i + 1) = fcmd m t i (fall m t i) := rfl
theorem FL_init (m : Nat → Int32) (t : Int32) (V : vM) : FLi m t V (uM (uM (uM V 6 7 0) 6 8 0) 24 0 0) 0 := by
  refine ⟨⟨?_, ?_, fun j hj => absurd hj (Nat.not_lt_zero _), fun j hj => ?_, fun j hj => absurd hj (Nat.not_lt_zero _)⟩, fun a j n1 n2 n3 n4 => ?_⟩
  · rw [uM_na (by decide), uM_ni (by decide), uM_hit]; rfl
  · rw [uM_na (by decide), uM_hit]; rfl
  · have hj : j ≤ 0 := hj
    obtain rfl : j = 0 := by omega
    rw [uM_hit]; rfl
  · rw [uM_na (by omega), uM_na (by omega), uM_na (by omega)]
theorem FL_move {m : Nat → Int32} {t : Int32} {V U U2 : vM} {i : Nat} (h : FLi m t V U i) (hk : m (i * 7) = 0) (e : U2 = cap (uM (uM U 25 (fall m t i).2.1 0) 6 8 (nI ((fall m t i).2.1 + 1))) (fall m t i).1 ((fall m t i).2.1 + 1) (nI i) (ex7 m i) (ey7 m i) 0) : FLi m t V U2 (i + 1) := by
  refine ⟨?_, fun a j n1 n2 n3 n4 => ?_⟩
  · rw [e, fall_s, fcmd, if_pos hk]
    exact (h.1.five i 0).beg i _ _
  · rw [e]
    unfold cap
    rw [uM_na (by omega), uM_na (by omega), uM_na (by omega), uM_na (by omega), uM_na (by omega), uM_na (by omega), uM_na (by omega), uM_na (by omega)]
    exact h.2 a j n1 n2 n3 n4
theorem FL_add {m : Nat → Int32} {t : Int32} {V U U2 : vM} {i : Nat} (h : FLi m t V U i) (hS : SOK (fall m t i))
    (e : U2 = if ex7 m i - U 20 ((fall m t i).1 - 1) = 0 ∧ ey7 m i - U 21 ((fall m t i).1 - 1) = 0 then U else cap U (fall m t i).1 (fall m t i).2.1 (nI i) (ex7 m i) (ey7 m i) (U 22 ((fall m t i).1 - 1) + lenI (ex7 m i - U 20 ((fall m t i).1 - 1)) (ey7 m i - U 21 ((fall m t i).1 - 1)))) :
    FRC U2 (fadd ((fall m t i).1, (fall m t i).2.1, uM (fall m t i).2.2 5 i 0) i (ex7 m i) (ey7 m i)) ∧ frF V U2 := by
  refine ⟨?_, fun a j n1 n2 n3 n4 => ?_⟩
  · rw [e]
    exact FRC_add (h.1.five i 0) i (ex7 m i) (ey7 m i) hS.1
  · rw [e]
    split
    · exact h.2 a j n1 n2 n3 n4
    · unfold cap
      rw [uM_na (by omega), uM_na (by omega), uM_na (by omega), uM_na (by omega), uM_na (by omega), uM_na (by omega)]
      exact h.2 a j n1 n2 n3 n4
theorem FL_line {m : Nat → Int32} {t : Int32} {V U2 : vM} {i : Nat} (h : FRC U2 (fadd ((fall m t i).1, (fall m t i).2.1, uM (fall m t i).2.2 5 i 0) i (ex7 m i) (ey7 m i)) ∧ frF V U2) (h0 : ¬ m (i * 7) = 0) (h2 : ¬ m (i * 7) = 2) (h3 : ¬ m (i * 7) = 3) (h4 : ¬ m (i * 7) = 4) : FLi m t V U2 (i + 1) := by
  refine ⟨?_, h.2⟩
  rw [fall_s, fcmd, if_neg h0, if_neg h2, if_neg h3, if_neg h4]
  exact h.1
theorem FL_close {m : Nat → Int32} {t : Int32} {V U2 : vM} {i : Nat} (h : FRC U2 (fadd ((fall m t i).1, (fall m t i).2.1, uM (fall m t i).2.2 5 i 0) i (ex7 m i) (ey7 m i)) ∧ frF V U2) (hS : SOK (fall m t i)) (h4 : m (i * 7) = 4) : FLi m t V (uM U2 25 ((fall m t i).2.1 - 1) 1) (i + 1) := by
  have hc : (fadd ((fall m t i).1, (fall m t i).2.1, uM (fall m t i).2.2 5 i 0) i (ex7 m i) (ey7 m i)).2.1 = (fall m t i).2.1 := (fadd_sz _ i _ _).2.2
  refine ⟨?_, fun a j n1 n2 n3 n4 => ?_⟩
  · rw [fall_s, fcmd, if_neg (by rw [h4]; decide), if_neg (by rw [h4]; decide), if_neg (by rw [h4]; decide), if_pos h4]
    have := h.1.cls (by rw [hc]; exact hS.2.1)
    rw [hc] at this
    exact this
  · rw [uM_na (by omega)]
    exact h.2 a j n1 n2 n3 n4
theorem FL_quad {m : Nat → Int32} {t : Int32} {V U U2 : vM} {i : Nat} {l : Nat} (hl : l = 2 ∨ l = 3) (h : FLi m t V U i) (hk : m (i * 7) = nI l)
    (q : FRC U2 (fsub l t i 6 (cv7 m i) ((fall m t i).1, (fall m t i).2.1, uM (fall m t i).2.2 5 i 0))) (qf : ∀ a i, a ≠ 6 → (a < 20 ∨ 24 < a) → a ≠ 26 → a ≠ 40 → (a < 42 ∨ 49 ≤ a) → U2 a i = U a i) : FLi m t V U2 (i + 1) := by
  refine ⟨?_, fun a j n1 n2 n3 n4 => by rw [qf a j n1 (by omega) (by omega) n3 n4]; exact h.2 a j n1 n2 n3 n4⟩
  rw [fall_s, fcmd]
  rcases hl with rfl | rfl
  · rw [if_neg (by rw [hk]; decide), if_pos (show m (i * 7) = 2 from hk)]; exact q
  · rw [if_neg (by rw [hk]; decide), if_neg (by rw [hk]; decide), if_pos (show m (i * 7) = 3 from hk)]; exact q
set_option maxHeartbeats 4000000 in
set_option maxRecDepth 100000 in
theorem mX1_flatten {g : gX} {m : Nat → Int32} {V : vM} {N : Nat} (hp : PR V 1 12 13 N m) (t : Int32) : MM g jX1_flatten V [.ref (g.2.1 6), .ref (g.2.1 1), .int t] (eV (fun U => FRC U (fall m t N) ∧ frF V U)) := by
  refine MM.of plX1_flatten (Nat.le_of_ble_eq_true rfl) ?_
  obtain ⟨Q, hQ⟩ : ∃ Q : Option Value → vM → Prop, Q = (eV (fun U => FRC U (fall m t N) ∧ frF V U)) := ⟨_, rfl⟩
  rw [← hQ]
  show XX g jX1_flatten Q V 0 [(0, .ref (g.2.1 6)), (1, .ref (g.2.1 1)), (2, .int t)] []
  refine x_aload_n dX1_flatten_0 0 rfl ?_
  refine x_iconst (v := 0) dX1_flatten_1 (by decide) ?_
  refine x_putI fp_X1_38 rfl rfl dX1_flatten_2 ?_
  obtain ⟨U1, eU1⟩ : ∃ v_v : vM, v_v = uM V 6 7 0 := ⟨_, rfl⟩
  refine YY.V eU1.symm ?_
  refine x_aload_n dX1_flatten_5 0 rfl ?_
  refine x_iconst (v := 0) dX1_flatten_6 (by decide) ?_
  refine x_putI fp_X1_42 rfl rfl dX1_flatten_7 ?_
  obtain ⟨U2, eU2⟩ : ∃ v_v : vM, v_v = uM U1 6 8 0 := ⟨_, rfl⟩
  refine YY.V eU2.symm ?_
  refine x_aload_n dX1_flatten_10 0 rfl ?_
  refine x_getR fl_X1_24 rfl rfl dX1_flatten_11 ?_
  refine x_iconst (v := 0) dX1_flatten_14 (by decide) ?_
  refine x_iconst (v := 0) dX1_flatten_15 (by decide) ?_
  have q3 : (0 : Int32) = nI 0 := rfl
  refine YY.S (st' := [.int 0, .int (nI 0), .ref (g.2.1 24)]) (by rw [q3]) ?_
  have b4 : vp_in (nI 0) 25 := by exact vp_in_nI (by omega) (by decide)
  refine x_iast rfl b4 dX1_flatten_16 ?_
  refine YY.V (V' := uM U2 24 0 0) (by rw [nI_clamp (by omega)]) ?_
  obtain ⟨U5, eU5⟩ : ∃ v_v : vM, v_v = uM U2 24 0 0 := ⟨_, rfl⟩
  refine YY.V eU5.symm ?_
  refine x_iconst (v := 0) dX1_flatten_17 (by decide) ?_
  refine x_istore_n 3 [(3, .int 0), (0, .ref (g.2.1 6)), (1, .ref (g.2.1 1)), (2, .int t)] dX1_flatten_18 rfl (by decide) rfl ?_
  have lp6 : ∀ (fu : Nat) (i : Nat) (U : vM), (i ≤ N) → (FLi m t V U i) → (N - i) < fu → XX g jX1_flatten Q U 19 [(3, .int (nI i)), (0, .ref (g.2.1 6)), (1, .ref (g.2.1 1)), (2, .int t)] [] := by
    intro fu
    induction fu with
    | zero => intro _ _ _ _ hmz; exact absurd hmz (Nat.not_lt_zero _)
    | succ fu ih =>
      intro i U hi hF hmz
      have hN := hp.2.2.1.1
      obtain ⟨hg1, hg2, hg3, hg4⟩ := fall_ok hp.2.2.1 t i hi
      have hcl := cntM_le (kd7 m) i
      have hPU : PR U 1 12 13 N m := hp.kept (fun j => hF.2 1 j (by omega) (by omega) (by omega) (by omega)) (fun j => hF.2 12 j (by omega) (by omega) (by omega) (by omega)) (fun j => hF.2 13 j (by omega) (by omega) (by omega) (by omega))
      refine x_iload_n dX1_flatten_19 0 rfl ?_
      refine x_aload_n dX1_flatten_20 2 rfl ?_
      refine x_getI fl_X1_45 rfl rfl dX1_flatten_21 ?_
      refine x_topi (hPU.1) ?_
      refine x_icmp_ge 125 dX1_flatten_24 (by decide) (fun c7 => ?_) (fun c7 => ?_)
      · have c7n : N ≤ i := (nl_le (a := N) (b := i) (rfl) (rfl) (by omega) (by omega)).mp c7
        refine x_vret dX1_flatten_125 rfl ?_
        rw [hQ]
        refine ⟨rfl, ?_⟩
        have e : i = N := by omega
        subst e
        exact hF
      · have c7n : i < N := Nat.not_le.mp (fun q => c7 ((nl_le (a := N) (b := i) (rfl) (rfl) (by omega) (by omega)).mpr q))
        have hiN : i < N := by omega
        refine x_aload_n dX1_flatten_27 2 rfl ?_
        refine x_iload_n dX1_flatten_28 0 rfl ?_
        refine x_callV (K := jX5_kindOf) [.int (nI i)] lk_X1_48 ⟨⟨rfl, rfl⟩, Nat.le_of_ble_eq_true rfl, Nat.le_of_ble_eq_true rfl⟩ rfl rfl (by have := mX5_kindOf (g := g) U isP1 hPU.kok.1 (nI i); rw [hPU.ki hiN] at this; exact this) rfl (Nat.le_of_ble_eq_true rfl) rfl dX1_flatten_29 (kpI ?_)
        refine x_istore 4 [(4, .int (m (i * 7))), (3, .int (nI i)), (0, .ref (g.2.1 6)), (1, .ref (g.2.1 1)), (2, .int t)] dX1_flatten_32 (by decide) rfl ?_
        refine x_iload dX1_flatten_34 0 rfl ?_
        refine x_if_ne 57 dX1_flatten_36 (by decide) (fun c8 => ?_) (fun c8 => ?_)
        · refine x_iload dX1_flatten_57 0 rfl ?_
          refine x_iconst (v := 2) dX1_flatten_59 (by decide) ?_
          refine x_icmp_eq 69 dX1_flatten_60 (by decide) (fun c9 => ?_) (fun c9 => ?_)
          · refine x_aload_n dX1_flatten_69 2 rfl ?_
            refine x_aload_n dX1_flatten_70 3 rfl ?_
            refine x_iload_n dX1_flatten_71 1 rfl ?_
            refine x_iload_n dX1_flatten_72 4 rfl ?_
            obtain ⟨hq1, hq2, hq3⟩ := hPU.cv hiN (l := 2) (by omega) (by assumption)
            have hS1 := hg1 hq2
            refine x_callV (K := jX1_addCurve) [.ref (g.2.1 1), .int (nI i), .int t] lk_X1_62 ⟨⟨rfl, rfl⟩, Nat.le_of_ble_eq_true rfl, Nat.le_of_ble_eq_true rfl⟩ rfl rfl (mX1_addCurve2 U hPU.kok i t hq1 (cv7 m i) hq3 (hp.2.2.1.cv_r hiN (l := 2) (by omega) (by assumption)) (hF.1.five i 0) (hS1.five i 0) (by show (fall m t i).1 + 64 ≤ 1536; omega)) rfl (Nat.le_of_ble_eq_true rfl) rfl dX1_flatten_73 (keV fun U10 hU11 => ?_)
            refine x_goto 94 dX1_flatten_76 (by decide) ?_
            refine x_iload dX1_flatten_94 0 rfl ?_
            refine x_iconst (v := 4) dX1_flatten_96 (by decide) ?_
            refine x_icmp_ne 119 dX1_flatten_97 (by decide) (fun c12 => ?_) (fun c12 => by exfalso; grind)
            refine x_iinc 3 (v := (nI i) + 1) 1 [(3, .int ((nI i) + 1)), (4, .int (m (i * 7))), (0, .ref (g.2.1 6)), (1, .ref (g.2.1 1)), (2, .int t)] dX1_flatten_119 rfl (by rfl) (by decide) rfl ?_
            refine x_goto 19 dX1_flatten_122 (by decide) ?_
            refine x_lv [0, 2, 3, 4] rfl ?_
            refine YY.L (lv' := [(3, .int (nI (i + 1))), (0, .ref (g.2.1 6)), (1, .ref (g.2.1 1)), (2, .int t)]) (by first | rfl | (simp only [nI_1]; done) | (simp only [← nI_add]; rfl)) ?_
            exact ih (i + 1) U10 (by omega) (by first | exact FL_move hF (by assumption) (by assumption) | exact FL_line hAd (by assumption) (by assumption) (by assumption) (by assumption) | (subst_vars; exact FL_close hAd hS1 (by assumption)) | exact FL_quad (l := 2) (by omega) hF (by assumption) (hU11).1 (hU11).2.2.2 | exact FL_quad (l := 3) (by omega) hF (by assumption) (hU11).1 (hU11).2.2.2) (by omega)
          · refine x_iload dX1_flatten_63 0 rfl ?_
            refine x_iconst (v := 3) dX1_flatten_65 (by decide) ?_
            refine x_icmp_ne 79 dX1_flatten_66 (by decide) (fun c13 => ?_) (fun c13 => ?_)
            · refine x_aload_n dX1_flatten_79 2 rfl ?_
              refine x_iload_n dX1_flatten_80 1 rfl ?_
              refine x_aload_n dX1_flatten_81 3 rfl ?_
              refine x_iload_n dX1_flatten_82 1 rfl ?_
              refine x_callV (K := jX5_endX) [.int (nI i)] lk_X1_52 ⟨⟨rfl, rfl⟩, Nat.le_of_ble_eq_true rfl, Nat.le_of_ble_eq_true rfl⟩ rfl rfl (by have := mX5_endX (g := g) U isP1 hPU.kok (nI i); rw [(hPU.exy hiN).1] at this; exact this) rfl (Nat.le_of_ble_eq_true rfl) rfl dX1_flatten_83 (kpI ?_)
              refine x_aload_n dX1_flatten_86 3 rfl ?_
              refine x_iload_n dX1_flatten_87 1 rfl ?_
              refine x_callV (K := jX5_endY) [.int (nI i)] lk_X1_55 ⟨⟨rfl, rfl⟩, Nat.le_of_ble_eq_true rfl, Nat.le_of_ble_eq_true rfl⟩ rfl rfl (by have := mX5_endY (g := g) U isP1 hPU.kok (nI i); rw [(hPU.exy hiN).2] at this; exact this) rfl (Nat.le_of_ble_eq_true rfl) rfl dX1_flatten_88 (kpI ?_)
              have hi0 : 0 < i := by obtain ⟨j, q, -⟩ := (hp.2.2.1.2 i hiN).2.1 (by assumption); omega
              have hS1 := hg1 hi0
              have hlast := hS1.2.2.2 ((fall m t i).1 - 1) (by have := hS1.1; omega)
              have hl20 := hF.1.2.2.1 ((fall m t i).1 - 1) (by have := hS1.1; omega)
              have hxr := hp.2.2.1.exy_r hiN
              refine x_callV (K := jX1_addVertex) [.int (nI i), .int (ex7 m i), .int (ey7 m i)] lk_X1_66 ⟨⟨rfl, rfl⟩, Nat.le_of_ble_eq_true rfl, Nat.le_of_ble_eq_true rfl⟩ rfl rfl (mX1_addVertex U hF.1.1 hF.1.2.1 hS1.1 (by omega) hS1.2.2.1 (nI i) (ex7 m i) (ey7 m i) (by rw [hl20.1]; exact natAbs_r hxr.1 hlast.1) (by rw [hl20.2.1]; exact natAbs_r hxr.2 hlast.2)) rfl (Nat.le_of_ble_eq_true rfl) rfl dX1_flatten_91 (kdV ?_)
              obtain ⟨U14, eU14⟩ : ∃ v_v : vM, v_v = if (ex7 m i) - U 20 ((fall m t i).1 - 1) = 0 ∧ (ey7 m i) - U 21 ((fall m t i).1 - 1) = 0 then U else cap U (fall m t i).1 (fall m t i).2.1 (nI i) (ex7 m i) (ey7 m i) (U 22 ((fall m t i).1 - 1) + lenI ((ex7 m i) - U 20 ((fall m t i).1 - 1)) ((ey7 m i) - U 21 ((fall m t i).1 - 1))) := ⟨_, rfl⟩
              refine YY.V eU14.symm ?_
              have hAd := FL_add hF hS1 eU14
              have hfc2 : U14 6 8 = nI (fall m t i).2.1 := by rw [hAd.1.2.1, (fadd_sz _ i _ _).2.2]
              refine x_iload dX1_flatten_94 0 rfl ?_
              refine x_iconst (v := 4) dX1_flatten_96 (by decide) ?_
              refine x_icmp_ne 119 dX1_flatten_97 (by decide) (fun c15 => ?_) (fun c15 => ?_)
              · refine x_iinc 3 (v := (nI i) + 1) 1 [(3, .int ((nI i) + 1)), (4, .int (m (i * 7))), (0, .ref (g.2.1 6)), (1, .ref (g.2.1 1)), (2, .int t)] dX1_flatten_119 rfl (by rfl) (by decide) rfl ?_
                refine x_goto 19 dX1_flatten_122 (by decide) ?_
                refine x_lv [0, 2, 3, 4] rfl ?_
                refine YY.L (lv' := [(3, .int (nI (i + 1))), (0, .ref (g.2.1 6)), (1, .ref (g.2.1 1)), (2, .int t)]) (by first | rfl | (simp only [nI_1]; done) | (simp only [← nI_add]; rfl)) ?_
                exact ih (i + 1) U14 (by omega) (by first | exact FL_move hF (by assumption) (by assumption) | exact FL_line hAd (by assumption) (by assumption) (by assumption) (by assumption) | (subst_vars; exact FL_close hAd hS1 (by assumption)) | exact FL_quad (l := 2) (by omega) hF (by assumption) (hU11).1 (hU11).2.2.2 | exact FL_quad (l := 3) (by omega) hF (by assumption) (hU11).1 (hU11).2.2.2) (by omega)
              · refine x_aload_n dX1_flatten_100 2 rfl ?_
                refine x_getI fl_X1_42 rfl rfl dX1_flatten_101 ?_
                refine x_topi (hfc2) ?_
                refine x_if_le 119 dX1_flatten_104 (by decide) (fun c16 => by exfalso; exact absurd c16 (nI_nle (by have := hS1.2.1; omega) (by omega))) (fun c16 => ?_)
                refine x_aload_n dX1_flatten_107 2 rfl ?_
                refine x_getR fl_X1_27 rfl rfl dX1_flatten_108 ?_
                refine x_aload_n dX1_flatten_111 2 rfl ?_
                refine x_getI fl_X1_42 rfl rfl dX1_flatten_112 ?_
                refine x_topi (hfc2) ?_
                refine x_iconst (v := 1) dX1_flatten_115 (by decide) ?_
                refine x_isub dX1_flatten_116 ?_
                refine x_topi (y := nI ((fall m t i).2.1 - 1)) (nsub (a := (fall m t i).2.1) (b := 1) (by have := hS1.2.1; omega) rfl rfl) ?_
                refine x_iconst (v := 1) dX1_flatten_117 (by decide) ?_
                have b17 : vp_in (nI ((fall m t i).2.1 - 1)) 24 := by exact vp_in_nI (by omega) (by decide)
                refine x_zast rfl b17 dX1_flatten_118 ?_
                refine YY.V (V' := uM U14 25 ((fall m t i).2.1 - 1) (vp_nar .boolean 1)) (by rw [nI_clamp (by omega)]) ?_
                obtain ⟨U18, eU18⟩ : ∃ v_v : vM, v_v = uM U14 25 ((fall m t i).2.1 - 1) (vp_nar .boolean 1) := ⟨_, rfl⟩
                refine YY.V eU18.symm ?_
                refine x_iinc 3 (v := (nI i) + 1) 1 [(3, .int ((nI i) + 1)), (4, .int (m (i * 7))), (0, .ref (g.2.1 6)), (1, .ref (g.2.1 1)), (2, .int t)] dX1_flatten_119 rfl (by rfl) (by decide) rfl ?_
                refine x_goto 19 dX1_flatten_122 (by decide) ?_
                refine x_lv [0, 2, 3, 4] rfl ?_
                refine YY.L (lv' := [(3, .int (nI (i + 1))), (0, .ref (g.2.1 6)), (1, .ref (g.2.1 1)), (2, .int t)]) (by first | rfl | (simp only [nI_1]; done) | (simp only [← nI_add]; rfl)) ?_
                exact ih (i + 1) U18 (by omega) (by first | exact FL_move hF (by assumption) (by assumption) | exact FL_line hAd (by assumption) (by assumption) (by assumption) (by assumption) | (subst_vars; exact FL_close hAd hS1 (by assumption)) | exact FL_quad (l := 2) (by omega) hF (by assumption) (hU11).1 (hU11).2.2.2 | exact FL_quad (l := 3) (by omega) hF (by assumption) (hU11).1 (hU11).2.2.2) (by omega)
            · refine x_aload_n dX1_flatten_69 2 rfl ?_
              refine x_aload_n dX1_flatten_70 3 rfl ?_
              refine x_iload_n dX1_flatten_71 1 rfl ?_
              refine x_iload_n dX1_flatten_72 4 rfl ?_
              obtain ⟨hq1, hq2, hq3⟩ := hPU.cv hiN (l := 3) (by omega) (by assumption)
              have hS1 := hg1 hq2
              refine x_callV (K := jX1_addCurve) [.ref (g.2.1 1), .int (nI i), .int t] lk_X1_62 ⟨⟨rfl, rfl⟩, Nat.le_of_ble_eq_true rfl, Nat.le_of_ble_eq_true rfl⟩ rfl rfl (mX1_addCurve3 U hPU.kok i t hq1 (cv7 m i) hq3 (hp.2.2.1.cv_r hiN (l := 3) (by omega) (by assumption)) (hF.1.five i 0) (hS1.five i 0) (by show (fall m t i).1 + 64 ≤ 1536; omega)) rfl (Nat.le_of_ble_eq_true rfl) rfl dX1_flatten_73 (keV fun U19 hU20 => ?_)
              refine x_goto 94 dX1_flatten_76 (by decide) ?_
              refine x_iload dX1_flatten_94 0 rfl ?_
              refine x_iconst (v := 4) dX1_flatten_96 (by decide) ?_
              refine x_icmp_ne 119 dX1_flatten_97 (by decide) (fun c21 => ?_) (fun c21 => by exfalso; grind)
              refine x_iinc 3 (v := (nI i) + 1) 1 [(3, .int ((nI i) + 1)), (4, .int (m (i * 7))), (0, .ref (g.2.1 6)), (1, .ref (g.2.1 1)), (2, .int t)] dX1_flatten_119 rfl (by rfl) (by decide) rfl ?_
              refine x_goto 19 dX1_flatten_122 (by decide) ?_
              refine x_lv [0, 2, 3, 4] rfl ?_
              refine YY.L (lv' := [(3, .int (nI (i + 1))), (0, .ref (g.2.1 6)), (1, .ref (g.2.1 1)), (2, .int t)]) (by first | rfl | (simp only [nI_1]; done) | (simp only [← nI_add]; rfl)) ?_
              exact ih (i + 1) U19 (by omega) (by first | exact FL_move hF (by assumption) (by assumption) | exact FL_line hAd (by assumption) (by assumption) (by assumption) (by assumption) | (subst_vars; exact FL_close hAd hS1 (by assumption)) | exact FL_quad (l := 2) (by omega) hF (by assumption) (hU20).1 (hU20).2.2.2 | exact FL_quad (l := 3) (by omega) hF (by assumption) (hU20).1 (hU20).2.2.2) (by omega)
        · refine x_aload_n dX1_flatten_39 2 rfl ?_
          refine x_iload_n dX1_flatten_40 1 rfl ?_
          refine x_aload_n dX1_flatten_41 3 rfl ?_
          refine x_iload_n dX1_flatten_42 1 rfl ?_
          refine x_callV (K := jX5_endX) [.int (nI i)] lk_X1_52 ⟨⟨rfl, rfl⟩, Nat.le_of_ble_eq_true rfl, Nat.le_of_ble_eq_true rfl⟩ rfl rfl (by have := mX5_endX (g := g) U isP1 hPU.kok (nI i); rw [(hPU.exy hiN).1] at this; exact this) rfl (Nat.le_of_ble_eq_true rfl) rfl dX1_flatten_43 (kpI ?_)
          refine x_aload_n dX1_flatten_46 3 rfl ?_
          refine x_iload_n dX1_flatten_47 1 rfl ?_
          refine x_callV (K := jX5_endY) [.int (nI i)] lk_X1_55 ⟨⟨rfl, rfl⟩, Nat.le_of_ble_eq_true rfl, Nat.le_of_ble_eq_true rfl⟩ rfl rfl (by have := mX5_endY (g := g) U isP1 hPU.kok (nI i); rw [(hPU.exy hiN).2] at this; exact this) rfl (Nat.le_of_ble_eq_true rfl) rfl dX1_flatten_48 (kpI ?_)
          refine x_callV (K := jX1_beginContour) [.int (nI i), .int (ex7 m i), .int (ey7 m i)] lk_X1_58 ⟨⟨rfl, rfl⟩, Nat.le_of_ble_eq_true rfl, Nat.le_of_ble_eq_true rfl⟩ rfl rfl (mX1_beginContour U hF.1.1 hF.1.2.1 (by omega) (by omega) (nI i) (ex7 m i) (ey7 m i)) rfl (Nat.le_of_ble_eq_true rfl) rfl dX1_flatten_51 (kdV ?_)
          obtain ⟨U22, eU22⟩ : ∃ v_v : vM, v_v = cap (uM (uM U 25 (fall m t i).2.1 0) 6 8 (nI ((fall m t i).2.1 + 1))) (fall m t i).1 ((fall m t i).2.1 + 1) (nI i) (ex7 m i) (ey7 m i) 0 := ⟨_, rfl⟩
          refine YY.V eU22.symm ?_
          refine x_goto 94 dX1_flatten_54 (by decide) ?_
          refine x_iload dX1_flatten_94 0 rfl ?_
          refine x_iconst (v := 4) dX1_flatten_96 (by decide) ?_
          refine x_icmp_ne 119 dX1_flatten_97 (by decide) (fun c23 => ?_) (fun c23 => by exfalso; grind)
          refine x_iinc 3 (v := (nI i) + 1) 1 [(3, .int ((nI i) + 1)), (4, .int (m (i * 7))), (0, .ref (g.2.1 6)), (1, .ref (g.2.1 1)), (2, .int t)] dX1_flatten_119 rfl (by rfl) (by decide) rfl ?_
          refine x_goto 19 dX1_flatten_122 (by decide) ?_
          refine x_lv [0, 2, 3, 4] rfl ?_
          refine YY.L (lv' := [(3, .int (nI (i + 1))), (0, .ref (g.2.1 6)), (1, .ref (g.2.1 1)), (2, .int t)]) (by first | rfl | (simp only [nI_1]; done) | (simp only [← nI_add]; rfl)) ?_
          exact ih (i + 1) U22 (by omega) (by first | exact FL_move hF (by assumption) (by assumption) | exact FL_line hAd (by assumption) (by assumption) (by assumption) (by assumption) | (subst_vars; exact FL_close hAd hS1 (by assumption)) | exact FL_quad (l := 2) (by omega) hF (by assumption) (hU20).1 (hU20).2.2.2 | exact FL_quad (l := 3) (by omega) hF (by assumption) (hU20).1 (hU20).2.2.2) (by omega)
  refine YY.L (lv' := [(3, .int (nI 0)), (0, .ref (g.2.1 6)), (1, .ref (g.2.1 1)), (2, .int t)]) (by rfl) ?_
  exact lp6 _ 0 U5 (by omega) (by subst_vars; exact FL_init m t V) (Nat.lt_succ_self _)
