theorem cntM_cong' {K K2 : Nat → Int32} : ∀ n, (∀ i, i < n → (K i = 0 ↔ K2 i = 0)) → cntM K n = cntM K2 n
  | 0, _ => rfl
  | n + 1, h => by
    unfold cntM
    rw [cntM_cong' n (fun i hi => h i (by omega))]
    have := h n (by omega)
    by_cases c : K n = 0
    · rw [if_pos c, if_pos (this.mp c)]
    · rw [if_neg c, if_neg (fun z => c (this.mpr z))]
/-- what is known of a contour: its begin, what lies behind it, its last command but CLOSE -/
def CT (m : Nat → Int32) (N k f b l : Nat) : Prop := fo (kd7 m) N (nI k) = f ∧ fo (kd7 m) N (nI (k + 1)) = b ∧ (f < b ∧ b ≤ N) ∧ m (f * 7) = 0 ∧ (∀ i, f < i → i < b → m (i * 7) ≠ 0) ∧ (b < N → m (b * 7) = 0) ∧ (m ((b - 1) * 7) = 4 → l = b - 2 ∧ f + 2 ≤ b) ∧ (¬ m ((b - 1) * 7) = 4 → l = b - 1) ∧ (f ≤ l ∧ l < b) ∧ ∀ i, f < i → i ≤ l → m (i * 7) = 1 ∨ m (i * 7) = 2 ∨ m (i * 7) = 3
theorem ct_of {m : Nat → Int32} {N k : Nat} (hw : WF m N) (hk : k < cntM (kd7 m) N) : ∃ f b l, CT m N k f b l := by
  have hN := hw.1
  have hl := cntM_le (kd7 m) N
  obtain ⟨f, f1, f2, f3⟩ := cntM_ex N hk
  have ef : fo (kd7 m) N (nI k) = f := fo_hit (by omega) f1 f2 f3
  have sf : cntM (kd7 m) (f + 1) = k + 1 := by rw [cntM, if_pos f2, f3]
  obtain ⟨b, eb, b1, b2, b3⟩ : ∃ b, fo (kd7 m) N (nI (k + 1)) = b ∧ (f < b ∧ b ≤ N) ∧ (b < N → m (b * 7) = 0) ∧ cntM (kd7 m) b = k + 1 := by
    by_cases c : k + 1 < cntM (kd7 m) N
    · obtain ⟨b, b1, b2, b3⟩ := cntM_ex N c
      refine ⟨b, fo_hit (by omega) b1 b2 b3, ⟨?_, by omega⟩, fun _ => b2, b3⟩
      rcases Nat.lt_or_ge f b with q | q
      · exact q
      · have := cntM_mono (K := kd7 m) (f - b) b
        rw [show b + (f - b) = f by omega] at this
        omega
    · have := cntM_mono (K := kd7 m) (N - (f + 1)) (f + 1)
      rw [show f + 1 + (N - (f + 1)) = N by omega] at this
      exact ⟨N, fo_out (by omega) (by omega), ⟨f1, Nat.le_refl _⟩, fun z => absurd z (Nat.lt_irrefl _), by omega⟩
  have nz : ∀ i, f < i → i < b → m (i * 7) ≠ 0 := by
    intro i i1 i2 z
    have s1 : cntM (kd7 m) (i + 1) = cntM (kd7 m) i + 1 := by rw [cntM, if_pos (show kd7 m i = 0 from z)]
    have m1 := cntM_mono (K := kd7 m) (i - (f + 1)) (f + 1)
    have m2 := cntM_mono (K := kd7 m) (b - (i + 1)) (i + 1)
    rw [show f + 1 + (i - (f + 1)) = i by omega] at m1
    rw [show i + 1 + (b - (i + 1)) = b by omega] at m2
    omega
  have n4 : ∀ i, f < i → i + 1 < b → m (i * 7) ≠ 4 := by
    intro i i1 i2 z
    obtain ⟨j, e1, e2⟩ := (hw.2 (i + 1) (by omega)).2.1 (nz (i + 1) (by omega) i2)
    obtain rfl : j = i := by omega
    exact e2 z
  have k123 : ∀ i, f < i → i < b → m (i * 7) ≠ 4 → m (i * 7) = 1 ∨ m (i * 7) = 2 ∨ m (i * 7) = 3 := by
    intro i i1 i2 i4
    rcases k5 (hw.2 i (by omega)).1 with e | e | e | e | e
    · exact absurd e (nz i i1 i2)
    · exact Or.inl e
    · exact Or.inr (Or.inl e)
    · exact Or.inr (Or.inr e)
    · exact absurd e i4
  by_cases c4 : m ((b - 1) * 7) = 4
  · have fb : f + 2 ≤ b := by
      rcases Nat.lt_or_ge (f + 1) b with q | q
      · omega
      · have : b - 1 = f := by omega
        rw [this] at c4
        have f20 : m (f * 7) = 0 := f2
        rw [f20] at c4
        exact absurd c4 (by decide)
    exact ⟨f, b, b - 2, ef, eb, b1, f2, nz, b2, fun _ => ⟨rfl, fb⟩, fun z => absurd c4 z, by omega, fun i i1 i2 => k123 i i1 (by omega) (n4 i i1 (by omega))⟩
  · refine ⟨f, b, b - 1, ef, eb, b1, f2, nz, b2, fun z => absurd z c4, fun _ => rfl, by omega, fun i i1 i2 => k123 i i1 (by omega) ?_⟩
    by_cases e : i = b - 1
    · rw [e]; exact c4
    · exact n4 i i1 (by omega)
def rvT (m : Nat → Int32) (c p : Nat) : Int32 := if p = 0 then m (c * 7) else if p = 5 then ex7 m (c - 1) else if p = 6 then ey7 m (c - 1) else if m (c * 7) = 2 then (if p = 1 then m (c * 7 + 1) else if p = 2 then m (c * 7 + 2) else 0) else if m (c * 7) = 3 then (if p = 1 then m (c * 7 + 3) else if p = 2 then m (c * 7 + 4) else if p = 3 then m (c * 7 + 1) else m (c * 7 + 2)) else 0
def rvH (m : Nat → Int32) (l p : Nat) : Int32 := if p = 5 then ex7 m l else if p = 6 then ey7 m l else 0
/-- row t of the turned contour -/
def rvR (m : Nat → Int32) (l t p : Nat) : Int32 := if t = 0 then rvH m l p else rvT m (l - t + 1) p
def rvF (m : Nat → Int32) (f l : Nat) : Nat → Int32 := fun j => if f * 7 ≤ j ∧ j < (l + 1) * 7 then rvR m l (j / 7 - f) (j % 7) else m j
theorem rvF_o {m : Nat → Int32} {f l i p : Nat} (h : i < f ∨ l < i) (hp : p < 7) : rvF m f l (i * 7 + p) = m (i * 7 + p) := by
  unfold rvF; rw [if_neg (by omega)]
theorem rvF_t {m : Nat → Int32} {f l t p : Nat} (h : f + t ≤ l) (hp : p < 7) : rvF m f l ((f + t) * 7 + p) = rvR m l t p := by
  unfold rvF
  rw [if_pos (by omega), show ((f + t) * 7 + p) / 7 - f = t by omega, show ((f + t) * 7 + p) % 7 = p by omega]
section
variable {m : Nat → Int32} {N k f b l : Nat}
theorem CT.kd (h : CT m N k f b l) (i : Nat) : rvF m f l (i * 7) = if i < f ∨ l < i then m (i * 7) else if i = f then 0 else m ((l - (i - f) + 1) * 7) := by
  by_cases c : i < f ∨ l < i
  · have := rvF_o (m := m) (f := f) (l := l) c (p := 0) (by omega)
    rw [if_pos c]; simpa using this
  · rw [if_neg c]
    have := rvF_t (m := m) (f := f) (l := l) (t := i - f) (p := 0) (by omega) (by omega)
    rw [show f + (i - f) = i by omega] at this
    rw [Nat.add_zero] at this
    rw [this]
    unfold rvR
    by_cases e : i = f
    · rw [if_pos (by omega), if_pos e]; rfl
    · rw [if_neg (by omega), if_neg e]; rfl
theorem CT.bw (h : CT m N k f b l) {c : Nat} (h1 : f < c) (h2 : c ≤ l) : BW m (rvF m f l) c (f + (l - c + 1)) := by
  have e : ∀ p, p < 7 → rvF m f l ((f + (l - c + 1)) * 7 + p) = rvT m c p := by
    intro p hp
    rw [rvF_t (by omega) hp]
    unfold rvR
    rw [if_neg (by omega), show l - (l - c + 1) + 1 = c by omega]
  have k := h.2.2.2.2.2.2.2.2.2 c h1 h2
  refine ⟨by have := e 0 (by omega); simpa [rvT] using this, k, fun z => ?_, fun z => ?_, by rw [e 5 (by omega)]; simp [rvT], by rw [e 6 (by omega)]; simp [rvT]⟩
  · rw [e 1 (by omega), e 2 (by omega), e 3 (by omega), e 4 (by omega)]
    simp [rvT, z]
  · rw [e 1 (by omega), e 2 (by omega)]
    simp [rvT, z]
theorem mv7_lo {m : Nat → Int32} {f : Nat} (hf : m (f * 7) = 0) : ∀ r, (∀ i, f < i → i ≤ f + r → m (i * 7) ≠ 0) → mv7 m (f + r) = f
  | 0, _ => by
    cases f with
    | zero => rfl
    | succ f => show mv7 m (f + 1) = f + 1; rw [mv7, if_pos hf]
  | r + 1, h => by
    show mv7 m (f + r + 1) = f
    rw [mv7, if_neg (h (f + r + 1) (by omega) (by omega))]
    exact mv7_lo hf r (fun i i1 i2 => h i i1 (by omega))
theorem mv7_hi {m m2 : Nat → Int32} {b : Nat} (hb : m (b * 7) = 0) (hs : ∀ i, b ≤ i → m2 (i * 7) = m (i * 7)) : ∀ r, b ≤ mv7 m (b + r) ∧ mv7 m2 (b + r) = mv7 m (b + r)
  | 0 => by
    cases b with
    | zero => exact ⟨Nat.le_refl _, rfl⟩
    | succ b => show b + 1 ≤ mv7 m (b + 1) ∧ mv7 m2 (b + 1) = mv7 m (b + 1); rw [mv7, if_pos hb, mv7, if_pos (by rw [hs _ (Nat.le_refl _)]; exact hb)]; exact ⟨Nat.le_refl _, rfl⟩
  | r + 1 => by
    obtain ⟨a1, a2⟩ := mv7_hi hb hs r
    show b ≤ mv7 m (b + r + 1) ∧ mv7 m2 (b + r + 1) = mv7 m (b + r + 1)
    rw [mv7, mv7, hs (b + r + 1) (by omega)]
    split
    · exact ⟨by omega, rfl⟩
    · exact ⟨a1, a2⟩
theorem CT.row (h : CT m N k f b l) (hw : WF m N) {i : Nat} (hi : i < f ∨ b ≤ i) (hN : i < N) : rvF m f l (i * 7) = m (i * 7) ∧ ∀ (W : vM) (n : Nat), numR W n m i → numR W n (rvF m f l) i := by
  obtain ⟨-, -, ⟨c1, c2⟩, c3, c4, c5, -, -, ⟨c6, c7⟩, -⟩ := h
  have o : ∀ j p, j < f ∨ b ≤ j → p < 7 → rvF m f l (j * 7 + p) = m (j * 7 + p) := fun j p hj hp => rvF_o (by omega) hp
  have o0 : ∀ j, j < f ∨ b ≤ j → rvF m f l (j * 7) = m (j * 7) := fun j hj => o j 0 hj (by omega)
  refine ⟨o0 i hi, fun W n hn => ?_⟩
  have ex : m (i * 7) = 4 → ex7 (rvF m f l) i = ex7 m i ∧ ey7 (rvF m f l) i = ey7 m i := by
    intro k4
    unfold ex7 ey7
    rw [o0 i hi, if_pos k4, if_pos k4]
    rcases hi with hi | hi
    · have e := mv7_cong (m := m) (m2 := rvF m f l) i (fun j hj => o0 j (by omega))
      have ml := mv7_le m i
      rw [e, o _ 5 (by omega) (by omega), o _ 6 (by omega) (by omega)]
      exact ⟨rfl, rfl⟩
    · have e := mv7_hi (m := m) (m2 := rvF m f l) (c5 (by omega)) (fun j hj => o0 j (by omega)) (i - b)
      rw [show b + (i - b) = i by omega] at e
      rw [e.2, o _ 5 (by omega) (by omega), o _ 6 (by omega) (by omega)]
      exact ⟨rfl, rfl⟩
  obtain ⟨q1, q2, q3, q4⟩ := hn
  unfold numR
  rw [o0 i hi, o i 1 hi (by omega), o i 2 hi (by omega), o i 3 hi (by omega), o i 4 hi (by omega), o i 5 hi (by omega), o i 6 hi (by omega)]
  exact ⟨q1, q2, q3, fun k4 => by rw [(ex k4).1, (ex k4).2]; exact q4 k4⟩
/-- the row of the MOVE, and of the CLOSE -/
theorem CT.nx0 (h : CT m N k f b l) : rvF m f l (f * 7) = 0 ∧ NX (rvF m f l) f (ex7 m l) (ey7 m l) 0 0 0 0 := by
  have e : ∀ p, p < 7 → rvF m f l (f * 7 + p) = rvH m l p := by
    intro p hp
    have := rvF_t (m := m) (f := f) (l := l) (t := 0) (p := p) (by have := h.2.2.2.2.2.2.2.2.1; omega) hp
    rw [Nat.add_zero] at this
    rw [this]; rfl
  have e0 : rvF m f l (f * 7) = 0 := e 0 (by omega)
  refine ⟨e0, ?_⟩
  unfold NX
  rw [e0, e 5 (by omega), e 6 (by omega)]
  exact ⟨fun _ => ⟨rfl, rfl⟩, fun z => absurd z (by decide), fun z => absurd z (by decide), fun z => absurd z (by decide)⟩
theorem CT.nx4 (h : CT m N k f b l) (h4 : m ((b - 1) * 7) = 4) : rvF m f l ((b - 1) * 7) = 4 ∧ NX (rvF m f l) (b - 1) (ex7 m l) (ey7 m l) 0 0 0 0 := by
  have h0 := h.nx0
  have hkd := h.kd
  obtain ⟨-, -, ⟨c1, c2⟩, c3, c4, c5, c6, -, ⟨c8, c9⟩, c10⟩ := h
  obtain ⟨e1, e2⟩ := c6 h4
  have k4 : rvF m f l ((b - 1) * 7) = 4 := by rw [hkd, if_pos (by omega)]; exact h4
  refine ⟨k4, ?_⟩
  have mv : mv7 (rvF m f l) (f + (b - 1 - f)) = f := by
    refine mv7_lo h0.1 _ (fun i i1 i2 => ?_)
    rw [hkd]
    split
    · exact c4 i i1 (by omega)
    · rw [if_neg (by omega)]
      exact c4 _ (by omega) (by omega)
  rw [show f + (b - 1 - f) = b - 1 by omega] at mv
  have e : ∀ p, p < 7 → rvF m f l (f * 7 + p) = rvH m l p := by
    intro p hp
    have := rvF_t (m := m) (f := f) (l := l) (t := 0) (p := p) (by omega) hp
    rw [Nat.add_zero] at this
    rw [this]; rfl
  unfold NX
  rw [k4]
  refine ⟨fun z => by rcases z with z | z <;> exact absurd z (by decide), fun z => absurd z (by decide), fun z => absurd z (by decide), fun _ => ?_⟩
  unfold ex7 ey7
  rw [k4, if_pos rfl, mv, e 5 (by omega), e 6 (by omega)]
  exact ⟨rfl, rfl⟩
theorem CT.cnt (h : CT m N k f b l) : cntM (kd7 (rvF m f l)) N = cntM (kd7 m) N := by
  refine cntM_cong' N (fun i hi => ?_)
  show rvF m f l (i * 7) = 0 ↔ m (i * 7) = 0
  rw [h.kd]
  obtain ⟨-, -, ⟨c1, c2⟩, c3, c4, c5, c6, -, ⟨c8, c9⟩, c10⟩ := h
  split
  · exact Iff.rfl
  · by_cases e : i = f
    · rw [if_pos e, e]; exact ⟨fun _ => c3, fun _ => rfl⟩
    · rw [if_neg e]
      exact ⟨fun z => absurd z (c4 _ (by omega) (by omega)), fun z => absurd z (c4 i (by omega) (by omega))⟩
theorem CT.wf (h : CT m N k f b l) (hw : WF m N) : WF (rvF m f l) N := by
  have hkd := h.kd
  have hh := h
  obtain ⟨-, -, ⟨c1, c2⟩, c3, c4, c5, c6, c7, ⟨c8, c9⟩, c10⟩ := h
  refine ⟨hw.1, fun i hi => ?_⟩
  by_cases ho : i < f ∨ l < i
  · have o : ∀ p, p < 7 → rvF m f l (i * 7 + p) = m (i * 7 + p) := fun p hp => rvF_o ho hp
    have o0 : rvF m f l (i * 7) = m (i * 7) := o 0 (by omega)
    obtain ⟨h1, h2, h3, h4⟩ := hw.2 i hi
    rw [o0, o 1 (by omega), o 2 (by omega), o 3 (by omega), o 4 (by omega), o 5 (by omega), o 6 (by omega)]
    refine ⟨h1, fun z => ?_, fun p p1 p7 => by rw [o p p7]; exact h3 p p1 p7, h4⟩
    obtain ⟨j, e1, e2⟩ := h2 z
    refine ⟨j, e1, ?_⟩
    rw [hkd]
    split
    · exact e2
    · by_cases e : j = f
      · rw [if_pos e]; decide
      · rw [if_neg e]
        rcases c10 (l - (j - f) + 1) (by omega) (by omega) with q | q | q <;> rw [q] <;> decide
  · obtain ⟨t, rfl, ht⟩ : ∃ t, i = f + t ∧ f + t ≤ l := ⟨i - f, by omega, by omega⟩
    have o : ∀ p, p < 7 → rvF m f l ((f + t) * 7 + p) = rvR m l t p := fun p hp => rvF_t ht hp
    have o0 : rvF m f l ((f + t) * 7) = rvR m l t 0 := o 0 (by omega)
    have hexy : ∀ q, q < N → inR (ex7 m q) ∧ inR (ey7 m q) := by
      intro q hq
      have ml := mv7_le m q
      unfold ex7 ey7
      split
      · exact ⟨(hw.2 _ (by omega)).2.2.1 5 (by omega) (by omega), (hw.2 _ (by omega)).2.2.1 6 (by omega) (by omega)⟩
      · exact ⟨(hw.2 _ hq).2.2.1 5 (by omega) (by omega), (hw.2 _ hq).2.2.1 6 (by omega) (by omega)⟩
    by_cases t0 : t = 0
    · subst t0
      have r : ∀ p, rvR m l 0 p = rvH m l p := fun p => rfl
      have r00 : rvR m l 0 0 = 0 := rfl
      rw [o0, r00, o 1 (by omega), o 2 (by omega), o 3 (by omega), o 4 (by omega), o 5 (by omega), o 6 (by omega)]
      refine ⟨⟨by decide, by decide⟩, fun z => absurd rfl z, fun p p1 p7 => ?_, fun _ => ⟨rfl, rfl⟩, fun _ => ⟨rfl, rfl⟩, fun z => absurd z (show ¬ (0 : Int32) = 4 by decide)⟩
      rw [o p p7, r]
      unfold rvH
      split
      · exact (hexy l (by omega)).1
      · split
        · exact (hexy l (by omega)).2
        · exact inR0
    · obtain ⟨c, hc⟩ : ∃ c, c = l - t + 1 := ⟨_, rfl⟩
      have r : ∀ p, rvR m l t p = rvT m c p := fun p => by unfold rvR; rw [if_neg t0, hc]
      have kc := c10 c (by omega) (by omega)
      rw [o0, o 1 (by omega), o 2 (by omega), o 3 (by omega), o 4 (by omega), o 5 (by omega), o 6 (by omega)]
      have r0 : rvR m l t 0 = m (c * 7) := r 0
      rw [r0]
      obtain ⟨h1, h2, h3, h4⟩ := hw.2 c (by omega)
      refine ⟨h1, fun z => ⟨f + t - 1, by omega, ?_⟩, fun p p1 p7 => ?_, fun z => ?_, fun z => ?_, fun z => ?_⟩
      · rw [hkd, if_neg (by omega)]
        by_cases e : f + t - 1 = f
        · rw [if_pos e]; decide
        · rw [if_neg e]
          rcases c10 (l - (f + t - 1 - f) + 1) (by omega) (by omega) with q | q | q <;> rw [q] <;> decide
      · rw [o p p7, r]
        have i1 := h3 1 (by omega) (by omega)
        have i2 := h3 2 (by omega) (by omega)
        have i3 := h3 3 (by omega) (by omega)
        have i4 := h3 4 (by omega) (by omega)
        unfold rvT
        rw [if_neg (by omega)]
        split
        · exact (hexy _ (by omega)).1
        · split
          · exact (hexy _ (by omega)).2
          · split
            · split
              · exact i1
              · split
                · exact i2
                · exact inR0
            · split
              · split
                · exact i3
                · split
                  · exact i4
                  · split
                    · exact i1
                    · exact i2
              · exact inR0
      · rw [r 1, r 2]
        have k2 : ¬ m (c * 7) = 2 := by rcases z with z | z | z <;> rw [z] <;> decide
        have k3 : ¬ m (c * 7) = 3 := by rcases z with z | z | z <;> rw [z] <;> decide
        simp [rvT, k2, k3]
      · rw [r 3, r 4]
        have k3 : ¬ m (c * 7) = 3 := by rcases z with z | z | z | z <;> rw [z] <;> decide
        simp [rvT, k3]
      · rcases kc with q | q | q <;> rw [q] at z <;> exact absurd z (by decide)
end
