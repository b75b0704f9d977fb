/-! what holds of every flattening: begins of the contours, segments, distances, lengths by command -/
theorem isq_le {n b : Nat} (h : n < (b + 1) * (b + 1)) : isq n ≤ b := by
  have h1 := (isq_spec n).1
  by_cases c : isq n ≤ b
  · exact c
  · have : (b + 1) * (b + 1) ≤ isq n * isq n := Nat.mul_le_mul (by omega) (by omega)
    omega
theorem lenI_b {dx dy : Int32} (hx : dx.toInt.natAbs ≤ 8000) (hy : dy.toInt.natAbs ≤ 8000) (h : ¬ (dx = 0 ∧ dy = 0)) : ∃ l, lenI dx dy = nI l ∧ 0 < l ∧ l ≤ 181020 := by
  refine ⟨isq (nsq dx dy), rfl, ?_, isq_le ?_⟩
  · have h2 := (isq_spec (nsq dx dy)).2
    rcases Nat.eq_zero_or_pos (isq (nsq dx dy)) with q | q
    · rw [q] at h2
      have h0 : nsq dx dy = 0 := by omega
      unfold nsq at h0
      have e1 : dx.toInt.natAbs * dx.toInt.natAbs = 0 := by omega
      have e2 : dy.toInt.natAbs * dy.toInt.natAbs = 0 := by omega
      have f1 : dx.toInt.natAbs = 0 := by rcases Nat.mul_eq_zero.mp e1 with z | z <;> exact z
      have f2 : dy.toInt.natAbs = 0 := by rcases Nat.mul_eq_zero.mp e2 with z | z <;> exact z
      exact absurd ⟨Int32.toInt_inj.mp (show dx.toInt = (0 : Int32).toInt by rw [Int.natAbs_eq_zero.mp f1]; rfl), Int32.toInt_inj.mp (show dy.toInt = (0 : Int32).toInt by rw [Int.natAbs_eq_zero.mp f2]; rfl)⟩ h
    · exact q
  · have := (sq64 hx hy).2
    omega
def segOK (S : FS) (i : Nat) : Prop := ¬ (S.2.2 0 i - S.2.2 0 (i - 1) = 0 ∧ S.2.2 1 i - S.2.2 1 (i - 1) = 0) ∧ S.2.2 2 i = S.2.2 2 (i - 1) + lenI (S.2.2 0 i - S.2.2 0 (i - 1)) (S.2.2 1 i - S.2.2 1 (i - 1))
def GI (S : FS) (fb : Nat → Nat) : Prop := fb 0 = 0 ∧ fb S.2.1 = S.1 ∧ (∀ j, j ≤ S.2.1 → S.2.2 4 j = nI (fb j)) ∧ ∀ j, j < S.2.1 → fb j < fb (j + 1) ∧ S.2.2 2 (fb j) = 0 ∧ ∀ i, fb j < i → i < fb (j + 1) → segOK S i
theorem GI.le {S : FS} {fb : Nat → Nat} (h : GI S fb) : ∀ d j, j + d ≤ S.2.1 → fb j ≤ fb (j + d)
  | 0, j, _ => Nat.le_refl _
  | d + 1, j, hd => Nat.le_trans (GI.le h d j (by omega)) (Nat.le_of_lt (h.2.2.2 (j + d) (by omega)).1)
theorem GI.bd {S : FS} {fb : Nat → Nat} (h : GI S fb) {j : Nat} (hj : j ≤ S.2.1) : fb j ≤ S.1 := by
  have := h.le (S.2.1 - j) j (by omega)
  rw [show j + (S.2.1 - j) = S.2.1 by omega, h.2.1] at this
  exact this
theorem GI.bl {S : FS} {fb : Nat → Nat} (h : GI S fb) {j : Nat} (hj : j < S.2.1) : fb j < S.1 := Nat.lt_of_lt_of_le (h.2.2.2 j hj).1 (h.bd (by omega))
theorem segOK.cong {S T : FS} {i : Nat} (h : segOK S i) (hi : ∀ p, p < 3 → T.2.2 p i = S.2.2 p i) (hj : ∀ p, p < 3 → T.2.2 p (i - 1) = S.2.2 p (i - 1)) : segOK T i := by
  unfold segOK at h ⊢
  rw [hi 0 (by omega), hi 1 (by omega), hi 2 (by omega), hj 0 (by omega), hj 1 (by omega), hj 2 (by omega)]
  exact h
theorem GI.five {S : FS} {fb : Nat → Nat} (h : GI S fb) (i : Nat) : GI (s5 S i) fb := by
  obtain ⟨h0, h1, h2, h3⟩ := h
  refine ⟨h0, h1, fun j hj => by simpa [s5, uM_at] using h2 j hj, fun j hj => ⟨(h3 j hj).1, by simpa [s5, uM_at] using (h3 j hj).2.1, fun k a b => ((h3 j hj).2.2 k a b).cong (fun p hp => ?_) (fun p hp => ?_)⟩⟩ <;> exact uM_na (by omega)
theorem GI.cls {S : FS} {fb : Nat → Nat} (h : GI S fb) : GI (fcls S) fb := by
  obtain ⟨h0, h1, h2, h3⟩ := h
  refine ⟨h0, h1, fun j hj => by simpa [fcls, uM_at] using h2 j hj, fun j hj => ⟨(h3 j hj).1, by simpa [fcls, uM_at] using (h3 j hj).2.1, fun k a b => ((h3 j hj).2.2 k a b).cong (fun p hp => ?_) (fun p hp => ?_)⟩⟩ <;> exact uM_na (by omega)
theorem GI.add {S : FS} {fb : Nat → Nat} (h : GI S fb) (h0 : 0 < S.2.1) (c : Nat) (x y : Int32) : ∃ fb', GI (fadd S c x y) fb' := by
  unfold fadd
  by_cases q : x - S.2.2 0 (S.1 - 1) = 0 ∧ y - S.2.2 1 (S.1 - 1) = 0
  · rw [if_pos q]; exact ⟨fb, h⟩
  · rw [if_neg q]
    obtain ⟨g0, g1, g2, g3⟩ := id h
    have k : ∀ p i, p < 3 → i < S.1 → (fpsh (S.1, S.2.1, uM S.2.2 5 c (S.2.2 5 c + flenS S x y)) c x y (S.2.2 2 (S.1 - 1) + flenS S x y)).2.2 p i = S.2.2 p i := by
      intro p i hp hi
      unfold fpsh
      have n0 : ¬ (p = 0 ∧ i = S.1) := by omega
      have n1 : ¬ (p = 1 ∧ i = S.1) := by omega
      have n2 : ¬ (p = 2 ∧ i = S.1) := by omega
      simp only [uM_at]
      rw [if_neg (by omega), if_neg (by omega), if_neg n2, if_neg n1, if_neg n0, if_neg (by omega)]
    have hS1 : 0 < S.1 := by have := h.bl h0; omega
    obtain ⟨fb', ef⟩ : ∃ f : Nat → Nat, ∀ j, f j = if j = S.2.1 then S.1 + 1 else fb j := ⟨_, fun _ => rfl⟩
    refine ⟨fb', ?_, ?_, fun j hj => ?_, fun j hj => ?_⟩
    · rw [ef, if_neg (by omega)]; exact g0
    · show fb' S.2.1 = S.1 + 1
      rw [ef, if_pos rfl]
    · have hj : j ≤ S.2.1 := hj
      by_cases e : j = S.2.1
      · rw [ef, if_pos e]; subst e; simp [fpsh, uM_at]
      · rw [ef, if_neg e]; simp [fpsh, uM_at, e, g2 j hj]
    · have hj : j < S.2.1 := hj
      obtain ⟨a1, a2, a3⟩ := g3 j hj
      have hb := h.bl hj
      rw [ef j, ef (j + 1), if_neg (by omega)]
      refine ⟨?_, ?_, fun i hi1 hi2 => ?_⟩
      · split
        · have := h.bd (j := j) (by omega); omega
        · exact a1
      · rw [k 2 _ (by omega) hb]; exact a2
      · by_cases e : i < S.1
        · refine (a3 i hi1 ?_).cong (fun p hp => k p i hp e) (fun p hp => k p (i - 1) hp (by omega))
          by_cases e2 : j + 1 = S.2.1
          · rw [e2, g1]; exact e
          · rw [if_neg e2] at hi2; exact hi2
        · have ei : i = S.1 := by
            by_cases e2 : j + 1 = S.2.1
            · rw [if_pos e2] at hi2; omega
            · rw [if_neg e2] at hi2
              have := h.bd (j := j + 1) (by omega)
              omega
          subst ei
          unfold segOK
          rw [k 0 (S.1 - 1) (by omega) (by omega), k 1 (S.1 - 1) (by omega) (by omega), k 2 (S.1 - 1) (by omega) (by omega)]
          have e0 : (fpsh (S.1, S.2.1, uM S.2.2 5 c (S.2.2 5 c + flenS S x y)) c x y (S.2.2 2 (S.1 - 1) + flenS S x y)).2.2 0 S.1 = x := by simp [fpsh, uM_at]
          have e1 : (fpsh (S.1, S.2.1, uM S.2.2 5 c (S.2.2 5 c + flenS S x y)) c x y (S.2.2 2 (S.1 - 1) + flenS S x y)).2.2 1 S.1 = y := by simp [fpsh, uM_at]
          have e2 : (fpsh (S.1, S.2.1, uM S.2.2 5 c (S.2.2 5 c + flenS S x y)) c x y (S.2.2 2 (S.1 - 1) + flenS S x y)).2.2 2 S.1 = S.2.2 2 (S.1 - 1) + flenS S x y := by simp [fpsh, uM_at]
          rw [e0, e1, e2]
          exact ⟨q, rfl⟩
theorem GI.beg {S : FS} {fb : Nat → Nat} (h : GI S fb) (c : Nat) (x y : Int32) : ∃ fb', GI (fbeg S c x y) fb' := by
  obtain ⟨g0, g1, g2, g3⟩ := id h
  have k : ∀ p i, p < 3 → i < S.1 → (fbeg S c x y).2.2 p i = S.2.2 p i := by
    intro p i hp hi
    unfold fbeg fpsh
    simp only [uM_at]
    rw [if_neg (by omega), if_neg (by omega), if_neg (by omega), if_neg (by omega), if_neg (by omega), if_neg (by omega)]
  obtain ⟨fb', ef⟩ : ∃ f : Nat → Nat, ∀ j, f j = if j = S.2.1 + 1 then S.1 + 1 else fb j := ⟨_, fun _ => rfl⟩
  refine ⟨fb', ?_, ?_, fun j hj => ?_, fun j hj => ?_⟩
  · rw [ef, if_neg (by omega)]; exact g0
  · show fb' (S.2.1 + 1) = S.1 + 1
    rw [ef, if_pos rfl]
  · have hj : j ≤ S.2.1 + 1 := hj
    by_cases e : j = S.2.1 + 1
    · rw [ef, if_pos e]; subst e; simp [fbeg, fpsh, uM_at]
    · rw [ef, if_neg e]; simp [fbeg, fpsh, uM_at, e, g2 j (by omega)]
  · have hj : j < S.2.1 + 1 := hj
    by_cases e : j = S.2.1
    · subst e
      rw [ef S.2.1, ef (S.2.1 + 1), if_neg (by omega), if_pos rfl, g1]
      refine ⟨by omega, by simp [fbeg, fpsh, uM_at], fun i a b => absurd b (by omega)⟩
    · have hj : j < S.2.1 := by omega
      obtain ⟨a1, a2, a3⟩ := g3 j hj
      have hb := h.bl hj
      have hc := h.bd (j := j + 1) (by omega)
      rw [ef j, ef (j + 1), if_neg (by omega), if_neg (by omega)]
      exact ⟨a1, by rw [k 2 _ (by omega) hb]; exact a2, fun i b1 b2 => (a3 i b1 b2).cong (fun p hp => k p i hp (by omega)) (fun p hp => k p (i - 1) hp (by omega))⟩
theorem GI.sub (l : Nat) (t : Int32) (c : Nat) : ∀ (k : Nat) (p : Nat → Int32) {S : FS} {fb : Nat → Nat}, GI S fb → 0 < S.2.1 → ∃ fb', GI (fsub l t c k p S) fb'
  | 0, p, S, fb, h, h0 => h.add h0 c _ _
  | k + 1, p, S, fb, h, h0 => by
    unfold fsub
    split
    · exact h.add h0 c _ _
    · obtain ⟨f1, h1⟩ := GI.sub l t c k (hA l p) h h0
      exact GI.sub l t c k (hB l p) h1 (by rw [(fsub_fc l t c k (hA l p) S).1]; exact h0)
theorem fall_GI {m : Nat → Int32} {N : Nat} (hw : WF m N) (t : Int32) : ∀ i, i ≤ N → ∃ fb, GI (fall m t i) fb
  | 0, _ => ⟨fun _ => 0, rfl, rfl, fun _ _ => rfl, fun j hj => absurd hj (Nat.not_lt_zero _)⟩
  | i + 1, hi => by
    obtain ⟨fb, h⟩ := fall_GI hw t i (by omega)
    obtain ⟨g1, -, -, -⟩ := fall_ok hw t i (by omega)
    have hK := hw.2 i (by omega)
    have h5 := h.five i
    rw [fall_s, fcmd]
    by_cases e0 : m (i * 7) = 0
    · rw [if_pos e0]; exact h5.beg i _ _
    · obtain ⟨j, q, -⟩ := hK.2.1 e0
      have hS := g1 (by omega)
      rw [if_neg e0]
      split
      · exact GI.sub 2 t i 6 _ h5 hS.2.1
      · split
        · exact GI.sub 3 t i 6 _ h5 hS.2.1
        · obtain ⟨fb', ha⟩ := h5.add hS.2.1 i (ex7 m i) (ey7 m i)
          split
          · exact ⟨fb', ha.cls⟩
          · exact ⟨fb', ha⟩
/-- the sum of the lengths of the segments of the first n vertices that a command made -/
def lsum (d mk : Nat → Int32) (c : Nat) : Nat → Int32
  | 0 => 0
  | n + 1 => lsum d mk c n + (if mk n = nI c ∧ 0 < d n then d n - d (n - 1) else 0)
theorem lsum_cong {d mk d2 mk2 : Nat → Int32} {c : Nat} : ∀ n, (∀ i, i < n → d2 i = d i ∧ mk2 i = mk i) → lsum d2 mk2 c n = lsum d mk c n
  | 0, _ => rfl
  | n + 1, h => by
    unfold lsum
    rw [lsum_cong n (fun i hi => h i (by omega)), (h n (by omega)).1, (h n (by omega)).2]
    rcases Nat.eq_zero_or_pos n with q | q
    · subst q; rw [(h 0 (by omega)).1]
    · rw [(h (n - 1) (by omega)).1]
theorem lsum_none {d mk : Nat → Int32} {c : Nat} : ∀ n, (∀ i, i < n → mk i ≠ nI c) → lsum d mk c n = 0
  | 0, _ => rfl
  | n + 1, h => by
    unfold lsum
    rw [lsum_none n (fun i hi => h i (by omega)), if_neg (fun q => h n (by omega) q.1)]
    rfl
def GL (S : FS) (k : Nat) : Prop := (∀ i, i < S.1 → (∃ n, S.2.2 2 i = nI n ∧ n ≤ 181020 * i) ∧ ∃ c, c < k ∧ S.2.2 3 i = nI c) ∧ ∀ c, c < k → S.2.2 5 c = lsum (S.2.2 2) (S.2.2 3) c S.1
theorem nI_ne {a b : Nat} (ha : a < 2 ^ 31) (hb : b < 2 ^ 31) (h : a ≠ b) : nI a ≠ nI b := fun q => h (by
  have := congrArg Int32.toInt q
  rw [nI_toInt ha, nI_toInt hb] at this
  omega)
theorem GL.five {S : FS} {k : Nat} (h : GL S k) (hk : k < 24) : GL (s5 S k) (k + 1) := by
  obtain ⟨h1, h2⟩ := h
  have e2 : (s5 S k).2.2 2 = S.2.2 2 := by funext i; show uM S.2.2 5 k 0 2 i = _; exact uM_na (by decide)
  have e3 : (s5 S k).2.2 3 = S.2.2 3 := by funext i; show uM S.2.2 5 k 0 3 i = _; exact uM_na (by decide)
  refine ⟨fun i hi => ?_, fun c hc => ?_⟩
  · rw [e2, e3]
    obtain ⟨a, c, b1, b2⟩ := h1 i hi
    exact ⟨a, c, by omega, b2⟩
  · rw [e2, e3]
    show uM S.2.2 5 k 0 5 c = lsum _ _ c S.1
    by_cases q : c = k
    · subst q
      rw [uM_hit, lsum_none _ (fun i hi => ?_)]
      obtain ⟨-, e, b1, b2⟩ := h1 i hi
      rw [b2]
      exact nI_ne (by omega) (by omega) (by omega)
    · rw [uM_ni q]
      exact h2 c (by omega)
theorem GL.cls {S : FS} {k : Nat} (h : GL S k) : GL (fcls S) k := by
  have e2 : (fcls S).2.2 2 = S.2.2 2 := by funext i; show uM S.2.2 6 (S.2.1 - 1) 1 2 i = _; exact uM_na (by decide)
  have e3 : (fcls S).2.2 3 = S.2.2 3 := by funext i; show uM S.2.2 6 (S.2.1 - 1) 1 3 i = _; exact uM_na (by decide)
  have e5 : (fcls S).2.2 5 = S.2.2 5 := by funext i; show uM S.2.2 6 (S.2.1 - 1) 1 5 i = _; exact uM_na (by decide)
  unfold GL
  rw [e2, e3, e5]
  exact h
theorem GL.psh {S : FS} {k : Nat} (h : GL S k) {c : Nat} (hc : c < k) (hk : k ≤ 24) (f : Nat) (x y : Int32) {n : Nat} (hn : n ≤ 181020 * S.1) (w : vM)
    (w2 : ∀ i, w 2 i = S.2.2 2 i) (w3 : ∀ i, w 3 i = S.2.2 3 i) (w5 : ∀ e, e < k → w 5 e = S.2.2 5 e + (if e = c then (if 0 < nI n then nI n - S.2.2 2 (S.1 - 1) else 0) else 0)) : GL (fpsh (S.1, f, w) c x y (nI n)) k := by
  obtain ⟨h1, h2⟩ := h
  have d2 : ∀ i, (fpsh (S.1, f, w) c x y (nI n)).2.2 2 i = if i = S.1 then nI n else S.2.2 2 i := by
    intro i; unfold fpsh; simp only [uM_at]
    by_cases q : i = S.1 <;> simp [q, w2]
  have d3 : ∀ i, (fpsh (S.1, f, w) c x y (nI n)).2.2 3 i = if i = S.1 then nI c else S.2.2 3 i := by
    intro i; unfold fpsh; simp only [uM_at]
    by_cases q : i = S.1 <;> simp [q, w3]
  have d5 : ∀ i, (fpsh (S.1, f, w) c x y (nI n)).2.2 5 i = w 5 i := by
    intro i; unfold fpsh; simp [uM_at]
  refine ⟨fun i hi => ?_, fun e he => ?_⟩
  · have hi : i < S.1 + 1 := hi
    rw [d2, d3]
    by_cases q : i = S.1
    · subst q
      rw [if_pos rfl, if_pos rfl]
      exact ⟨⟨n, rfl, hn⟩, c, hc, rfl⟩
    · rw [if_neg q, if_neg q]
      exact h1 i (by omega)
  · rw [d5, w5 e he]
    show _ = lsum _ _ e (S.1 + 1)
    unfold lsum
    rw [lsum_cong (d := S.2.2 2) (mk := S.2.2 3) S.1 (fun i hi => ⟨by rw [d2, if_neg (by omega)], by rw [d3, if_neg (by omega)]⟩), h2 e he, d2, if_pos rfl, d3, if_pos rfl]
    congr 1
    by_cases q : e = c
    · subst q
      rw [if_pos rfl]
      by_cases q2 : 0 < nI n
      · rw [if_pos q2, if_pos ⟨rfl, q2⟩, d2]
        rcases Nat.eq_zero_or_pos S.1 with z | z
        · rw [z] at hn
          have : n = 0 := by omega
          subst this
          exact absurd q2 (by decide)
        · rw [if_neg (by omega)]
      · rw [if_neg q2, if_neg (fun z => q2 z.2)]
    · rw [if_neg q, if_neg (fun z => nI_ne (by omega) (by omega) (fun y => q y.symm) z.1)]
theorem GL.beg {S : FS} {k : Nat} (h : GL S k) {c : Nat} (hc : c < k) (hk : k ≤ 24) (x y : Int32) : GL (fbeg S c x y) k := by
  have := h.psh hc hk (S.2.1 + 1) x y (n := 0) (Nat.zero_le _) (uM S.2.2 6 S.2.1 0) (fun i => uM_na (by decide)) (fun i => uM_na (by decide)) (fun e he => ?_)
  · exact this
  · rw [uM_na (by decide)]
    split
    · rw [if_neg (by decide)]; exact (Int32.add_zero _).symm
    · exact (Int32.add_zero _).symm
theorem GL.add {S : FS} {k : Nat} (h : GL S k) (hS : SOK S) (h17 : S.1 < 1700) {c : Nat} (hc : c < k) (hk : k ≤ 24) {x y : Int32} (hx : inR x) (hy : inR y) : GL (fadd S c x y) k := by
  unfold fadd
  by_cases q : x - S.2.2 0 (S.1 - 1) = 0 ∧ y - S.2.2 1 (S.1 - 1) = 0
  · rw [if_pos q]; exact h
  · rw [if_neg q]
    have h0 := hS.1
    obtain ⟨r1, r2⟩ := hS.2.2.2 (S.1 - 1) (by omega)
    obtain ⟨l, e1, l0, l1⟩ := lenI_b (natAbs_r hx r1) (natAbs_r hy r2) q
    obtain ⟨⟨n, e2, n1⟩, -⟩ := h.1 (S.1 - 1) (by omega)
    have ef : flenS S x y = nI l := e1
    rw [ef, show S.2.2 2 (S.1 - 1) + nI l = nI (n + l) by rw [e2, nI_add]]
    refine h.psh hc hk _ x y (by omega) _ (fun i => uM_na (by decide)) (fun i => uM_na (by decide)) (fun e he => ?_)
    by_cases z : e = c
    · subst z
      rw [uM_hit, if_pos rfl, if_pos (by rw [show (0 : Int32) = nI 0 from rfl, nI_ltI (by omega) (by omega)]; omega), e2, nsub (a := n + l) (b := n) (by omega) rfl rfl, Nat.add_sub_cancel_left]
    · rw [uM_ni z, if_neg z]
      exact (Int32.add_zero _).symm
theorem GL.sub {l : Nat} (hl : l = 2 ∨ l = 3) (t : Int32) {c kk : Nat} (hc : c < kk) (hk : kk ≤ 24) : ∀ (k : Nat) {p : Nat → Int32} {S : FS}, (∀ i, i < 2 * l + 2 → inR (p i)) → GL S kk → SOK S → S.1 + 2 ^ k ≤ 1700 → GL (fsub l t c k p S) kk
  | 0, p, S, hp, h, hS, hb => h.add hS (by omega) hc hk (hp _ (by omega)) (hp _ (by omega))
  | k + 1, p, S, hp, h, hS, hb => by
    unfold fsub
    have h2 := Nat.two_pow_pos k
    rw [Nat.pow_succ] at hb
    split
    · exact h.add hS (by omega) hc hk (hp _ (by omega)) (hp _ (by omega))
    · have := fsub_fc l t c k (hA l p) S
      exact GL.sub hl t hc hk k (hB_r hl hp) (GL.sub hl t hc hk k (hA_r hl hp) h hS (by omega)) (fsub_ok hl t c k (hA_r hl hp) hS) (by omega)
theorem fall_GL {m : Nat → Int32} {N : Nat} (hw : WF m N) (t : Int32) : ∀ i, i ≤ N → GL (fall m t i) i
  | 0, _ => ⟨fun i hi => absurd hi (Nat.not_lt_zero _), fun i hi => absurd hi (Nat.not_lt_zero _)⟩
  | i + 1, hi => by
    have h := fall_GL hw t i (by omega)
    obtain ⟨g1, g2, -, -⟩ := fall_ok hw t i (by omega)
    have hN := hw.1
    have hK := hw.2 i (by omega)
    have h5 := h.five (by omega)
    obtain ⟨hx, hy⟩ := hw.exy_r (i := i) (by omega)
    rw [fall_s, fcmd]
    by_cases e0 : m (i * 7) = 0
    · rw [if_pos e0]; exact h5.beg (by omega) (by omega) _ _
    · obtain ⟨j, q, -⟩ := hK.2.1 e0
      have hS := (g1 (by omega)).five i 0
      rw [if_neg e0]
      by_cases e2 : m (i * 7) = 2
      · rw [if_pos e2]; exact GL.sub (l := 2) (by omega) t (by omega) (by omega) 6 (hw.cv_r (by omega) (l := 2) (by omega) e2) h5 hS (by show (fall m t i).1 + 64 ≤ 1700; omega)
      · rw [if_neg e2]
        by_cases e3 : m (i * 7) = 3
        · rw [if_pos e3]; exact GL.sub (l := 3) (by omega) t (by omega) (by omega) 6 (hw.cv_r (by omega) (l := 3) (by omega) e3) h5 hS (by show (fall m t i).1 + 64 ≤ 1700; omega)
        · rw [if_neg e3]
          have ha := h5.add (c := i) hS (by show (fall m t i).1 < 1700; omega) (by omega) (by omega) hx hy
          split
          · exact ha.cls
          · exact ha
/-- whether the j-th contour of the first i commands is closed -/
def clo (m : Nat → Int32) : Nat → Nat → Int32
  | 0, _ => 0
  | i + 1, j => if m (i * 7) = 0 then (if j = cntM (kd7 m) i then 0 else clo m i j) else if m (i * 7) = 4 then (if j = cntM (kd7 m) i - 1 then 1 else clo m i j) else clo m i j
theorem fadd_six (S : FS) (c : Nat) (x y : Int32) (j : Nat) : (fadd S c x y).2.2 6 j = S.2.2 6 j := by
  unfold fadd
  split
  · rfl
  · simp [fpsh, uM_at]
theorem fsub_six (l : Nat) (t : Int32) (c : Nat) : ∀ (k : Nat) (p : Nat → Int32) (S : FS) (j : Nat), (fsub l t c k p S).2.2 6 j = S.2.2 6 j
  | 0, p, S, j => fadd_six S c _ _ j
  | k + 1, p, S, j => by
    unfold fsub
    split
    · exact fadd_six S c _ _ j
    · rw [fsub_six l t c k, fsub_six l t c k]
theorem fall_six {m : Nat → Int32} {N : Nat} (hw : WF m N) (t : Int32) : ∀ i, i ≤ N → ∀ j, (fall m t i).2.2 6 j = clo m i j
  | 0, _, _ => rfl
  | i + 1, hi, j => by
    have h := fall_six hw t i (by omega) j
    obtain ⟨-, -, g3, -⟩ := fall_ok hw t i (by omega)
    have h5 : (s5 (fall m t i) i).2.2 6 j = clo m i j := by rw [← h]; show uM (fall m t i).2.2 5 i 0 6 j = _; exact uM_na (by decide)
    rw [fall_s, fcmd, clo]
    by_cases e0 : m (i * 7) = 0
    · rw [if_pos e0, if_pos e0, ← g3]
      show (fbeg (s5 (fall m t i) i) i _ _).2.2 6 j = _
      unfold fbeg fpsh
      by_cases q : j = (fall m t i).2.1
      · subst q; simp [s5, uM_at]
      · rw [if_neg q, ← h5]; simp [s5, uM_at, q]
    · rw [if_neg e0, if_neg e0]
      by_cases e4 : m (i * 7) = 4
      · rw [if_neg (by rw [e4]; decide), if_neg (by rw [e4]; decide), if_pos e4, if_pos e4, ← g3]
        have := fadd_sz (s5 (fall m t i) i) i (ex7 m i) (ey7 m i)
        show (fcls (fadd (s5 (fall m t i) i) i (ex7 m i) (ey7 m i))).2.2 6 j = _
        unfold fcls
        show uM _ 6 ((fadd (s5 (fall m t i) i) i (ex7 m i) (ey7 m i)).2.1 - 1) 1 6 j = _
        rw [this.2.2]
        show uM _ 6 ((fall m t i).2.1 - 1) 1 6 j = _
        by_cases q : j = (fall m t i).2.1 - 1
        · rw [if_pos q, q, uM_hit]
        · rw [if_neg q, uM_ni q, fadd_six, h5]
      · rw [if_neg e4, if_neg e4]
        split
        · rw [fsub_six]; exact h5
        · split
          · rw [fsub_six]; exact h5
          · rw [fadd_six]; exact h5
