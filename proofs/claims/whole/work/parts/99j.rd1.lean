/-! reading: a machine over the signs. State: (kind, small, negative), (numbers complete, value, digits, commands), (x, y, begin x, begin y), numbers, rows -/
abbrev RSt : Type := (Int32 × Int32 × Int32) × (Nat × Nat × Nat × Nat) × (Int32 × Int32 × Int32 × Int32) × (Nat → Int32) × (Nat → Int32)
def rNd (k : Int32) : Nat := if k = 4 ∨ k = -1 then 0 else 2 * ptn k
def rSg (v : Nat) (ng : Int32) : Int32 := if ng = 0 then nI v else -(nI v)
def rDg (dv : Nat) : RSt → Option RSt
  | ((k, sm, ng), (c, v, d, cm), p, X, O) => if rNd k ≤ c ∨ (0 < d ∧ v = 0) ∨ 4000 < 10 * v + dv then none else some ((k, sm, ng), (c, 10 * v + dv, d + 1, cm), p, X, O)
def rMi : RSt → Option RSt
  | ((k, sm, ng), (c, v, d, cm), p, X, O) => if rNd k ≤ c ∨ ¬ ng = 0 ∨ 0 < d then none else some ((k, sm, 1), (c, v, d, cm), p, X, O)
def rCo : RSt → Option RSt
  | ((k, sm, ng), (c, v, d, cm), p, X, O) => if d = 0 ∨ rNd k ≤ c + 1 then none else some ((k, sm, 0), (c + 1, 0, 0, cm), p, upd X c (rSg v ng), O)
def rWh : RSt → Prop
  | ((k, _, _), (c, _, d, _), _) => ¬ k = -1 ∧ (k = 4 ∨ (0 < d ∧ c + 1 = rNd k))
def rCb (nx : Int32) (s : RSt) : Prop := (s.1.1 = -1 ∧ nx = 0) ∨ (¬ s.1.1 = -1 ∧ rWh s ∧ (¬ s.1.1 = 4 ∨ nx = 0))
def rRow (k : Int32) (X : Nat → Int32) (p : Nat) : Int32 := if p = 0 then k else if k = 0 ∨ k = 1 then (if p = 5 then X 0 else if p = 6 then X 1 else 0) else if k = 2 then (if p = 1 then X 0 else if p = 2 then X 1 else if p = 5 then X 2 else if p = 6 then X 3 else 0) else if k = 3 then X (p - 1) else 0
def rOut (O : Nat → Int32) (cm : Nat) (row : Nat → Int32) : Nat → Int32 := fun j => if cm * 7 ≤ j ∧ j < (cm + 1) * 7 then row (j - cm * 7) else O j
def rSh (n : Nat) (x y : Int32) (X : Nat → Int32) : Nat → Int32 := fun i => if i < n then X i + (if i % 2 = 0 then x else y) else X i
/-- the numbers of the command, its last number among them, made absolute -/
def rX2 (k sm ng : Int32) (c v : Nat) (x y : Int32) (X : Nat → Int32) : Nat → Int32 := if sm = 0 then upd X c (rSg v ng) else rSh (rNd k) x y (upd X c (rSg v ng))
def rFC : RSt → RSt
  | ((k, sm, ng), (c, v, d, cm), (x, y, sx, sy), X, O) => if k = -1 then ((k, sm, ng), (c, v, d, cm), (x, y, sx, sy), X, O) else if k = 4 then ((k, sm, ng), (c, v, d, cm + 1), (sx, sy, sx, sy), X, rOut O cm (rRow 4 X)) else
    ((k, sm, 0), (c + 1, 0, 0, cm + 1), (rX2 k sm ng c v x y X (rNd k - 2), rX2 k sm ng c v x y X (rNd k - 1), if k = 0 then rX2 k sm ng c v x y X (rNd k - 2) else sx, if k = 0 then rX2 k sm ng c v x y X (rNd k - 1) else sy), rX2 k sm ng c v x y X, rOut O cm (rRow k (rX2 k sm ng c v x y X)))
def rBg (nx sm : Int32) : RSt → RSt
  | (_, (_, _, _, cm), p, X, O) => ((nx, sm, 0), (0, 0, 0, cm), p, X, O)
def rLt (ch : Int32) : Int32 × Int32 := if ixS 0 ch < 0 then (ixS 1 ch, 1) else (ixS 0 ch, 0)
noncomputable def rLe (ch : Int32) (s : RSt) : Option RSt := @ite _ ((rLt ch).1 < 0 ∨ ¬ rCb (rLt ch).1 s) (Classical.propDecidable _) none (some (rBg (rLt ch).1 (rLt ch).2 (rFC s)))
noncomputable def rSt (ch : Int32) (s : RSt) : Option RSt := if 48 ≤ ch ∧ ch ≤ 57 then rDg (ch - 48).toNatClampNeg s else if ch = 45 then rMi s else if ch = 44 then rCo s else rLe ch s
def r0 : RSt := ((-1, 0, 0), (0, 0, 0, 0), (0, 0, 0, 0), fun _ => 0, fun _ => 0)
noncomputable def rRun (P : Nat → Int32) : Nat → Option RSt
  | 0 => some r0
  | i + 1 => match rRun P i with
    | none => none
    | some s => rSt (P i) s
/-- the place of the fault -/
noncomputable def rFt (P : Nat → Int32) (n : Nat) : Nat → Nat → Int32
  | 0, _ => match rRun P n with
    | none => nI n
    | some s => @ite _ (rWh s) (Classical.propDecidable _) (-1000006) (nI n)
  | r + 1, i => match rRun P (i + 1) with
    | none => nI i
    | some _ => rFt P n r (i + 1)
theorem rRun_s {P : Nat → Int32} {i : Nat} {s : RSt} (h : rRun P i = some s) : rRun P (i + 1) = rSt (P i) s := by
  rw [rRun, h]
theorem rFt_n {P : Nat → Int32} {n r i : Nat} {s : RSt} (h : rRun P i = some s) (h2 : rSt (P i) s = none) : rFt P n (r + 1) i = nI i := by
  rw [rFt, rRun_s h, h2]
theorem rFt_s {P : Nat → Int32} {n r i : Nat} {s s' : RSt} (h : rRun P i = some s) (h2 : rSt (P i) s = some s') : rFt P n (r + 1) i = rFt P n r (i + 1) := by
  rw [rFt, rRun_s h, h2]
theorem rFt_e {P : Nat → Int32} {n i : Nat} {s : RSt} (h : rRun P n = some s) : (rWh s → rFt P n 0 i = -1000006) ∧ (¬ rWh s → rFt P n 0 i = nI n) := by
  rw [rFt, h]
  exact ⟨fun q => if_pos q, fun q => if_neg q⟩
/-- all that came before an accepted place was accepted -/
theorem rRun_b {P : Nat → Int32} : ∀ r i s, rRun P (i + r) = some s → ∃ s', rRun P i = some s'
  | 0, _, s, h => ⟨s, h⟩
  | r + 1, i, s, h => by
    have : ∃ s1, rRun P (i + r) = some s1 := by
      cases e : rRun P (i + r) with
      | none => rw [show i + (r + 1) = i + r + 1 by omega, rRun, e] at h; cases h
      | some s1 => exact ⟨s1, rfl⟩
    obtain ⟨s1, e⟩ := this
    exact rRun_b r i s1 e
theorem rFt_to {P : Nat → Int32} {n : Nat} : ∀ r i s, i + r ≤ n → rRun P (i + r) = some s → rFt P n (n - i) i = rFt P n (n - (i + r)) (i + r)
  | 0, _, _, _, _ => rfl
  | r + 1, i, s, hn, h => by
    obtain ⟨s1, e1⟩ := rRun_b (r + 1) i s h
    obtain ⟨s2, e2⟩ := rRun_b r (i + 1) s (by rw [show i + 1 + r = i + (r + 1) by omega]; exact h)
    have e3 := e2
    rw [rRun_s e1] at e3
    rw [show n - i = (n - (i + 1)) + 1 by omega, rFt_s e1 e3, rFt_to r (i + 1) s (by omega) (by rw [show i + 1 + r = i + (r + 1) by omega]; exact h), show i + 1 + r = i + (r + 1) by omega]
/-- rows that lie as WF wants them, but for the range -/
def rWF (O : Nat → Int32) (cm : Nat) : Prop := ∀ i, i < cm → (0 ≤ O (i * 7) ∧ O (i * 7) ≤ 4) ∧ (O (i * 7) ≠ 0 → ∃ j, i = j + 1 ∧ O (j * 7) ≠ 4) ∧
  ((O (i * 7) = 0 ∨ O (i * 7) = 1 ∨ O (i * 7) = 4 → O (i * 7 + 1) = 0 ∧ O (i * 7 + 2) = 0) ∧ (O (i * 7) = 0 ∨ O (i * 7) = 1 ∨ O (i * 7) = 2 ∨ O (i * 7) = 4 → O (i * 7 + 3) = 0 ∧ O (i * 7 + 4) = 0) ∧ (O (i * 7) = 4 → O (i * 7 + 5) = 0 ∧ O (i * 7 + 6) = 0))
/-- what holds of the state behind i signs -/
def RI (i : Nat) : RSt → Prop
  | ((k, sm, ng), (c, v, d, cm), (_, _, sx, sy), _, O) => (k = -1 ∨ (0 ≤ k ∧ k ≤ 4)) ∧ (k = -1 ∨ k = 4 → c = 0) ∧ (0 ≤ k ∧ k ≤ 3 → c < rNd k) ∧ v ≤ 4000 ∧ d ≤ i ∧ (cm ≤ i ∧ (¬ k = -1 → cm < i)) ∧ (ng = 0 ∨ ng = 1) ∧ (sm = 0 ∨ sm = 1) ∧ rWF O cm ∧ (¬ k = -1 → ¬ k = 0 → 0 < cm ∧ O ((cm - 1) * 7) ≠ 4) ∧ (0 < cm → O (mv7 O (cm - 1) * 7 + 5) = sx ∧ O (mv7 O (cm - 1) * 7 + 6) = sy) ∧ (k = -1 → cm = 0)
theorem RI_0 : RI 0 r0 := ⟨Or.inl rfl, fun _ => rfl, fun q => absurd q.1 (by decide), Nat.zero_le _, Nat.le_refl _, ⟨Nat.le_refl _, fun q => absurd rfl q⟩, Or.inl rfl, Or.inl rfl, fun i h => absurd h (Nat.not_lt_zero _), fun q => absurd rfl q, fun h => absurd h (Nat.lt_irrefl _), fun _ => rfl⟩
theorem rNd_b (k : Int32) : rNd k ≤ 6 := by
  have := ptn_b k
  unfold rNd
  split <;> omega
theorem rNd_k {k : Int32} (h : 0 ≤ k ∧ k ≤ 3) : rNd k = 2 * ptn k := by
  unfold rNd
  rw [if_neg]
  rintro (q | q) <;> rw [q] at h <;> exact absurd h (by decide)
theorem k3 {k : Int32} (h : 0 ≤ k ∧ k ≤ 4) (h4 : ¬ k = 4) : 0 ≤ k ∧ k ≤ 3 := by
  rcases k5 h with e | e | e | e | e
  · rw [e]; decide
  · rw [e]; decide
  · rw [e]; decide
  · rw [e]; decide
  · exact absurd e h4
theorem RI.dg {i dv : Nat} {s s' : RSt} (h : RI i s) (e : rDg dv s = some s') : RI (i + 1) s' := by
  obtain ⟨⟨k, sm, ng⟩, ⟨c, v, d, cm⟩, ⟨x, y, sx, sy⟩, X, O⟩ := s
  obtain ⟨a1, a2, a3, a4, a5, a6, a7, a8, a9, a10, a11, a12⟩ := h
  unfold rDg at e
  dsimp only at e
  split at e
  · cases e
  · rename_i q
    cases e
    exact ⟨a1, a2, a3, by omega, by omega, ⟨by omega, fun z => by have := a6.2 z; omega⟩, a7, a8, a9, a10, a11, a12⟩
theorem RI.mi {i : Nat} {s s' : RSt} (h : RI i s) (e : rMi s = some s') : RI (i + 1) s' := by
  obtain ⟨⟨k, sm, ng⟩, ⟨c, v, d, cm⟩, ⟨x, y, sx, sy⟩, X, O⟩ := s
  obtain ⟨a1, a2, a3, a4, a5, a6, a7, a8, a9, a10, a11, a12⟩ := h
  unfold rMi at e
  dsimp only at e
  split at e
  · cases e
  · cases e
    exact ⟨a1, a2, a3, a4, by omega, ⟨by omega, fun z => by have := a6.2 z; omega⟩, Or.inr rfl, a8, a9, a10, a11, a12⟩
theorem RI.co {i : Nat} {s s' : RSt} (h : RI i s) (e : rCo s = some s') : RI (i + 1) s' := by
  obtain ⟨⟨k, sm, ng⟩, ⟨c, v, d, cm⟩, ⟨x, y, sx, sy⟩, X, O⟩ := s
  obtain ⟨a1, a2, a3, a4, a5, a6, a7, a8, a9, a10, a11, a12⟩ := h
  unfold rCo at e
  dsimp only at e
  split at e
  · cases e
  · rename_i q
    cases e
    refine ⟨a1, fun z => ?_, fun _ => by omega, Nat.zero_le _, by omega, ⟨by omega, fun z => by have := a6.2 z; omega⟩, Or.inl rfl, a8, a9, a10, a11, a12⟩
    have : rNd k = 0 := by unfold rNd; rw [if_pos (z.symm)]
    omega
theorem rOut_o {O : Nat → Int32} {cm : Nat} {row : Nat → Int32} {i p : Nat} (h : i ≠ cm) (hp : p < 7) : rOut O cm row (i * 7 + p) = O (i * 7 + p) := by
  unfold rOut; rw [if_neg (by omega)]
theorem rOut_n {O : Nat → Int32} {cm : Nat} {row : Nat → Int32} {p : Nat} (hp : p < 7) : rOut O cm row (cm * 7 + p) = row p := by
  unfold rOut; rw [if_pos (by omega), show cm * 7 + p - cm * 7 = p by omega]
theorem rRow_z {k : Int32} {X : Nat → Int32} : (k = 0 ∨ k = 1 ∨ k = 4 → rRow k X 1 = 0 ∧ rRow k X 2 = 0) ∧ (k = 0 ∨ k = 1 ∨ k = 2 ∨ k = 4 → rRow k X 3 = 0 ∧ rRow k X 4 = 0) ∧ (k = 4 → rRow k X 5 = 0 ∧ rRow k X 6 = 0) := by
  refine ⟨fun q => ?_, fun q => ?_, fun q => ?_⟩
  · rcases q with rfl | rfl | rfl <;> exact ⟨rfl, rfl⟩
  · rcases q with rfl | rfl | rfl | rfl <;> exact ⟨rfl, rfl⟩
  · subst q; exact ⟨rfl, rfl⟩
theorem rWF_out {O : Nat → Int32} {cm : Nat} (h : rWF O cm) {k : Int32} {X : Nat → Int32} (hk : 0 ≤ k ∧ k ≤ 4) (hp : ¬ k = 0 → 0 < cm ∧ O ((cm - 1) * 7) ≠ 4) : rWF (rOut O cm (rRow k X)) (cm + 1) := by
  have o : ∀ i, i ≠ cm → rOut O cm (rRow k X) (i * 7) = O (i * 7) := fun i hi => rOut_o hi (p := 0) (by omega)
  have n0 : rOut O cm (rRow k X) (cm * 7) = k := rOut_n (p := 0) (by omega)
  intro i hi
  by_cases e : i = cm
  · subst e
    rw [n0, rOut_n (p := 1) (by omega), rOut_n (p := 2) (by omega), rOut_n (p := 3) (by omega), rOut_n (p := 4) (by omega), rOut_n (p := 5) (by omega), rOut_n (p := 6) (by omega)]
    refine ⟨hk, fun z => ?_, rRow_z⟩
    obtain ⟨h1, h2⟩ := hp z
    exact ⟨i - 1, by omega, by rw [o _ (by omega)]; exact h2⟩
  · obtain ⟨h1, h2, h3⟩ := h i (by omega)
    rw [o i e, rOut_o e (p := 1) (by omega), rOut_o e (p := 2) (by omega), rOut_o e (p := 3) (by omega), rOut_o e (p := 4) (by omega), rOut_o e (p := 5) (by omega), rOut_o e (p := 6) (by omega)]
    refine ⟨h1, fun z => ?_, h3⟩
    obtain ⟨j, e1, e2⟩ := h2 z
    exact ⟨j, e1, by rw [o j (by omega)]; exact e2⟩
theorem mv7_out {O : Nat → Int32} {cm : Nat} {row : Nat → Int32} : (row 0 = 0 → mv7 (rOut O cm row) cm = cm) ∧ (¬ row 0 = 0 → 0 < cm → mv7 (rOut O cm row) cm = mv7 O (cm - 1)) := by
  have n0 : rOut O cm row (cm * 7) = row 0 := rOut_n (p := 0) (by omega)
  cases cm with
  | zero => exact ⟨fun _ => rfl, fun _ h => absurd h (Nat.lt_irrefl _)⟩
  | succ c =>
    refine ⟨fun z => by rw [mv7, if_pos (by rw [n0]; exact z)], fun z _ => ?_⟩
    rw [mv7, if_neg (by rw [n0]; exact z), Nat.add_sub_cancel]
    exact mv7_cong c (fun j hj => rOut_o (by omega) (p := 0) (by omega))
/-- behind the end of a command -/
def RE (i : Nat) : RSt → Prop
  | (_, (_, _, _, cm), (_, _, sx, sy), _, O) => cm ≤ i ∧ rWF O cm ∧ (0 < cm → O (mv7 O (cm - 1) * 7 + 5) = sx ∧ O (mv7 O (cm - 1) * 7 + 6) = sy)
theorem RI.fc {i : Nat} {s : RSt} (h : RI i s) : RE i (rFC s) ∧ (¬ s.1.1 = -1 → 0 < (rFC s).2.1.2.2.2 ∧ (rFC s).2.2.2.2 (((rFC s).2.1.2.2.2 - 1) * 7) = s.1.1) ∧ (s.1.1 = -1 → (rFC s).2.1.2.2.2 = 0) := by
  obtain ⟨⟨k, sm, ng⟩, ⟨c, v, d, cm⟩, ⟨x, y, sx, sy⟩, X, O⟩ := s
  obtain ⟨a1, a2, a3, a4, a5, a6, a7, a8, a9, a10, a11, a12⟩ := h
  unfold rFC
  dsimp only
  by_cases hk : k = -1
  · rw [if_pos hk]
    exact ⟨⟨a6.1, a9, a11⟩, fun q => absurd hk q, fun _ => a12 hk⟩
  · rw [if_neg hk]
    have k04 : 0 ≤ k ∧ k ≤ 4 := a1.resolve_left hk
    by_cases h4 : k = 4
    · rw [if_pos h4]
      obtain ⟨p1, p2⟩ := a10 hk (by rw [h4]; decide)
      have mvl := mv7_le O (cm - 1)
      refine ⟨⟨a6.2 hk, rWF_out a9 (by decide) (fun _ => ⟨p1, p2⟩), fun _ => ?_⟩, fun _ => ⟨Nat.succ_pos _, ?_⟩, fun q => absurd q hk⟩
      · show rOut O cm (rRow 4 X) (mv7 (rOut O cm (rRow 4 X)) cm * 7 + 5) = sx ∧ rOut O cm (rRow 4 X) (mv7 (rOut O cm (rRow 4 X)) cm * 7 + 6) = sy
        rw [(mv7_out (O := O) (cm := cm) (row := rRow 4 X)).2 (show ¬ rRow 4 X 0 = 0 by show ¬ (4 : Int32) = 0; decide) p1, rOut_o (by omega) (by omega), rOut_o (by omega) (by omega)]
        exact a11 p1
      · show rOut O cm (rRow 4 X) (cm * 7) = k
        rw [h4]; exact rOut_n (p := 0) (by omega)
    · rw [if_neg h4]
      refine ⟨⟨a6.2 hk, rWF_out a9 k04 (fun z => a10 hk z), fun _ => ?_⟩, fun _ => ⟨Nat.succ_pos _, rOut_n (p := 0) (by omega)⟩, fun q => absurd q hk⟩
      obtain ⟨X2, e2⟩ : ∃ z, z = rX2 k sm ng c v x y X := ⟨_, rfl⟩
      rw [← e2]
      by_cases h0 : k = 0
      · show rOut O cm (rRow k X2) (mv7 (rOut O cm (rRow k X2)) cm * 7 + 5) = _ ∧ rOut O cm (rRow k X2) (mv7 (rOut O cm (rRow k X2)) cm * 7 + 6) = _
        rw [(mv7_out (O := O) (cm := cm) (row := rRow k X2)).1 (show rRow k X2 0 = 0 from h0), rOut_n (by omega), rOut_n (by omega), if_pos h0, if_pos h0, h0]
        exact ⟨rfl, rfl⟩
      · obtain ⟨p1, p2⟩ := a10 hk h0
        have mvl := mv7_le O (cm - 1)
        show rOut O cm (rRow k X2) (mv7 (rOut O cm (rRow k X2)) cm * 7 + 5) = _ ∧ rOut O cm (rRow k X2) (mv7 (rOut O cm (rRow k X2)) cm * 7 + 6) = _
        rw [(mv7_out (O := O) (cm := cm) (row := rRow k X2)).2 (show ¬ rRow k X2 0 = 0 from h0) p1, rOut_o (by omega) (by omega), rOut_o (by omega) (by omega), if_neg h0, if_neg h0]
        exact a11 p1
theorem ixS_b (i : Nat) (ch : Int32) : ixS i ch = -1 ∨ ∃ j, j < lenS.getD i 0 ∧ ixS i ch = nI j := by
  have g : ∀ r k, ixL i ch r k = -1 ∨ ∃ j, j < k + r ∧ ixL i ch r k = nI j := by
    intro r
    induction r with
    | zero => intro k; exact Or.inl rfl
    | succ r ih =>
      intro k
      rw [ixL]
      split
      · exact Or.inr ⟨k, by omega, rfl⟩
      · rcases ih (k + 1) with q | ⟨j, q1, q2⟩
        · exact Or.inl q
        · exact Or.inr ⟨j, by omega, q2⟩
  rcases g (lenS.getD i 0) 0 with q | ⟨j, q1, q2⟩
  · exact Or.inl q
  · exact Or.inr ⟨j, by omega, q2⟩
theorem rLt_b (ch : Int32) (h : ¬ (rLt ch).1 < 0) : (0 ≤ (rLt ch).1 ∧ (rLt ch).1 ≤ 4) ∧ ((rLt ch).2 = 0 ∨ (rLt ch).2 = 1) := by
  have hl0 := lenS_b 0
  have hl1 := lenS_b 1
  have g : ∀ i, ¬ ixS i ch < 0 → 0 ≤ ixS i ch ∧ ixS i ch ≤ 4 := by
    intro i q
    have hl := lenS_b i
    rcases ixS_b i ch with e | ⟨j, j1, e⟩
    · rw [e] at q; exact absurd (by decide) q
    · rw [e]
      exact ⟨nI_pos' (by omega), (nI_leI (a := j) (b := 4) (by omega) (by omega)).mpr (by omega)⟩
  unfold rLt at h ⊢
  by_cases c : ixS 0 ch < 0
  · rw [if_pos c] at h ⊢
    exact ⟨g 1 h, Or.inr rfl⟩
  · rw [if_neg c] at h ⊢
    exact ⟨g 0 h, Or.inl rfl⟩
theorem RI.le {i : Nat} {s s' : RSt} {ch : Int32} (h : RI i s) (e : rLe ch s = some s') : RI (i + 1) s' ∧ ¬ (rLt ch).1 < 0 ∧ rCb (rLt ch).1 s := by
  unfold rLe at e
  by_cases q : (rLt ch).1 < 0 ∨ ¬ rCb (rLt ch).1 s
  · rw [if_pos q] at e; cases e
  · rw [if_neg q] at e
    cases e
    have q1 : ¬ (rLt ch).1 < 0 := fun z => q (Or.inl z)
    have q2 : rCb (rLt ch).1 s := Classical.not_not.mp (fun z => q (Or.inr z))
    refine ⟨?_, q1, q2⟩
    obtain ⟨b1, b2⟩ := rLt_b ch q1
    obtain ⟨f1, f2, f3⟩ := h.fc
    obtain ⟨⟨k, sm, ng⟩, ⟨c, v, d, cm⟩, ⟨x, y, sx, sy⟩, X, O⟩ := s
    generalize rFC ((k, sm, ng), (c, v, d, cm), (x, y, sx, sy), X, O) = w at f1 f2 f3 ⊢
    obtain ⟨w1, ⟨wc, wv, wd, wcm⟩, ⟨wx, wy, wsx, wsy⟩, wX, wO⟩ := w
    obtain ⟨g1, g2, g3⟩ := f1
    dsimp only at f2 f3
    have z1 : ¬ (rLt ch).1 = -1 := fun z => by rw [z] at b1; exact absurd b1.1 (by decide)
    refine ⟨Or.inr b1, fun _ => rfl, fun z => ?_, Nat.zero_le _, Nat.zero_le _, ⟨by omega, fun _ => by omega⟩, Or.inl rfl, b2, g2, fun _ z0 => ?_, g3, fun z => absurd z z1⟩
    · have := ptn_b (rLt ch).1
      rw [rNd_k z]; omega
    · rcases q2 with ⟨p1, p2⟩ | ⟨p1, p2, p3⟩
      · exact absurd p2 z0
      · obtain ⟨r1, r2⟩ := f2 p1
        exact ⟨r1, by rw [r2]; exact p3.resolve_right z0⟩
theorem RI.st {i : Nat} {s s' : RSt} {ch : Int32} (h : RI i s) (e : rSt ch s = some s') : RI (i + 1) s' := by
  unfold rSt at e
  split at e
  · exact h.dg e
  · split at e
    · exact h.mi e
    · split at e
      · exact h.co e
      · exact (h.le e).1
theorem RI_run {P : Nat → Int32} : ∀ i s, rRun P i = some s → RI i s
  | 0, s, h => by cases h; exact RI_0
  | i + 1, s, h => by
    cases e : rRun P i with
    | none => rw [rRun, e] at h; cases h
    | some s1 =>
      rw [rRun_s e] at h
      exact (RI_run i s1 e).st h
