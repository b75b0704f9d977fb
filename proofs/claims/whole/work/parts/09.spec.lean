/-! words of both sides: kinds K, counts -/
noncomputable def bP (P : Prop) : Int32 := @ite _ P (Classical.propDecidable P) 1 0
theorem bP_t {P : Prop} (h : P) : bP P = 1 := if_pos h
theorem bP_f {P : Prop} (h : ¬ P) : bP P = 0 := if_neg h
theorem bP_01 (P : Prop) : bP P = 0 ∨ bP P = 1 := by
  by_cases h : P
  · exact Or.inr (bP_t h)
  · exact Or.inl (bP_f h)
theorem bP_1 {P : Prop} : bP P = 1 ↔ P := by
  by_cases h : P
  · rw [bP_t h]; exact ⟨fun _ => h, fun _ => rfl⟩
  · rw [bP_f h]; exact ⟨fun q => absurd q (by decide), fun q => absurd q h⟩
theorem bP_0 {P : Prop} : bP P = 0 ↔ ¬ P := by
  by_cases h : P
  · rw [bP_t h]; exact ⟨fun q => absurd q (by decide), fun q => absurd h q⟩
  · rw [bP_f h]; exact ⟨fun _ => h, fun _ => rfl⟩
theorem bP_iff {P R : Prop} (h : P ↔ R) : bP P = bP R := by
  by_cases c : P
  · rw [bP_t c, bP_t (h.mp c)]
  · rw [bP_f c, bP_f (fun q => c (h.mpr q))]
/-- how many of the first j kinds are MOVE -/
def cntM (K : Nat → Int32) : Nat → Nat
  | 0 => 0
  | j + 1 => if K j = 0 then cntM K j + 1 else cntM K j
theorem cntM_le (K : Nat → Int32) : ∀ j, cntM K j ≤ j
  | 0 => Nat.le_refl 0
  | j + 1 => by
    have := cntM_le K j
    unfold cntM
    split <;> omega
/-- the place of MOVE number c among the first N kinds, from i on, mv being before it -/
def foL (K : Nat → Int32) (N : Nat) (c : Int32) : Nat → Nat → Nat → Nat
  | 0, _, _ => N
  | r + 1, i, mv => if K i = 0 then (if nI mv = c then i else foL K N c r (i + 1) (mv + 1)) else foL K N c r (i + 1) mv
def fo (K : Nat → Int32) (N : Nat) (c : Int32) : Nat := foL K N c N 0 0
theorem foL_le (K : Nat → Int32) (N : Nat) (c : Int32) : ∀ r i mv, i + r = N → foL K N c r i mv ≤ N
  | 0, i, mv, h => Nat.le_refl N
  | r + 1, i, mv, h => by
    unfold foL
    split
    · split
      · omega
      · exact foL_le K N c r _ _ (by omega)
    · exact foL_le K N c r _ _ (by omega)
theorem fo_le (K : Nat → Int32) (N : Nat) (c : Int32) : fo K N c ≤ N := foL_le K N c N 0 0 (by omega)
theorem fits_def (x : Int32) : (x.toInt < -4000 ∨ 4000 < x.toInt) ↔ ¬ (-4000 ≤ x ∧ x ≤ 4000) := by
  rw [Int32.le_iff_toInt_le, Int32.le_iff_toInt_le, show (-4000 : Int32).toInt = -4000 from rfl, show (4000 : Int32).toInt = 4000 from rfl]
  omega
def inR (x : Int32) : Prop := -4000 ≤ x ∧ x ≤ 4000
abbrev iB (P : Prop) [Decidable P] : Int32 := if P then 1 else 0
theorem iB_0 {P : Prop} [Decidable P] : iB P = 0 ↔ ¬ P := by
  unfold iB
  by_cases h : P <;> simp [h]
theorem iB_1 {P : Prop} [Decidable P] : iB P = 1 ↔ P := by
  unfold iB
  by_cases h : P <;> simp [h]
theorem iB_01 (P : Prop) [Decidable P] : iB P = 0 ∨ iB P = 1 := by
  unfold iB
  by_cases h : P <;> simp [h]
theorem iB_iff {P R : Prop} [Decidable P] [Decidable R] (h : P ↔ R) : iB P = iB R := by
  unfold iB
  by_cases c : P
  · rw [if_pos c, if_pos (h.mp c)]
  · rw [if_neg c, if_neg (fun q => c (h.mpr q))]
theorem nadd {x y : Int32} {a b : Nat} (hx : x = nI a) (hy : y = nI b) : x + y = nI (a + b) := by rw [hx, hy, nI_add]
theorem nmul {x y : Int32} {a b : Nat} (hx : x = nI a) (hy : y = nI b) : x * y = nI (a * b) := by rw [hx, hy, pk_mul]
theorem nsub {x y : Int32} {a b : Nat} (h : b ≤ a) (hx : x = nI a) (hy : y = nI b) : x - y = nI (a - b) := by rw [hx, hy, pk_sub h]
theorem nl_le {x y : Int32} {a b : Nat} (hx : x = nI a) (hy : y = nI b) (ha : a < 2 ^ 31) (hb : b < 2 ^ 31) : x ≤ y ↔ a ≤ b := by rw [hx, hy]; exact nI_leI ha hb
theorem nl_lt {x y : Int32} {a b : Nat} (hx : x = nI a) (hy : y = nI b) (ha : a < 2 ^ 31) (hb : b < 2 ^ 31) : x < y ↔ a < b := by rw [hx, hy]; exact nI_ltI ha hb
theorem nl_eq {x y : Int32} {a b : Nat} (hx : x = nI a) (hy : y = nI b) (ha : a < 2 ^ 31) (hb : b < 2 ^ 31) : x = y ↔ a = b := by rw [hx, hy]; exact nI_eq ha hb
