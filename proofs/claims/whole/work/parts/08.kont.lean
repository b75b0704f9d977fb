def pI (V : vM) (z : Int32) : Option Value → vM → Prop := fun r U => U = V ∧ r = some (.int z)
def pL (V : vM) (z : Int64) : Option Value → vM → Prop := fun r U => U = V ∧ r = some (.long z)
def pR (V : vM) (a : Nat) : Option Value → vM → Prop := fun r U => U = V ∧ r = some (.ref a)
def eV (P : vM → Prop) : Option Value → vM → Prop := fun r U => r = none ∧ P U
def eI (P : Int32 → vM → Prop) : Option Value → vM → Prop := fun r U => ∃ z, r = some (.int z) ∧ P z U
def eR (a : Nat) (P : vM → Prop) : Option Value → vM → Prop := fun r U => r = some (.ref a) ∧ P U
section KO
variable {g : gX} {J : MD} {Qf : List Frame → Array Value → State → State → Prop} {V : vM} {pc : Nat} {lv : List (Nat × Value)} {st : List Value}
theorem kpI {z : Int32} (k : YY g J Qf V pc lv (.int z :: st)) : ∀ (r : Option Value) (V1 : vM), pI V z r V1 → YY g J Qf V1 pc lv (r.toList ++ st) := by
  rintro r V1 ⟨rfl, rfl⟩
  exact k
theorem kpL {z : Int64} (k : YY g J Qf V pc lv (.long z :: st)) : ∀ (r : Option Value) (V1 : vM), pL V z r V1 → YY g J Qf V1 pc lv (r.toList ++ st) := by
  rintro r V1 ⟨rfl, rfl⟩
  exact k
theorem kpR {a : Nat} (k : YY g J Qf V pc lv (.ref a :: st)) : ∀ (r : Option Value) (V1 : vM), pR V a r V1 → YY g J Qf V1 pc lv (r.toList ++ st) := by
  rintro r V1 ⟨rfl, rfl⟩
  exact k
theorem keV {P : vM → Prop} (k : ∀ U, P U → YY g J Qf U pc lv st) : ∀ (r : Option Value) (V1 : vM), eV P r V1 → YY g J Qf V1 pc lv (r.toList ++ st) := by
  rintro r V1 ⟨rfl, h⟩
  exact k V1 h
theorem keI {P : Int32 → vM → Prop} (k : ∀ z U, P z U → YY g J Qf U pc lv (.int z :: st)) : ∀ (r : Option Value) (V1 : vM), eI P r V1 → YY g J Qf V1 pc lv (r.toList ++ st) := by
  rintro r V1 ⟨z, rfl, h⟩
  exact k z V1 h
theorem keR {a : Nat} {P : vM → Prop} (k : ∀ U, P U → YY g J Qf U pc lv (.ref a :: st)) : ∀ (r : Option Value) (V1 : vM), eR a P r V1 → YY g J Qf V1 pc lv (r.toList ++ st) := by
  rintro r V1 ⟨rfl, h⟩
  exact k V1 h
end KO
theorem nar01 {x : Int32} (h : x = 0 ∨ x = 1) : narrow .boolean (.int x) = .int x := by
  rcases h with rfl | rfl <;> decide +kernel
theorem vp_lit {i : Int32} {N : Nat} (M : Int32) (h0 : N < 2 ^ 31) (hM : Int32.ofNat N = M) (h1 : 0 ≤ i) (h2 : i < M) : vp_in i N := by
  rw [vp_in_iff]
  subst hM
  have a := Int32.le_iff_toInt_le.mp h1
  have b := Int32.lt_iff_toInt_lt.mp h2
  rw [show (Int32.ofNat N).toInt = N from nI_toInt h0] at b
  exact ⟨by simpa using a, b⟩
def b2i (b : Bool) : Int32 := if b then 1 else 0
theorem b2i_01 (b : Bool) : b2i b = 0 ∨ b2i b = 1 := by cases b <;> simp [b2i]
/-- address a is a Path with the arrays k (kinds) and n (numbers) -/
def isP (a k n : Nat) : Prop := shp[a]? = some (.inr (5, [some k, some n, none, none])) ∧ shp[k]? = some (.inl (0, 24)) ∧ shp[n]? = some (.inl (0, 144)) ∧ a ≠ k ∧ a ≠ n ∧ k ≠ n
theorem isP1 : isP 1 12 13 := ⟨rfl, rfl, rfl, by decide, by decide, by decide⟩
theorem isP2 : isP 2 14 15 := ⟨rfl, rfl, rfl, by decide, by decide, by decide⟩
theorem isP3 : isP 3 16 17 := ⟨rfl, rfl, rfl, by decide, by decide, by decide⟩
theorem isP4 : isP 4 18 19 := ⟨rfl, rfl, rfl, by decide, by decide, by decide⟩
/-- the answer and the state behind are these -/
def dI (V' : vM) (z : Int32) : Option Value → vM → Prop := fun r U => U = V' ∧ r = some (.int z)
def dV (V' : vM) : Option Value → vM → Prop := fun r U => U = V' ∧ r = none
theorem kdI {g : gX} {J : MD} {Qf : List Frame → Array Value → State → State → Prop} {V' : vM} {pc : Nat} {lv : List (Nat × Value)} {st : List Value} {z : Int32} (k : YY g J Qf V' pc lv (.int z :: st)) : ∀ (r : Option Value) (V1 : vM), dI V' z r V1 → YY g J Qf V1 pc lv (r.toList ++ st) := by
  rintro r V1 ⟨rfl, rfl⟩
  exact k
theorem kdV {g : gX} {J : MD} {Qf : List Frame → Array Value → State → State → Prop} {V' : vM} {pc : Nat} {lv : List (Nat × Value)} {st : List Value} (k : YY g J Qf V' pc lv st) : ∀ (r : Option Value) (V1 : vM), dV V' r V1 → YY g J Qf V1 pc lv (r.toList ++ st) := by
  rintro r V1 ⟨rfl, rfl⟩
  exact k
theorem uM_na {V : vM} {a i : Nat} {x : Int32} {b j : Nat} (h : b ≠ a) : uM V a i x b j = V b j := by rw [uM_at, if_neg (fun q => h q.1)]
theorem uM_ni {V : vM} {a i : Nat} {x : Int32} {b j : Nat} (h : j ≠ i) : uM V a i x b j = V b j := by rw [uM_at, if_neg (fun q => h q.2)]
theorem uM_hit {V : vM} {a i : Nat} {x : Int32} : uM V a i x a i = x := by rw [uM_at, if_pos ⟨rfl, rfl⟩]
