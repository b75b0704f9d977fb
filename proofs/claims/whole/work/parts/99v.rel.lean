/-! the relation between the two sides: what both hold, in two halves; the path apart -/
def oth (a i : Nat) : Prop := (pk a i ∧ a ≠ 0 ∧ a ≠ 1 ∧ a ≠ 12 ∧ a ≠ 13 ∧ a < 49) ∨ (49 ≤ a ∧ a < 58 ∧ a ≠ 50 ∧ (a = 49 → i < 16))
def frO (V U : vM) : Prop := ∀ a i, oth a i → U a i = V a i
theorem frP.O {V U : vM} (h : frP V U) : frO V U := fun a i q => by
  rcases q with ⟨p, p0, p1, p2, p3, -⟩ | ⟨q1, q2, q3, q4⟩
  · exact h a i p p1 p2 p3
  · exact h a i ⟨by omega, by omega, by omega, by omega, by omega, by omega, by omega, by omega, by omega, by omega, by omega, by omega, by omega, by omega⟩ (by omega) (by omega) (by omega)
theorem frNP.O {V U : vM} (h : frNP V U) : frO V U := fun a i q => by
  rcases q with ⟨p, p0, p1, p2, p3, p4⟩ | ⟨q1, q2, q3, q4⟩
  · exact h a i (by omega) (by omega) (by omega)
  · exact h a i (by omega) q3 q4
theorem frO.trans {V U W : vM} (h : frO V U) (k : frO U W) : frO V W := fun a i q => by rw [k a i q, h a i q]
theorem oth_l {a i : Nat} (h : a = 3 ∨ a = 4 ∨ a = 5 ∨ a = 9 ∨ a = 10 ∨ (16 ≤ a ∧ a ≤ 19) ∨ a = 28 ∨ a = 31 ∨ a = 32 ∨ a = 33 ∨ a = 36 ∨ (a = 8 ∧ i ≠ 3)) : oth a i := Or.inl ⟨⟨by omega, by omega, by omega, by omega, by omega, by omega, by omega, by omega, by omega, by omega, by omega, by omega, by omega, by omega⟩, by omega, by omega, by omega, by omega, by omega⟩
theorem oth_r {a i : Nat} (h : 49 ≤ a ∧ a < 58 ∧ a ≠ 50 ∧ (a = 49 → i < 16)) : oth a i := Or.inr h
/-- the text -/
def RT (V : vM) : Prop := ∃ k, k ≤ 120 ∧ V 10 2 = nI k ∧ V 49 4 = nI k ∧ ∀ j, j < k → V 53 j = V 36 j ∧ 33 ≤ V 36 j ∧ V 36 j ≤ 126
theorem RT.ag {V U : vM} (h : RT V) (q : ∀ a i, (a = 10 ∧ i = 2) ∨ (a = 49 ∧ i = 4) ∨ a = 53 ∨ a = 36 → U a i = V a i) : RT U := by
  obtain ⟨k, h1, h2, h3, h4⟩ := h
  exact ⟨k, h1, by rw [q 10 2 (by omega)]; exact h2, by rw [q 49 4 (by omega)]; exact h3, fun j hj => by rw [q 53 j (by omega), q 36 j (by omega)]; exact h4 j hj⟩
/-- the pattern -/
def RD (V : vM) : Prop := ∃ n ph d, DCc V n ph d ∧ DCm V n ph d
theorem RD.ag {V U : vM} (h : RD V) (q : ∀ a i, (a = 8 ∧ (i = 4 ∨ i = 5)) ∨ (a = 49 ∧ (i = 6 ∨ i = 7)) ∨ a = 28 ∨ a = 54 → U a i = V a i) : RD U := by
  obtain ⟨n, ph, d, ⟨c1, c2, c3, c4, c5, c6⟩, ⟨m1, m2, m3, m4, m5, m6⟩⟩ := h
  refine ⟨n, ph, d, ⟨?_, c2, ?_, c4, fun i hi => ?_, c6⟩, ⟨?_, m2, ?_, m4, fun i hi => ?_, m6⟩⟩
  · rw [q 8 4 (by omega)]; exact c1
  · rw [q 8 5 (by omega)]; exact c3
  · rw [q 28 i (by omega)]; exact c5 i hi
  · rw [q 49 6 (by omega)]; exact m1
  · rw [q 49 7 (by omega)]; exact m3
  · rw [q 54 i (by omega)]; exact m5 i hi
/-- the letters; kernings are counted -/
def nzK (K : Nat → Int32) : Nat → Nat
  | 0 => 0
  | i + 1 => nzK K i + if K i = 0 then 0 else 1
theorem nzK_le (K : Nat → Int32) : ∀ i, nzK K i ≤ i
  | 0 => Nat.le_refl 0
  | i + 1 => by
    have := nzK_le K i
    unfold nzK
    split <;> omega
theorem nzK_cong {K K2 : Nat → Int32} : ∀ n, (∀ i, i < n → K i = K2 i) → nzK K n = nzK K2 n
  | 0, _ => rfl
  | n + 1, h => by
    unfold nzK
    rw [h n (by omega), nzK_cong n (fun i hi => h i (by omega))]
theorem nzK_upd {K K2 : Nat → Int32} {p : Nat} (ho : ∀ i, i ≠ p → K2 i = K i) : ∀ n, p < n → nzK K2 n + (if K p = 0 then 0 else 1) = nzK K n + (if K2 p = 0 then 0 else 1)
  | 0, h => absurd h (Nat.not_lt_zero _)
  | n + 1, h => by
    unfold nzK
    by_cases e : p = n
    · subst e
      rw [nzK_cong p (fun i hi => ho i (by omega))]
      omega
    · have := nzK_upd ho n (by omega)
      rw [ho n (by omega)]
      omega
theorem nzK_pos {K : Nat → Int32} {p : Nat} (h : ¬ K p = 0) : ∀ n, p < n → 0 < nzK K n
  | 0, q => absurd q (Nat.not_lt_zero _)
  | n + 1, q => by
    unfold nzK
    by_cases e : p = n
    · subst e; rw [if_neg h]; omega
    · have := nzK_pos h n (by omega)
      omega
def RLt (V : vM) : Prop := (∃ k, k ≤ 24 ∧ V 9 5 = nI k ∧ V 49 12 = nI k ∧ ∀ j, j < k → V 57 j = V 31 j ∧ 0 ≤ V 31 j ∧ V 31 j ≤ 25) ∧ (V 49 13 = V 9 7 ∧ V 49 14 = V 9 8 ∧ V 49 15 = V 9 9 ∧ (-20000 ≤ V 9 7 ∧ V 9 7 ≤ 100000) ∧ (-100 ≤ V 9 8 ∧ V 9 8 ≤ 1000)) ∧ (∀ l, l < 26 → V 55 l = V 32 l ∧ 1 ≤ V 32 l ∧ V 32 l ≤ 4000) ∧ (∀ p, p < 676 → V 56 p = V 33 p ∧ -500 ≤ V 33 p ∧ V 33 p ≤ 500) ∧ V 9 6 = nI (nzK (V 33) 676) ∧ V 49 10 = nI (nzK (V 33) 676) ∧ nzK (V 33) 676 ≤ 20
theorem RLt.ag {V U : vM} (h : RLt V) (q : ∀ a i, a = 9 ∨ (a = 49 ∧ (i = 10 ∨ (12 ≤ i ∧ i < 16))) ∨ (31 ≤ a ∧ a ≤ 33) ∨ (55 ≤ a ∧ a ≤ 57) → U a i = V a i) : RLt U := by
  obtain ⟨⟨k, a1, a2, a3, a4⟩, ⟨b1, b2, b3, b4, b5⟩, c, d, e1, e2, e3⟩ := h
  have e33 : U 33 = V 33 := by funext i; exact q 33 i (by omega)
  unfold RLt
  rw [e33, q 49 13 (by omega), q 49 14 (by omega), q 49 15 (by omega), q 49 10 (by omega), q 9 6 (by omega), q 9 7 (by omega), q 9 8 (by omega), q 9 9 (by omega)]
  refine ⟨⟨k, a1, by rw [q 9 5 (by omega)]; exact a2, by rw [q 49 12 (by omega)]; exact a3, fun j hj => by rw [q 57 j (by omega), q 31 j (by omega)]; exact a4 j hj⟩, ⟨b1, b2, b3, b4, b5⟩, fun l hl => by rw [q 55 l (by omega), q 32 l (by omega)]; exact c l hl, fun p hp => by rw [q 56 p (by omega)]; exact d p hp, e1, e2, e3⟩
/-- a saved path -/
def RS1 (V : vM) (sl a k n : Nat) : Prop := (V 5 sl = 0 ∧ V 52 sl = 0) ∨ (V 52 sl = 1 ∧ ∃ m N t, PR V a k n N m ∧ (1 ≤ t ∧ t ≤ 1000) ∧ V 5 sl = t ∧ (∀ j, j < 170 → V 51 (170 * sl + j) = m j) ∧ m 168 = nI N ∧ m 169 = t)
theorem RS1.ag {V U : vM} {sl a k n : Nat} (h : RS1 V sl a k n) (h5 : U 5 sl = V 5 sl) (h52 : U 52 sl = V 52 sl) (h51 : ∀ j, j < 170 → U 51 (170 * sl + j) = V 51 (170 * sl + j)) (ha : ∀ i, U a i = V a i) (hk : ∀ i, U k i = V k i) (hn : ∀ i, U n i = V n i) : RS1 U sl a k n := by
  rcases h with ⟨h1, h2⟩ | ⟨h1, m, N, t, h2, h3, h4, h5', h6⟩
  · exact Or.inl ⟨by rw [h5]; exact h1, by rw [h52]; exact h2⟩
  · exact Or.inr ⟨by rw [h52]; exact h1, m, N, t, h2.kept ha hk hn, h3, by rw [h5]; exact h4, fun j hj => by rw [h51 j hj]; exact h5' j hj, h6⟩
def RS (V : vM) : Prop := RS1 V 0 3 16 17 ∧ RS1 V 1 4 18 19
theorem RS.ag {V U : vM} (h : RS V) (q : ∀ a i, (3 ≤ a ∧ a ≤ 5) ∨ (16 ≤ a ∧ a ≤ 19) ∨ a = 51 ∨ a = 52 → U a i = V a i) : RS U :=
  ⟨h.1.ag (q 5 0 (by omega)) (q 52 0 (by omega)) (fun j _ => q 51 _ (by omega)) (fun i => q 3 i (by omega)) (fun i => q 16 i (by omega)) (fun i => q 17 i (by omega)), h.2.ag (q 5 1 (by omega)) (q 52 1 (by omega)) (fun j _ => q 51 _ (by omega)) (fun i => q 4 i (by omega)) (fun i => q 18 i (by omega)) (fun i => q 19 i (by omega))⟩
def RO (V : vM) : Prop := RT V ∧ RD V ∧ RLt V ∧ RS V
theorem RO.ag {V U : vM} (h : RO V) (f : frO V U) : RO U :=
  ⟨h.1.ag (fun a i q => f a i (if z : a < 49 then oth_l (by omega) else oth_r (by omega))), h.2.1.ag (fun a i q => f a i (if z : a < 49 then oth_l (by omega) else oth_r (by omega))), h.2.2.1.ag (fun a i q => f a i (if z : a < 49 then oth_l (by omega) else oth_r (by omega))), h.2.2.2.ag (fun a i q => f a i (if z : a < 49 then oth_l (by omega) else oth_r (by omega)))⟩
def RP (V : vM) : Prop := ∃ m N t, CS V m N t ∧ MS V m N t ∧ 1 ≤ t ∧ t ≤ 1000
def RR (V : vM) : Prop := RP V ∧ RO V
theorem MS.P {V U : vM} {m : Nat → Int32} {N : Nat} {t : Int32} (h : MS V m N t) (f : frP V U) : MS U m N t :=
  ⟨h.1, by rw [← h.2.1]; funext j; exact f 50 j ⟨by omega, by omega, by omega, by omega, by omega, by omega, by omega, by omega, by omega, by omega, by omega, by omega, by omega, by omega⟩ (by omega) (by omega) (by omega), h.2.2⟩
theorem CS.NP {V U : vM} {m : Nat → Int32} {N : Nat} {t : Int32} (h : CS V m N t) (f : frNP V U) : CS U m N t := h.ag (fun a i q => f a i (by omega) (by omega) (by omega))
theorem MZ_of {V V2 : vM} {m : Nat → Int32} {N : Nat} {t : Int32} {S : FS} {fb : Nat → Nat} (h : MS V m N t) (q : CQ V2 m N t S fb) : MZ V m N t S fb := ⟨h.1, h.2.1, h.2.2.1, h.2.2.2, q.2⟩
theorem frN.NP {V U : vM} (h : frN V U) : frNP V U := fun a i p _ q => h a i p q
theorem MZ.S {V : vM} {m : Nat → Int32} {N : Nat} {t : Int32} {S : FS} {fb : Nat → Nat} (h : MZ V m N t S fb) : MS V m N t := ⟨h.1, h.2.1, h.2.2.1, h.2.2.2.1⟩
/-- behind a pair of calls that leave all but the path alone -/
theorem RR.fin {V U W : vM} {m : Nat → Int32} {N : Nat} {t : Int32} (hO : RO V) (hC : CS U m N t) (f1 : frP V U) (hM : MS W m N t) (f2 : frNP U W) (ht : 1 ≤ t ∧ t ≤ 1000) : RR W :=
  ⟨⟨m, N, t, hC.NP f2, hM, ht⟩, hO.ag (f1.O.trans f2.O)⟩
/-- behind a pair of calls that leave the path alone -/
theorem RP.ag {V U : vM} (h : RP V) (q : ∀ a i, (a ≤ 1 ∨ a = 6 ∨ a = 12 ∨ a = 13 ∨ (20 ≤ a ∧ a ≤ 25)) ∨ a = 50 → U a i = V a i) : RP U := by
  obtain ⟨m, N, t, h1, h2, h3⟩ := h
  exact ⟨m, N, t, h1.ag (fun a i p => q a i (Or.inl p)), ⟨h2.1, by rw [← h2.2.1]; funext j; exact q 50 j (Or.inr rfl), h2.2.2⟩, h3⟩
