section
variable {m : Nat → Int32} {a b c d e f : Int32} {V U : vM} {N : Nat}
/-- a pair of the class's numbers turned is the pair of the model's turned row -/
theorem cx_pair (hX : ∀ j, j < N * 6 → U 15 j = cxT V a b c d e f j) {i q p : Nat} (hi : i < N) (hq : q < 6) (hq2 : q % 2 = 0) (hp : p = 1 ∨ p = 3 ∨ p = 5) (hh : hasP m i p) (h1 : V 13 (i * 6 + q) = m (i * 7 + p)) (h2 : V 13 (i * 6 + q + 1) = m (i * 7 + p + 1)) : U 15 (i * 6 + q) = tfM m N a b c d e f (i * 7 + p) ∧ U 15 (i * 6 + q + 1) = tfM m N a b c d e f (i * 7 + p + 1) := by
  have g := cxT_p (V := V) (a := a) (b := b) (c := c) (d := d) (e := e) (f := f) (j := i * 6 + q) (by omega)
  have t := tfF_t (m := m) (a := a) (b := b) (c := c) (d := d) (e := e) (f := f) (k := i) hp hh
  rw [hX _ (by omega), hX _ (by omega), ← g.1, ← g.2, h1, h2, t.1, t.2, tfM_e hi (by omega), Nat.add_assoc, tfM_e hi (by omega)]
  exact ⟨rfl, rfl⟩
theorem WF.z0 (hw : WF m N) (h0 : 0 < N) : m 0 = 0 := hw.first h0
theorem tf_num (hP : PR V 1 12 13 N m) (hX : ∀ j, j < N * 6 → U 15 j = cxT V a b c d e f j) {i : Nat} (hi : i < N) : numR U 15 (tfM m N a b c d e f) i := by
  obtain ⟨q1, q2, q3, q4⟩ := (hP.2.2.2 i hi).2
  have hk := kd7_tf (m := m) (a := a) (b := b) (c := c) (d := d) (e := e) (f := f) hi
  unfold numR
  rw [hk]
  refine ⟨fun k => ?_, fun k => ?_, fun k => ?_, fun k => ?_⟩
  · have h5 : hasP m i 5 := Or.inl ⟨rfl, by rcases k with k | k <;> rw [k] <;> decide⟩
    exact cx_pair hX hi (q := 0) (by omega) (by omega) (p := 5) (by omega) h5 (q1 k).1 (q1 k).2
  · obtain ⟨e1, e2, e3, e4⟩ := q2 k
    have h1 := cx_pair (m := m) hX hi (q := 0) (by omega) (by omega) (p := 1) (by omega) (Or.inr (Or.inl ⟨rfl, Or.inl k⟩)) e1 e2
    have h5 := cx_pair (m := m) hX hi (q := 2) (by omega) (by omega) (p := 5) (by omega) (Or.inl ⟨rfl, by rw [k]; decide⟩) e3 e4
    exact ⟨h1.1, h1.2, h5.1, h5.2⟩
  · obtain ⟨e1, e2, e3, e4, e5, e6⟩ := q3 k
    have h1 := cx_pair (m := m) hX hi (q := 0) (by omega) (by omega) (p := 1) (by omega) (Or.inr (Or.inl ⟨rfl, Or.inr k⟩)) e1 e2
    have h3 := cx_pair (m := m) hX hi (q := 2) (by omega) (by omega) (p := 3) (by omega) (Or.inr (Or.inr ⟨rfl, k⟩)) e3 e4
    have h5 := cx_pair (m := m) hX hi (q := 4) (by omega) (by omega) (p := 5) (by omega) (Or.inl ⟨rfl, by rw [k]; decide⟩) e5 e6
    exact ⟨h1.1, h1.2, h3.1, h3.2, h5.1, h5.2⟩
  · obtain ⟨e1, e2⟩ := q4 k
    have hw := hP.2.2.1
    have h0 := hw.first (show 0 < N by omega)
    have mz := mv7_0 h0 i
    have ml := mv7_le m i
    have mc : mv7 (tfM m N a b c d e f) i = mv7 m i := mv7_cong i (fun j hj => kd7_tf (by omega))
    unfold ex7 at e1 ⊢
    unfold ey7 at e2 ⊢
    rw [if_pos k] at e1 e2
    rw [hk, if_pos k, mc, tfM_e (by omega) (by omega), tfM_e (by omega) (by omega)]
    have t := tfF_t (m := m) (a := a) (b := b) (c := c) (d := d) (e := e) (f := f) (k := mv7 m i) (p := 5) (by omega) (Or.inl ⟨rfl, by rw [mz]; decide⟩)
    have g := cxT_p (V := V) (a := a) (b := b) (c := c) (d := d) (e := e) (f := f) (j := i * 6) (by omega)
    rw [hX _ (by omega), hX _ (by omega), ← g.1, ← g.2, e1, e2]
    exact t
theorem inR0 : inR 0 := ⟨by decide, by decide⟩
theorem tf_all (hP : PR V 1 12 13 N m) (hX : ∀ j, j < N * 6 → U 15 j = cxT V a b c d e f j) (h14 : ∀ i, i < 24 → U 14 i = V 12 i) : allR U N ↔ alR (tfF m a b c d e f) (7 * N) := by
  have hw := hP.2.2.1
  have hN := hw.1
  have hu : ∀ i, i < N → U 14 i = m (i * 7) := fun i hi => by rw [h14 i (by omega), (hP.2.2.2 i hi).1]
  constructor
  · intro hA j hj h7
    obtain ⟨i, p, rfl, p1, p7⟩ : ∃ i p, j = i * 7 + p ∧ 1 ≤ p ∧ p < 7 := ⟨j / 7, j % 7, by omega, by omega, by omega⟩
    have hi : i < N := by omega
    obtain ⟨q1, q2, q3, -⟩ := tf_num hP hX hi
    have hk := kd7_tf (m := m) (a := a) (b := b) (c := c) (d := d) (e := e) (f := f) hi
    rw [hk] at q1 q2 q3
    have A := hA i hi
    rw [hu i hi] at A
    rw [← tfM_e (N := N) hi p7]
    have nz : ∀ pp, (pp = 1 ∨ pp = 3 ∨ pp = 5) → ¬ hasP m i pp → (p = pp ∨ p = pp + 1) → inR (tfM m N a b c d e f (i * 7 + p)) := by
      intro pp hpp hn hor
      have z := tfF_f (a := a) (b := b) (c := c) (d := d) (e := e) (f := f) hpp hn
      rw [tfM_e hi p7]
      rcases hor with rfl | rfl
      · rw [← z.1]; exact inR0
      · rw [← Nat.add_assoc, ← z.2]; exact inR0
    rcases (show (p = 1 ∨ p = 2) ∨ (p = 3 ∨ p = 4) ∨ (p = 5 ∨ p = 6) by omega) with hp | hp | hp
    · by_cases h : hasP m i 1
      · rcases h with ⟨z, -⟩ | ⟨-, k | k⟩ | ⟨z, -⟩
        · omega
        · obtain ⟨e1, e2, -, -⟩ := q2 k
          rw [k] at A
          rcases hp with rfl | rfl
          · rw [← e1]; exact A 0 (by decide)
          · rw [← e2]; exact A 1 (by decide)
        · obtain ⟨e1, e2, -⟩ := q3 k
          rw [k] at A
          rcases hp with rfl | rfl
          · rw [← e1]; exact A 0 (by decide)
          · rw [← e2]; exact A 1 (by decide)
        · omega
      · exact nz 1 (by omega) h (by omega)
    · by_cases h : hasP m i 3
      · rcases h with ⟨z, -⟩ | ⟨z, -⟩ | ⟨-, k⟩
        · omega
        · omega
        · obtain ⟨-, -, e1, e2, -⟩ := q3 k
          rw [k] at A
          rcases hp with rfl | rfl
          · rw [← e1]; exact A 2 (by decide)
          · rw [← e2]; exact A 3 (by decide)
      · exact nz 3 (by omega) h (by omega)
    · by_cases h : hasP m i 5
      · rcases h with ⟨-, k4⟩ | ⟨z, -⟩ | ⟨z, -⟩
        · rcases k5 (hw.2 i hi).1 with k | k | k | k | k
          · obtain ⟨e1, e2⟩ := q1 (Or.inl k)
            rw [k] at A
            rcases hp with rfl | rfl
            · rw [← e1]; exact A 0 (by decide)
            · rw [← e2]; exact A 1 (by decide)
          · obtain ⟨e1, e2⟩ := q1 (Or.inr k)
            rw [k] at A
            rcases hp with rfl | rfl
            · rw [← e1]; exact A 0 (by decide)
            · rw [← e2]; exact A 1 (by decide)
          · obtain ⟨-, -, e1, e2⟩ := q2 k
            rw [k] at A
            rcases hp with rfl | rfl
            · rw [← e1]; exact A 2 (by decide)
            · rw [← e2]; exact A 3 (by decide)
          · obtain ⟨-, -, -, -, e1, e2⟩ := q3 k
            rw [k] at A
            rcases hp with rfl | rfl
            · rw [← e1]; exact A 4 (by decide)
            · rw [← e2]; exact A 5 (by decide)
          · exact absurd k k4
        · omega
        · omega
      · exact nz 5 (by omega) h (by omega)
  · intro hA i hi p hp
    have hk := kd7_tf (m := m) (a := a) (b := b) (c := c) (d := d) (e := e) (f := f) hi
    obtain ⟨q1, q2, q3, q4⟩ := tf_num hP hX hi
    rw [hk] at q1 q2 q3 q4
    rw [hu i hi] at hp
    have B : ∀ q r, q < N → 1 ≤ r → r < 7 → inR (tfM m N a b c d e f (q * 7 + r)) := fun q r h1 h2 h3 => by rw [tfM_e h1 h3]; exact hA _ (by omega) (by omega)
    rcases k5 (hw.2 i hi).1 with k | k | k | k | k
    · rw [k] at hp
      obtain ⟨e1, e2⟩ := q1 (Or.inl k)
      rcases (show p = 0 ∨ p = 1 by simp [ptn] at hp; omega) with rfl | rfl
      · rw [Nat.add_zero, e1]; exact B _ _ hi (by omega) (by omega)
      · rw [e2]; exact B _ _ hi (by omega) (by omega)
    · rw [k] at hp
      obtain ⟨e1, e2⟩ := q1 (Or.inr k)
      rcases (show p = 0 ∨ p = 1 by simp [ptn] at hp; omega) with rfl | rfl
      · rw [Nat.add_zero, e1]; exact B _ _ hi (by omega) (by omega)
      · rw [e2]; exact B _ _ hi (by omega) (by omega)
    · rw [k] at hp
      obtain ⟨e1, e2, e3, e4⟩ := q2 k
      rcases (show p = 0 ∨ p = 1 ∨ p = 2 ∨ p = 3 by simp [ptn] at hp; omega) with rfl | rfl | rfl | rfl
      · rw [Nat.add_zero, e1]; exact B _ _ hi (by omega) (by omega)
      · rw [e2]; exact B _ _ hi (by omega) (by omega)
      · rw [e3]; exact B _ _ hi (by omega) (by omega)
      · rw [e4]; exact B _ _ hi (by omega) (by omega)
    · rw [k] at hp
      obtain ⟨e1, e2, e3, e4, e5, e6⟩ := q3 k
      rcases (show p = 0 ∨ p = 1 ∨ p = 2 ∨ p = 3 ∨ p = 4 ∨ p = 5 by simp [ptn] at hp; omega) with rfl | rfl | rfl | rfl | rfl | rfl
      · rw [Nat.add_zero, e1]; exact B _ _ hi (by omega) (by omega)
      · rw [e2]; exact B _ _ hi (by omega) (by omega)
      · rw [e3]; exact B _ _ hi (by omega) (by omega)
      · rw [e4]; exact B _ _ hi (by omega) (by omega)
      · rw [e5]; exact B _ _ hi (by omega) (by omega)
      · rw [e6]; exact B _ _ hi (by omega) (by omega)
    · rw [k] at hp
      obtain ⟨e1, e2⟩ := q4 k
      have ml := mv7_le (tfM m N a b c d e f) i
      unfold ex7 at e1
      unfold ey7 at e2
      rw [hk, if_pos k] at e1 e2
      rcases (show p = 0 ∨ p = 1 by simp [ptn] at hp; omega) with rfl | rfl
      · rw [Nat.add_zero, e1]; exact B _ _ (by omega) (by omega) (by omega)
      · rw [e2]; exact B _ _ (by omega) (by omega) (by omega)
end
abbrev tOK (a b c d e f : Int32) : Prop := (-1024 ≤ a ∧ a ≤ 1024) ∧ (-1024 ≤ b ∧ b ≤ 1024) ∧ (-1024 ≤ c ∧ c ≤ 1024) ∧ (-1024 ≤ d ∧ d ≤ 1024) ∧ (-8000 ≤ e ∧ e ≤ 8000) ∧ (-8000 ≤ f ∧ f ≤ 8000)
noncomputable def trZ (m : Nat → Int32) (N : Nat) (a b c d e f : Int32) : Int32 := if tOK a b c d e f then @ite _ (alR (tfF m a b c d e f) (7 * N)) (Classical.propDecidable _) (nI N) (-1000005) else -1000002
noncomputable def trM (m : Nat → Int32) (N : Nat) (a b c d e f : Int32) : Nat → Int32 := if tOK a b c d e f then @ite _ (alR (tfF m a b c d e f) (7 * N)) (Classical.propDecidable _) (tfM m N a b c d e f) m else m
section
variable {m : Nat → Int32} {N : Nat} {a b c d e f : Int32}
theorem trZ_b (h : ¬ tOK a b c d e f) : trZ m N a b c d e f = -1000002 ∧ trM m N a b c d e f = m := by
  unfold trZ trM; rw [if_neg h, if_neg h]; exact ⟨rfl, rfl⟩
theorem trZ_n (h : tOK a b c d e f) (h2 : ¬ alR (tfF m a b c d e f) (7 * N)) : trZ m N a b c d e f = -1000005 ∧ trM m N a b c d e f = m := by
  unfold trZ trM; rw [if_pos h, if_pos h, if_neg h2, if_neg h2]; exact ⟨rfl, rfl⟩
theorem trZ_y (h : tOK a b c d e f) (h2 : alR (tfF m a b c d e f) (7 * N)) : trZ m N a b c d e f = nI N ∧ trM m N a b c d e f = tfM m N a b c d e f := by
  unfold trZ trM; rw [if_pos h, if_pos h, if_pos h2, if_pos h2]; exact ⟨rfl, rfl⟩
end
/-- what a change of the path leaves alone -/
def frP (V U : vM) : Prop := ∀ a i, pk a i → a ≠ 1 → a ≠ 12 → a ≠ 13 → U a i = V a i
theorem frP.refl (V : vM) : frP V V := fun _ _ _ _ _ _ => rfl
theorem frK.P {V U : vM} (h : frK V U) : frP V U := fun a i p _ _ _ => h a i p
def frNP (V U : vM) : Prop := ∀ a i, a < 58 → a ≠ 50 → (a = 49 → i < 16) → U a i = V a i
theorem frNP.refl (V : vM) : frNP V V := fun _ _ _ _ _ => rfl
def MS (V : vM) (m : Nat → Int32) (N : Nat) (t : Int32) : Prop := WF m N ∧ V 50 = m ∧ m 168 = nI N ∧ m 169 = t
theorem numR_cong {V U : vM} {n n2 : Nat} {m : Nat → Int32} {i : Nat} (h : numR V n m i) (q : ∀ j, j < 6 → U n2 (i * 6 + j) = V n (i * 6 + j)) : numR U n2 m i := by
  obtain ⟨h1, h2, h3, h4⟩ := h
  have q0 := q 0 (by omega)
  rw [Nat.add_zero] at q0
  unfold numR
  rw [q0, q 1 (by omega), q 2 (by omega), q 3 (by omega), q 4 (by omega), q 5 (by omega)]
  exact ⟨h1, h2, h3, h4⟩
set_option maxHeartbeats 1000000 in
set_option maxRecDepth 100000 in
theorem mX9_transform {g : gX} {V : vM} {m : Nat → Int32} {N : Nat} {t : Int32} (hC : CS V m N t) (a b c d e f : Int32) : MM g jX9_transform V [.ref (g.2.1 0), .int a, .int b, .int c, .int d, .int e, .int f] (eI (fun z U => z = trZ m N a b c d e f ∧ CS U (trM m N a b c d e f) N t ∧ frP V U)) := by
  refine MM.of plX9_transform (Nat.le_of_ble_eq_true rfl) ?_
  obtain ⟨Q, hQ⟩ : ∃ Q : Option Value → vM → Prop, Q = (eI (fun z U => z = trZ m N a b c d e f ∧ CS U (trM m N a b c d e f) N t ∧ frP V U)) := ⟨_, rfl⟩
  rw [← hQ]
  show XX g jX9_transform Q V 0 [(0, .ref (g.2.1 0)), (1, .int a), (2, .int b), (3, .int c), (4, .int d), (5, .int e), (6, .int f)] []
  have hP := hC.1
  have hw := hP.2.2.1
  have hN := hw.1
  have hsz := hP.1
  refine x_iload_n dX9_transform_0 1 rfl ?_
  refine x_sipush (v := -1024) dX9_transform_1 (by decide) ?_
  refine x_sipush (v := 1024) dX9_transform_4 (by decide) ?_
  refine x_callS (K := jX9_between) [.int a, .int (-1024), .int 1024] lk_X9_129 ⟨⟨rfl, rfl⟩, Nat.le_of_ble_eq_true rfl, Nat.le_of_ble_eq_true rfl⟩ (mX9_between V a (-1024) 1024) rfl (Nat.le_of_ble_eq_true rfl) rfl dX9_transform_7 (kpI ?_)
  refine x_if_eq 57 dX9_transform_10 (by decide) (fun c1 => ?_) (fun c1 => ?_)
  · have c1n : ¬ ((-1024) ≤ a ∧ a ≤ 1024) := iB_0.mp c1
    refine x_iconst (v := 0) dX9_transform_57 (by decide) ?_
    refine x_istore 7 [(7, .int 0), (0, .ref (g.2.1 0)), (1, .int a), (2, .int b), (3, .int c), (4, .int d), (5, .int e), (6, .int f)] dX9_transform_58 (by decide) rfl ?_
    refine x_iload dX9_transform_60 0 rfl ?_
    refine x_if_eq 93 dX9_transform_62 (by decide) (fun c2 => ?_) (fun c2 => by exfalso; revert c2; decide)
    refine x_ldc ct_X9_83 dX9_transform_93 ?_
    refine x_iret dX9_transform_95 rfl ?_
    rw [hQ]
    have hz := trZ_b (m := m) (N := N) (a := a) (b := b) (c := c) (d := d) (e := e) (f := f) (fun q => by first | exact absurd q.1 (by assumption) | exact absurd q.2.1 (by assumption) | exact absurd q.2.2.1 (by assumption) | exact absurd q.2.2.2.1 (by assumption) | exact absurd q.2.2.2.2.1 (by assumption) | exact absurd q.2.2.2.2.2 (by assumption))
    exact ⟨_, rfl, hz.1.symm, by rw [hz.2]; exact hC, frP.refl V⟩
  · have c1n : ((-1024) ≤ a ∧ a ≤ 1024) := Classical.not_not.mp (fun q => c1 (iB_0.mpr q))
    refine x_iload_n dX9_transform_13 2 rfl ?_
    refine x_sipush (v := -1024) dX9_transform_14 (by decide) ?_
    refine x_sipush (v := 1024) dX9_transform_17 (by decide) ?_
    refine x_callS (K := jX9_between) [.int b, .int (-1024), .int 1024] lk_X9_129 ⟨⟨rfl, rfl⟩, Nat.le_of_ble_eq_true rfl, Nat.le_of_ble_eq_true rfl⟩ (mX9_between V b (-1024) 1024) rfl (Nat.le_of_ble_eq_true rfl) rfl dX9_transform_20 (kpI ?_)
    refine x_if_eq 57 dX9_transform_23 (by decide) (fun c3 => ?_) (fun c3 => ?_)
    · have c3n : ¬ ((-1024) ≤ b ∧ b ≤ 1024) := iB_0.mp c3
      refine x_iconst (v := 0) dX9_transform_57 (by decide) ?_
      refine x_istore 7 [(7, .int 0), (0, .ref (g.2.1 0)), (1, .int a), (2, .int b), (3, .int c), (4, .int d), (5, .int e), (6, .int f)] dX9_transform_58 (by decide) rfl ?_
      refine x_iload dX9_transform_60 0 rfl ?_
      refine x_if_eq 93 dX9_transform_62 (by decide) (fun c4 => ?_) (fun c4 => by exfalso; revert c4; decide)
      refine x_ldc ct_X9_83 dX9_transform_93 ?_
      refine x_iret dX9_transform_95 rfl ?_
      rw [hQ]
      have hz := trZ_b (m := m) (N := N) (a := a) (b := b) (c := c) (d := d) (e := e) (f := f) (fun q => by first | exact absurd q.1 (by assumption) | exact absurd q.2.1 (by assumption) | exact absurd q.2.2.1 (by assumption) | exact absurd q.2.2.2.1 (by assumption) | exact absurd q.2.2.2.2.1 (by assumption) | exact absurd q.2.2.2.2.2 (by assumption))
      exact ⟨_, rfl, hz.1.symm, by rw [hz.2]; exact hC, frP.refl V⟩
    · have c3n : ((-1024) ≤ b ∧ b ≤ 1024) := Classical.not_not.mp (fun q => c3 (iB_0.mpr q))
      refine x_iload_n dX9_transform_26 3 rfl ?_
      refine x_sipush (v := -1024) dX9_transform_27 (by decide) ?_
      refine x_sipush (v := 1024) dX9_transform_30 (by decide) ?_
      refine x_callS (K := jX9_between) [.int c, .int (-1024), .int 1024] lk_X9_129 ⟨⟨rfl, rfl⟩, Nat.le_of_ble_eq_true rfl, Nat.le_of_ble_eq_true rfl⟩ (mX9_between V c (-1024) 1024) rfl (Nat.le_of_ble_eq_true rfl) rfl dX9_transform_33 (kpI ?_)
      refine x_if_eq 57 dX9_transform_36 (by decide) (fun c5 => ?_) (fun c5 => ?_)
      · have c5n : ¬ ((-1024) ≤ c ∧ c ≤ 1024) := iB_0.mp c5
        refine x_iconst (v := 0) dX9_transform_57 (by decide) ?_
        refine x_istore 7 [(7, .int 0), (0, .ref (g.2.1 0)), (1, .int a), (2, .int b), (3, .int c), (4, .int d), (5, .int e), (6, .int f)] dX9_transform_58 (by decide) rfl ?_
        refine x_iload dX9_transform_60 0 rfl ?_
        refine x_if_eq 93 dX9_transform_62 (by decide) (fun c6 => ?_) (fun c6 => by exfalso; revert c6; decide)
        refine x_ldc ct_X9_83 dX9_transform_93 ?_
        refine x_iret dX9_transform_95 rfl ?_
        rw [hQ]
        have hz := trZ_b (m := m) (N := N) (a := a) (b := b) (c := c) (d := d) (e := e) (f := f) (fun q => by first | exact absurd q.1 (by assumption) | exact absurd q.2.1 (by assumption) | exact absurd q.2.2.1 (by assumption) | exact absurd q.2.2.2.1 (by assumption) | exact absurd q.2.2.2.2.1 (by assumption) | exact absurd q.2.2.2.2.2 (by assumption))
        exact ⟨_, rfl, hz.1.symm, by rw [hz.2]; exact hC, frP.refl V⟩
      · have c5n : ((-1024) ≤ c ∧ c ≤ 1024) := Classical.not_not.mp (fun q => c5 (iB_0.mpr q))
        refine x_iload dX9_transform_39 4 rfl ?_
        refine x_sipush (v := -1024) dX9_transform_41 (by decide) ?_
        refine x_sipush (v := 1024) dX9_transform_44 (by decide) ?_
        refine x_callS (K := jX9_between) [.int d, .int (-1024), .int 1024] lk_X9_129 ⟨⟨rfl, rfl⟩, Nat.le_of_ble_eq_true rfl, Nat.le_of_ble_eq_true rfl⟩ (mX9_between V d (-1024) 1024) rfl (Nat.le_of_ble_eq_true rfl) rfl dX9_transform_47 (kpI ?_)
        refine x_if_eq 57 dX9_transform_50 (by decide) (fun c7 => ?_) (fun c7 => ?_)
        · have c7n : ¬ ((-1024) ≤ d ∧ d ≤ 1024) := iB_0.mp c7
          refine x_iconst (v := 0) dX9_transform_57 (by decide) ?_
          refine x_istore 7 [(7, .int 0), (0, .ref (g.2.1 0)), (1, .int a), (2, .int b), (3, .int c), (4, .int d), (5, .int e), (6, .int f)] dX9_transform_58 (by decide) rfl ?_
          refine x_iload dX9_transform_60 0 rfl ?_
          refine x_if_eq 93 dX9_transform_62 (by decide) (fun c8 => ?_) (fun c8 => by exfalso; revert c8; decide)
          refine x_ldc ct_X9_83 dX9_transform_93 ?_
          refine x_iret dX9_transform_95 rfl ?_
          rw [hQ]
          have hz := trZ_b (m := m) (N := N) (a := a) (b := b) (c := c) (d := d) (e := e) (f := f) (fun q => by first | exact absurd q.1 (by assumption) | exact absurd q.2.1 (by assumption) | exact absurd q.2.2.1 (by assumption) | exact absurd q.2.2.2.1 (by assumption) | exact absurd q.2.2.2.2.1 (by assumption) | exact absurd q.2.2.2.2.2 (by assumption))
          exact ⟨_, rfl, hz.1.symm, by rw [hz.2]; exact hC, frP.refl V⟩
        · have c7n : ((-1024) ≤ d ∧ d ≤ 1024) := Classical.not_not.mp (fun q => c7 (iB_0.mpr q))
          refine x_iconst (v := 1) dX9_transform_53 (by decide) ?_
          refine x_goto 58 dX9_transform_54 (by decide) ?_
          refine x_istore 7 [(7, .int 1), (0, .ref (g.2.1 0)), (1, .int a), (2, .int b), (3, .int c), (4, .int d), (5, .int e), (6, .int f)] dX9_transform_58 (by decide) rfl ?_
          refine x_iload dX9_transform_60 0 rfl ?_
          refine x_if_eq 93 dX9_transform_62 (by decide) (fun c9 => by exfalso; revert c9; decide) (fun c9 => ?_)
          refine x_iload dX9_transform_65 6 rfl ?_
          refine x_sipush (v := -8000) dX9_transform_67 (by decide) ?_
          refine x_sipush (v := 8000) dX9_transform_70 (by decide) ?_
          refine x_callS (K := jX9_between) [.int e, .int (-8000), .int 8000] lk_X9_129 ⟨⟨rfl, rfl⟩, Nat.le_of_ble_eq_true rfl, Nat.le_of_ble_eq_true rfl⟩ (mX9_between V e (-8000) 8000) rfl (Nat.le_of_ble_eq_true rfl) rfl dX9_transform_73 (kpI ?_)
          refine x_if_eq 93 dX9_transform_76 (by decide) (fun c10 => ?_) (fun c10 => ?_)
          · have c10n : ¬ ((-8000) ≤ e ∧ e ≤ 8000) := iB_0.mp c10
            refine x_ldc ct_X9_83 dX9_transform_93 ?_
            refine x_iret dX9_transform_95 rfl ?_
            rw [hQ]
            have hz := trZ_b (m := m) (N := N) (a := a) (b := b) (c := c) (d := d) (e := e) (f := f) (fun q => by first | exact absurd q.1 (by assumption) | exact absurd q.2.1 (by assumption) | exact absurd q.2.2.1 (by assumption) | exact absurd q.2.2.2.1 (by assumption) | exact absurd q.2.2.2.2.1 (by assumption) | exact absurd q.2.2.2.2.2 (by assumption))
            exact ⟨_, rfl, hz.1.symm, by rw [hz.2]; exact hC, frP.refl V⟩
          · have c10n : ((-8000) ≤ e ∧ e ≤ 8000) := Classical.not_not.mp (fun q => c10 (iB_0.mpr q))
            refine x_iload dX9_transform_79 7 rfl ?_
            refine x_sipush (v := -8000) dX9_transform_81 (by decide) ?_
            refine x_sipush (v := 8000) dX9_transform_84 (by decide) ?_
            refine x_callS (K := jX9_between) [.int f, .int (-8000), .int 8000] lk_X9_129 ⟨⟨rfl, rfl⟩, Nat.le_of_ble_eq_true rfl, Nat.le_of_ble_eq_true rfl⟩ (mX9_between V f (-8000) 8000) rfl (Nat.le_of_ble_eq_true rfl) rfl dX9_transform_87 (kpI ?_)
            refine x_if_ne 96 dX9_transform_90 (by decide) (fun c11 => ?_) (fun c11 => ?_)
            · have c11n : ((-8000) ≤ f ∧ f ≤ 8000) := Classical.not_not.mp (fun q => c11 (iB_0.mpr q))
              refine x_aload_n dX9_transform_96 1 rfl ?_
              refine x_getR fl_X9_16 rfl rfl dX9_transform_97 ?_
              refine x_aload_n dX9_transform_100 1 rfl ?_
              refine x_getR fl_X9_12 rfl rfl dX9_transform_101 ?_
              refine x_iload_n dX9_transform_104 2 rfl ?_
              refine x_iload_n dX9_transform_105 3 rfl ?_
              refine x_iload_n dX9_transform_106 4 rfl ?_
              refine x_iload dX9_transform_107 5 rfl ?_
              refine x_iload dX9_transform_109 6 rfl ?_
              refine x_iload dX9_transform_111 7 rfl ?_
              refine x_callV (K := jX5_becomeTransformed) [.ref (g.2.1 1), .int a, .int b, .int c, .int d, .int e, .int f] lk_X9_147 ⟨⟨rfl, rfl⟩, Nat.le_of_ble_eq_true rfl, Nat.le_of_ble_eq_true rfl⟩ rfl rfl (mX5_becomeTransformed V N hN hsz a b c d e f) rfl (Nat.le_of_ble_eq_true rfl) rfl dX9_transform_113 (keV fun U12 hU13 => ?_)
              obtain ⟨u2, u3, u14, u15, ufr⟩ := hU13
              refine x_aload_n dX9_transform_116 1 rfl ?_
              refine x_getR fl_X9_16 rfl rfl dX9_transform_117 ?_
              refine x_callV (K := jX5_isInRange) [] lk_X9_151 ⟨⟨rfl, rfl⟩, Nat.le_of_ble_eq_true rfl, Nat.le_of_ble_eq_true rfl⟩ rfl rfl (by have := mX5_isInRange (g := g) U12 N hN u2 (fun i hi => by rw [u14 i (by omega), (hP.2.2.2 i hi).1]; exact (hw.2 i hi).1); rw [bP_iff (tf_all hP u15 u14)] at this; exact this) rfl (Nat.le_of_ble_eq_true rfl) rfl dX9_transform_120 (kpI ?_)
              refine x_if_ne 129 dX9_transform_123 (by decide) (fun c14 => ?_) (fun c14 => ?_)
              · have c14n : (alR (tfF m a b c d e f) (7 * N)) := Classical.not_not.mp (fun q => c14 (bP_0.mpr q))
                refine x_aload_n dX9_transform_129 1 rfl ?_
                refine x_getR fl_X9_12 rfl rfl dX9_transform_130 ?_
                refine x_aload_n dX9_transform_133 1 rfl ?_
                refine x_getR fl_X9_16 rfl rfl dX9_transform_134 ?_
                refine x_callV (K := jX5_become) [.ref (g.2.1 2)] lk_X9_140 ⟨⟨rfl, rfl⟩, Nat.le_of_ble_eq_true rfl, Nat.le_of_ble_eq_true rfl⟩ rfl rfl (mX5_become U12 isP1 isP2 (by decide) (by decide) (by decide) (by decide) (by decide) (by decide) (by decide)) rfl (Nat.le_of_ble_eq_true rfl) rfl dX9_transform_137 (kdV ?_)
                obtain ⟨U15, eU15⟩ : ∃ v_v : vM, v_v = bc U12 1 12 13 2 14 15 := ⟨_, rfl⟩
                refine YY.V eU15.symm ?_
                refine x_aload_n dX9_transform_140 1 rfl ?_
                refine x_iconst (v := 1) dX9_transform_141 (by decide) ?_
                have z16 : (1 : Int32) = 0 ∨ (1 : Int32) = 1 := by first | exact Or.inl rfl | exact Or.inr rfl | grind
                refine x_putZ fp_X9_75 rfl rfl z16 dX9_transform_142 ?_
                obtain ⟨U17, eU17⟩ : ∃ v_v : vM, v_v = uM U15 0 12 1 := ⟨_, rfl⟩
                refine YY.V eU17.symm ?_
                have hz12 : U17 1 2 = nI N := by rw [eU17, uM_na (by decide), eU15, (bc_2 (by decide) (by decide)).1]; exact u2
                refine x_aload_n dX9_transform_145 1 rfl ?_
                refine x_getR fl_X9_12 rfl rfl dX9_transform_146 ?_
                refine x_getI fl_X9_104 rfl rfl dX9_transform_149 ?_
                refine x_topi (y := U15 1 2) (by rw [eU17, uM_na (by decide)]) ?_
                refine x_topi (((show U17 1 2 = U15 1 2 by rw [eU17, uM_na (by decide)]).symm.trans hz12)) ?_
                refine x_iret dX9_transform_152 rfl ?_
                rw [hQ]
                have hy := trZ_y (m := m) (N := N) (show tOK a b c d e f from ⟨by assumption, by assumption, by assumption, by assumption, by assumption, by assumption⟩) (by assumption)
                rw [hy.1, hy.2]
                have hA : alR (tfF m a b c d e f) (7 * N) := by assumption
                refine ⟨_, rfl, rfl, ⟨⟨?_, ?_, hw.tf hA, fun i hi => ⟨?_, ?_⟩⟩, ?_, fun z => absurd z ?_⟩, fun q i p q1 q2 q3 => ?_⟩
                · rw [eU17, uM_na (by decide), eU15, (bc_2 (by decide) (by decide)).1]; exact u2
                · rw [eU17, uM_na (by decide), eU15, (bc_2 (by decide) (by decide)).2, u3, hP.2.1, cntM_cong (K := kd7 (tfM m N a b c d e f)) (K2 := kd7 m) N (fun j hj => kd7_tf hj)]
                · rw [eU17, uM_na (by decide), eU15, bc_k (by decide) (by omega), u14 i (by omega), (hP.2.2.2 i hi).1, kd7_tf hi]
                · have hn := tf_num (a := a) (b := b) (c := c) (d := d) (e := e) (f := f) hP u15 hi
                  have hx : ∀ j, j < 6 → U17 13 (i * 6 + j) = U12 15 (i * 6 + j) := fun j hj => by rw [eU17, uM_na (by decide), eU15, bc_n (by omega)]
                  exact numR_cong hn hx
                · rw [eU17, uM_ni (by decide), eU15, bc_at (by decide) (by decide) (by decide), ufr 0 11 (by decide) (by decide) (by decide)]; exact hC.2.1
                · rw [eU17, uM_hit]; decide
                · rw [eU17, uM_at, if_neg (fun z => p.2.2.2.2.2.2.2.2.2.2.2.2.1 z.1 z.2), eU15, bc_at q1 q2 q3, ufr q i p.1 p.2.2.2.2.1 p.2.2.2.2.2.1]
              · have c14n : ¬ (alR (tfF m a b c d e f) (7 * N)) := bP_0.mp c14
                refine x_ldc ct_X9_107 dX9_transform_126 ?_
                refine x_iret dX9_transform_128 rfl ?_
                rw [hQ]
                have hz := trZ_n (m := m) (N := N) (show tOK a b c d e f from ⟨by assumption, by assumption, by assumption, by assumption, by assumption, by assumption⟩) (by assumption)
                exact ⟨_, rfl, hz.1.symm, by rw [hz.2]; exact hC.ag (fun q i p => ufr q i (by omega) (by omega) (by omega)), fun q i p _ _ _ => ufr q i p.1 p.2.2.2.2.1 p.2.2.2.2.2.1⟩
            · have c11n : ¬ ((-8000) ≤ f ∧ f ≤ 8000) := iB_0.mp c11
              refine x_ldc ct_X9_83 dX9_transform_93 ?_
              refine x_iret dX9_transform_95 rfl ?_
              rw [hQ]
              have hz := trZ_b (m := m) (N := N) (a := a) (b := b) (c := c) (d := d) (e := e) (f := f) (fun q => by first | exact absurd q.1 (by assumption) | exact absurd q.2.1 (by assumption) | exact absurd q.2.2.1 (by assumption) | exact absurd q.2.2.2.1 (by assumption) | exact absurd q.2.2.2.2.1 (by assumption) | exact absurd q.2.2.2.2.2 (by assumption))
              exact ⟨_, rfl, hz.1.symm, by rw [hz.2]; exact hC, frP.refl V⟩
