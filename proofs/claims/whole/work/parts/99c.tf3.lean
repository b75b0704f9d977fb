theorem alR_2 {f : Nat → Int32} {k p : Nat} (hp : p = 1 ∨ p = 3 ∨ p = 5) : alR f (7 * k + p + 2) ↔ alR f (7 * k + p) ∧ (-4000 ≤ f (k * 7 + p) ∧ f (k * 7 + p) ≤ 4000) ∧ (-4000 ≤ f (k * 7 + p + 1) ∧ f (k * 7 + p + 1) ≤ 4000) := by
  constructor
  · intro h
    exact ⟨fun j hj => h j (by omega), h _ (by omega) (by omega), h _ (by omega) (by omega)⟩
  · rintro ⟨h, h1, h2⟩ j hj h7
    by_cases c1 : j = k * 7 + p
    · rw [c1]; exact h1
    · by_cases c2 : j = k * 7 + p + 1
      · rw [c2]; exact h2
      · exact h j (by omega) h7
theorem alR_1 {f : Nat → Int32} {k : Nat} : alR f (7 * k) ↔ alR f (7 * k + 1) := by
  constructor
  · intro h j hj h7; exact h j (by omega) h7
  · intro h j hj; exact h j (by omega)
def fr59 (V U : vM) : Prop := ∀ a i, a ≠ 59 → U a i = V a i
theorem fr59.st {V U U' : vM} (h : fr59 V U) {i : Nat} {x : Int32} (e : U' = uM U 59 i x) : fr59 V U' := fun a j q => by rw [e, uM_na q]; exact h a j q
theorem mv_2 {U U' : vM} {f : Nat → Int32} {J : Nat} (hM : ∀ j, j < J → U 59 j = f j) {x y : Int32} (e : U' = uM (uM U 59 J x) 59 (J + 1) y) (hx : x = f J) (hy : y = f (J + 1)) : ∀ j, j < J + 2 → U' 59 j = f j := by
  intro j hj
  rw [e]
  by_cases c1 : j = J + 1
  · rw [c1, uM_hit, hy]
  · rw [uM_ni c1]
    by_cases c2 : j = J
    · rw [c2, uM_hit, hx]
    · rw [uM_ni c2]; exact hM j (by omega)
set_option maxHeartbeats 4000000 in
set_option maxRecDepth 100000 in
theorem mX10_transform {g : gX} {V : vM} {m : Nat → Int32} {N : Nat} {t : Int32} (hS : MS V m N t) (a b c d e f : Int32) : MM g jX10_transform V [.ref (g.2.1 49), .int a, .int b, .int c, .int d, .int e, .int f] (eI (fun z U => z = trZ m N a b c d e f ∧ MS U (trM m N a b c d e f) N t ∧ frNP V U)) := by
  refine MM.of plX10_transform (Nat.le_of_ble_eq_true rfl) ?_
  obtain ⟨Q, hQ⟩ : ∃ Q : Option Value → vM → Prop, Q = (eI (fun z U => z = trZ m N a b c d e f ∧ MS U (trM m N a b c d e f) N t ∧ frNP V U)) := ⟨_, rfl⟩
  rw [← hQ]
  show XX g jX10_transform Q V 0 [(0, .ref (g.2.1 49)), (1, .int a), (2, .int b), (3, .int c), (4, .int d), (5, .int e), (6, .int f)] []
  obtain ⟨hw, hm50, hN8, ht9⟩ := id hS
  have hN := hw.1
  have hmV : V 50 168 = m 168 := by rw [hm50]
  refine x_iload_n dX10_transform_0 1 rfl ?_
  refine x_sipush (v := -1024) dX10_transform_1 (by decide) ?_
  refine x_sipush (v := 1024) dX10_transform_4 (by decide) ?_
  refine x_callS (K := jX10_in) [.int a, .int (-1024), .int 1024] lk_X10_80 ⟨⟨rfl, rfl⟩, Nat.le_of_ble_eq_true rfl, Nat.le_of_ble_eq_true rfl⟩ (mX10_in V a (-1024) 1024) rfl (Nat.le_of_ble_eq_true rfl) rfl dX10_transform_7 (kpI ?_)
  refine x_if_eq 57 dX10_transform_10 (by decide) (fun c1 => ?_) (fun c1 => ?_)
  · have c1n : ¬ ((-1024) ≤ a ∧ a ≤ 1024) := iB_0.mp c1
    refine x_iconst (v := 0) dX10_transform_57 (by decide) ?_
    refine x_istore 7 [(7, .int 0), (0, .ref (g.2.1 49)), (1, .int a), (2, .int b), (3, .int c), (4, .int d), (5, .int e), (6, .int f)] dX10_transform_58 (by decide) rfl ?_
    refine x_iload dX10_transform_60 0 rfl ?_
    refine x_if_eq 93 dX10_transform_62 (by decide) (fun c2 => ?_) (fun c2 => by exfalso; revert c2; decide)
    refine x_ldc ct_X10_88 dX10_transform_93 ?_
    refine x_iret dX10_transform_95 rfl ?_
    rw [hQ]
    have hz := trZ_b (m := m) (N := N) (a := a) (b := b) (c := c) (d := d) (e := e) (f := f) (fun q => by first | exact absurd q.1 (by assumption) | exact absurd q.2.1 (by assumption) | exact absurd q.2.2.1 (by assumption) | exact absurd q.2.2.2.1 (by assumption) | exact absurd q.2.2.2.2.1 (by assumption) | exact absurd q.2.2.2.2.2 (by assumption))
    exact ⟨_, rfl, hz.1.symm, by rw [hz.2]; exact hS, frNP.refl V⟩
  · have c1n : ((-1024) ≤ a ∧ a ≤ 1024) := Classical.not_not.mp (fun q => c1 (iB_0.mpr q))
    refine x_iload_n dX10_transform_13 2 rfl ?_
    refine x_sipush (v := -1024) dX10_transform_14 (by decide) ?_
    refine x_sipush (v := 1024) dX10_transform_17 (by decide) ?_
    refine x_callS (K := jX10_in) [.int b, .int (-1024), .int 1024] lk_X10_80 ⟨⟨rfl, rfl⟩, Nat.le_of_ble_eq_true rfl, Nat.le_of_ble_eq_true rfl⟩ (mX10_in V b (-1024) 1024) rfl (Nat.le_of_ble_eq_true rfl) rfl dX10_transform_20 (kpI ?_)
    refine x_if_eq 57 dX10_transform_23 (by decide) (fun c3 => ?_) (fun c3 => ?_)
    · have c3n : ¬ ((-1024) ≤ b ∧ b ≤ 1024) := iB_0.mp c3
      refine x_iconst (v := 0) dX10_transform_57 (by decide) ?_
      refine x_istore 7 [(7, .int 0), (0, .ref (g.2.1 49)), (1, .int a), (2, .int b), (3, .int c), (4, .int d), (5, .int e), (6, .int f)] dX10_transform_58 (by decide) rfl ?_
      refine x_iload dX10_transform_60 0 rfl ?_
      refine x_if_eq 93 dX10_transform_62 (by decide) (fun c4 => ?_) (fun c4 => by exfalso; revert c4; decide)
      refine x_ldc ct_X10_88 dX10_transform_93 ?_
      refine x_iret dX10_transform_95 rfl ?_
      rw [hQ]
      have hz := trZ_b (m := m) (N := N) (a := a) (b := b) (c := c) (d := d) (e := e) (f := f) (fun q => by first | exact absurd q.1 (by assumption) | exact absurd q.2.1 (by assumption) | exact absurd q.2.2.1 (by assumption) | exact absurd q.2.2.2.1 (by assumption) | exact absurd q.2.2.2.2.1 (by assumption) | exact absurd q.2.2.2.2.2 (by assumption))
      exact ⟨_, rfl, hz.1.symm, by rw [hz.2]; exact hS, frNP.refl V⟩
    · have c3n : ((-1024) ≤ b ∧ b ≤ 1024) := Classical.not_not.mp (fun q => c3 (iB_0.mpr q))
      refine x_iload_n dX10_transform_26 3 rfl ?_
      refine x_sipush (v := -1024) dX10_transform_27 (by decide) ?_
      refine x_sipush (v := 1024) dX10_transform_30 (by decide) ?_
      refine x_callS (K := jX10_in) [.int c, .int (-1024), .int 1024] lk_X10_80 ⟨⟨rfl, rfl⟩, Nat.le_of_ble_eq_true rfl, Nat.le_of_ble_eq_true rfl⟩ (mX10_in V c (-1024) 1024) rfl (Nat.le_of_ble_eq_true rfl) rfl dX10_transform_33 (kpI ?_)
      refine x_if_eq 57 dX10_transform_36 (by decide) (fun c5 => ?_) (fun c5 => ?_)
      · have c5n : ¬ ((-1024) ≤ c ∧ c ≤ 1024) := iB_0.mp c5
        refine x_iconst (v := 0) dX10_transform_57 (by decide) ?_
        refine x_istore 7 [(7, .int 0), (0, .ref (g.2.1 49)), (1, .int a), (2, .int b), (3, .int c), (4, .int d), (5, .int e), (6, .int f)] dX10_transform_58 (by decide) rfl ?_
        refine x_iload dX10_transform_60 0 rfl ?_
        refine x_if_eq 93 dX10_transform_62 (by decide) (fun c6 => ?_) (fun c6 => by exfalso; revert c6; decide)
        refine x_ldc ct_X10_88 dX10_transform_93 ?_
        refine x_iret dX10_transform_95 rfl ?_
        rw [hQ]
        have hz := trZ_b (m := m) (N := N) (a := a) (b := b) (c := c) (d := d) (e := e) (f := f) (fun q => by first | exact absurd q.1 (by assumption) | exact absurd q.2.1 (by assumption) | exact absurd q.2.2.1 (by assumption) | exact absurd q.2.2.2.1 (by assumption) | exact absurd q.2.2.2.2.1 (by assumption) | exact absurd q.2.2.2.2.2 (by assumption))
        exact ⟨_, rfl, hz.1.symm, by rw [hz.2]; exact hS, frNP.refl V⟩
      · have c5n : ((-1024) ≤ c ∧ c ≤ 1024) := Classical.not_not.mp (fun q => c5 (iB_0.mpr q))
        refine x_iload dX10_transform_39 4 rfl ?_
        refine x_sipush (v := -1024) dX10_transform_41 (by decide) ?_
        refine x_sipush (v := 1024) dX10_transform_44 (by decide) ?_
        refine x_callS (K := jX10_in) [.int d, .int (-1024), .int 1024] lk_X10_80 ⟨⟨rfl, rfl⟩, Nat.le_of_ble_eq_true rfl, Nat.le_of_ble_eq_true rfl⟩ (mX10_in V d (-1024) 1024) rfl (Nat.le_of_ble_eq_true rfl) rfl dX10_transform_47 (kpI ?_)
        refine x_if_eq 57 dX10_transform_50 (by decide) (fun c7 => ?_) (fun c7 => ?_)
        · have c7n : ¬ ((-1024) ≤ d ∧ d ≤ 1024) := iB_0.mp c7
          refine x_iconst (v := 0) dX10_transform_57 (by decide) ?_
          refine x_istore 7 [(7, .int 0), (0, .ref (g.2.1 49)), (1, .int a), (2, .int b), (3, .int c), (4, .int d), (5, .int e), (6, .int f)] dX10_transform_58 (by decide) rfl ?_
          refine x_iload dX10_transform_60 0 rfl ?_
          refine x_if_eq 93 dX10_transform_62 (by decide) (fun c8 => ?_) (fun c8 => by exfalso; revert c8; decide)
          refine x_ldc ct_X10_88 dX10_transform_93 ?_
          refine x_iret dX10_transform_95 rfl ?_
          rw [hQ]
          have hz := trZ_b (m := m) (N := N) (a := a) (b := b) (c := c) (d := d) (e := e) (f := f) (fun q => by first | exact absurd q.1 (by assumption) | exact absurd q.2.1 (by assumption) | exact absurd q.2.2.1 (by assumption) | exact absurd q.2.2.2.1 (by assumption) | exact absurd q.2.2.2.2.1 (by assumption) | exact absurd q.2.2.2.2.2 (by assumption))
          exact ⟨_, rfl, hz.1.symm, by rw [hz.2]; exact hS, frNP.refl V⟩
        · have c7n : ((-1024) ≤ d ∧ d ≤ 1024) := Classical.not_not.mp (fun q => c7 (iB_0.mpr q))
          refine x_iconst (v := 1) dX10_transform_53 (by decide) ?_
          refine x_goto 58 dX10_transform_54 (by decide) ?_
          refine x_istore 7 [(7, .int 1), (0, .ref (g.2.1 49)), (1, .int a), (2, .int b), (3, .int c), (4, .int d), (5, .int e), (6, .int f)] dX10_transform_58 (by decide) rfl ?_
          refine x_iload dX10_transform_60 0 rfl ?_
          refine x_if_eq 93 dX10_transform_62 (by decide) (fun c9 => by exfalso; revert c9; decide) (fun c9 => ?_)
          refine x_iload dX10_transform_65 6 rfl ?_
          refine x_sipush (v := -8000) dX10_transform_67 (by decide) ?_
          refine x_sipush (v := 8000) dX10_transform_70 (by decide) ?_
          refine x_callS (K := jX10_in) [.int e, .int (-8000), .int 8000] lk_X10_80 ⟨⟨rfl, rfl⟩, Nat.le_of_ble_eq_true rfl, Nat.le_of_ble_eq_true rfl⟩ (mX10_in V e (-8000) 8000) rfl (Nat.le_of_ble_eq_true rfl) rfl dX10_transform_73 (kpI ?_)
          refine x_if_eq 93 dX10_transform_76 (by decide) (fun c10 => ?_) (fun c10 => ?_)
          · have c10n : ¬ ((-8000) ≤ e ∧ e ≤ 8000) := iB_0.mp c10
            refine x_ldc ct_X10_88 dX10_transform_93 ?_
            refine x_iret dX10_transform_95 rfl ?_
            rw [hQ]
            have hz := trZ_b (m := m) (N := N) (a := a) (b := b) (c := c) (d := d) (e := e) (f := f) (fun q => by first | exact absurd q.1 (by assumption) | exact absurd q.2.1 (by assumption) | exact absurd q.2.2.1 (by assumption) | exact absurd q.2.2.2.1 (by assumption) | exact absurd q.2.2.2.2.1 (by assumption) | exact absurd q.2.2.2.2.2 (by assumption))
            exact ⟨_, rfl, hz.1.symm, by rw [hz.2]; exact hS, frNP.refl V⟩
          · have c10n : ((-8000) ≤ e ∧ e ≤ 8000) := Classical.not_not.mp (fun q => c10 (iB_0.mpr q))
            refine x_iload dX10_transform_79 7 rfl ?_
            refine x_sipush (v := -8000) dX10_transform_81 (by decide) ?_
            refine x_sipush (v := 8000) dX10_transform_84 (by decide) ?_
            refine x_callS (K := jX10_in) [.int f, .int (-8000), .int 8000] lk_X10_80 ⟨⟨rfl, rfl⟩, Nat.le_of_ble_eq_true rfl, Nat.le_of_ble_eq_true rfl⟩ (mX10_in V f (-8000) 8000) rfl (Nat.le_of_ble_eq_true rfl) rfl dX10_transform_87 (kpI ?_)
            refine x_if_ne 96 dX10_transform_90 (by decide) (fun c11 => ?_) (fun c11 => ?_)
            · have c11n : ((-8000) ≤ f ∧ f ≤ 8000) := Classical.not_not.mp (fun q => c11 (iB_0.mpr q))
              refine x_iconst (v := 1) dX10_transform_96 (by decide) ?_
              refine x_istore 8 [(8, .int 1), (7, .int 1), (0, .ref (g.2.1 49)), (1, .int a), (2, .int b), (3, .int c), (4, .int d), (5, .int e), (6, .int f)] dX10_transform_97 (by decide) rfl ?_
              refine x_iconst (v := 0) dX10_transform_99 (by decide) ?_
              refine x_istore 9 [(9, .int 0), (8, .int 1), (7, .int 1), (0, .ref (g.2.1 49)), (1, .int a), (2, .int b), (3, .int c), (4, .int d), (5, .int e), (6, .int f)] dX10_transform_100 (by decide) rfl ?_
              have lp12 : ∀ (fu : Nat) (k : Nat) (U : vM), (k ≤ N) → (∀ j, j < 7 * k → U 59 j = tfF m a b c d e f j) → (fr59 V U) → (N - k) < fu → XX g jX10_transform Q U 102 [(9, .int (nI k)), (8, .int (bP (alR (tfF m a b c d e f) (7 * k)))), (7, .int 1), (0, .ref (g.2.1 49)), (1, .int a), (2, .int b), (3, .int c), (4, .int d), (5, .int e), (6, .int f)] [] := by
                intro fu
                induction fu with
                | zero => intro _ _ _ _ _ hmz; exact absurd hmz (Nat.not_lt_zero _)
                | succ fu ih =>
                  intro k U hk hM hfU hmz
                  have hmU : ∀ i, U 50 i = m i := fun i => by rw [hfU 50 i (by decide), hm50]
                  refine x_iload dX10_transform_102 0 rfl ?_
                  refine x_aload_n dX10_transform_104 3 rfl ?_
                  refine x_callV (K := jX10_many) [] lk_X10_89 ⟨⟨rfl, rfl⟩, Nat.le_of_ble_eq_true rfl, Nat.le_of_ble_eq_true rfl⟩ rfl rfl (by have := mX10_many (g := g) U; rw [hmU, hN8] at this; exact this) rfl (Nat.le_of_ble_eq_true rfl) rfl dX10_transform_105 (kpI ?_)
                  refine x_icmp_ge 369 dX10_transform_108 (by decide) (fun c13 => ?_) (fun c13 => ?_)
                  · have c13n : N ≤ k := (nl_le (a := N) (b := k) (rfl) (rfl) (by omega) (by omega)).mp c13
                    refine x_iload dX10_transform_369 1 rfl ?_
                    refine x_if_ne 377 dX10_transform_371 (by decide) (fun c14 => ?_) (fun c14 => ?_)
                    · have c14n : (alR (tfF m a b c d e f) (7 * k)) := Classical.not_not.mp (fun q => c14 (bP_0.mpr q))
                      refine x_iconst (v := 0) dX10_transform_377 (by decide) ?_
                      refine x_istore 9 [(9, .int 0), (8, .int (bP (alR (tfF m a b c d e f) (7 * k)))), (7, .int 1), (0, .ref (g.2.1 49)), (1, .int a), (2, .int b), (3, .int c), (4, .int d), (5, .int e), (6, .int f)] dX10_transform_378 (by decide) rfl ?_
                      have lp15 : ∀ (fu1 : Nat) (i : Nat) (U3 : vM), (i ≤ 7 * N) → (∀ j, U3 50 j = if j < i then tfF m a b c d e f j else m j) → (∀ q j, q ≠ 50 → U3 q j = U q j) → (7 * N - i) < fu1 → XX g jX10_transform Q U3 380 [(9, .int (nI i)), (8, .int (bP (alR (tfF m a b c d e f) (7 * k)))), (7, .int 1), (0, .ref (g.2.1 49)), (1, .int a), (2, .int b), (3, .int c), (4, .int d), (5, .int e), (6, .int f)] [] := by
                        intro fu1
                        induction fu1 with
                        | zero => intro _ _ _ _ _ hmz; exact absurd hmz (Nat.not_lt_zero _)
                        | succ fu1 ih1 =>
                          intro i U3 hi hC5 hf3 hmz
                          have hmU3 : U3 50 168 = m 168 := by rw [hC5, if_neg (by omega)]
                          refine x_iload dX10_transform_380 0 rfl ?_
                          refine x_bipush (v := 7) dX10_transform_382 (by decide) ?_
                          refine x_aload_n dX10_transform_384 3 rfl ?_
                          refine x_callV (K := jX10_many) [] lk_X10_89 ⟨⟨rfl, rfl⟩, Nat.le_of_ble_eq_true rfl, Nat.le_of_ble_eq_true rfl⟩ rfl rfl (by have := mX10_many (g := g) U3; rw [hmU3, hN8] at this; exact this) rfl (Nat.le_of_ble_eq_true rfl) rfl dX10_transform_385 (kpI ?_)
                          refine x_imul dX10_transform_388 ?_
                          refine x_icmp_ge 412 dX10_transform_389 (by decide) (fun c16 => ?_) (fun c16 => ?_)
                          · have c16n : 7 * N ≤ i := (nl_le (a := 7 * N) (b := i) (nmul (rfl) (rfl)) (rfl) (by omega) (by omega)).mp c16
                            refine x_aload_n dX10_transform_412 3 rfl ?_
                            refine x_callV (K := jX10_many) [] lk_X10_89 ⟨⟨rfl, rfl⟩, Nat.le_of_ble_eq_true rfl, Nat.le_of_ble_eq_true rfl⟩ rfl rfl (by have := mX10_many (g := g) U3; rw [hmU3, hN8] at this; exact this) rfl (Nat.le_of_ble_eq_true rfl) rfl dX10_transform_413 (kpI ?_)
                            refine x_iret dX10_transform_416 rfl ?_
                            rw [hQ]
                            have hA : alR (tfF m a b c d e f) (7 * N) := by rw [show 7 * N = 7 * k by omega]; assumption
                            have hz := trZ_y (m := m) (N := N) (show tOK a b c d e f from ⟨by assumption, by assumption, by assumption, by assumption, by assumption, by assumption⟩) hA
                            have he : U3 50 = tfM m N a b c d e f := by
                              funext j
                              rw [hC5]
                              unfold tfM
                              by_cases q : j < 7 * N
                              · rw [if_pos (by omega), if_pos q]
                              · rw [if_neg (by omega), if_neg q]
                            exact ⟨_, rfl, hz.1.symm, by rw [hz.2]; exact ⟨hw.tf hA, he, by unfold tfM; rw [if_neg (by omega)]; exact hN8, by unfold tfM; rw [if_neg (by omega)]; exact ht9⟩, fun q i p1 p2 _ => (hf3 q i p2).trans (hfU q i (by omega))⟩
                          · have c16n : i < 7 * N := Nat.not_le.mp (fun q => c16 ((nl_le (a := 7 * N) (b := i) (nmul (rfl) (rfl)) (rfl) (by omega) (by omega)).mpr q))
                            refine x_aload_n dX10_transform_392 3 rfl ?_
                            refine x_getR fl_X10_9 rfl rfl dX10_transform_393 ?_
                            refine x_iload dX10_transform_396 0 rfl ?_
                            refine x_aload_n dX10_transform_398 3 rfl ?_
                            refine x_getR fl_X10_38 rfl rfl dX10_transform_399 ?_
                            refine x_iload dX10_transform_402 0 rfl ?_
                            have b17 : vp_in (nI i) 170 := by exact vp_in_nI (by omega) (by decide)
                            refine x_iald rfl b17 dX10_transform_404 ?_
                            refine x_topi (y := U3 59 i) (by rw [nI_clamp (by omega)]) ?_
                            refine x_topi ((hf3 59 i (by decide)).trans (hM i (by omega))) ?_
                            have b18 : vp_in (nI i) 170 := by exact vp_in_nI (by omega) (by decide)
                            refine x_iast rfl b18 dX10_transform_405 ?_
                            refine YY.V (V' := uM U3 50 i (tfF m a b c d e f i)) (by rw [nI_clamp (by omega)]) ?_
                            obtain ⟨U19, eU19⟩ : ∃ v_v : vM, v_v = uM U3 50 i (tfF m a b c d e f i) := ⟨_, rfl⟩
                            refine YY.V eU19.symm ?_
                            refine x_iinc 9 (v := (nI i) + 1) 0 [(9, .int ((nI i) + 1)), (8, .int (bP (alR (tfF m a b c d e f) (7 * k)))), (7, .int 1), (0, .ref (g.2.1 49)), (1, .int a), (2, .int b), (3, .int c), (4, .int d), (5, .int e), (6, .int f)] dX10_transform_406 rfl (by rfl) (by decide) rfl ?_
                            refine x_goto 380 dX10_transform_409 (by decide) ?_
                            refine YY.L (lv' := [(9, .int (nI (i + 1))), (8, .int (bP (alR (tfF m a b c d e f) (7 * k)))), (7, .int 1), (0, .ref (g.2.1 49)), (1, .int a), (2, .int b), (3, .int c), (4, .int d), (5, .int e), (6, .int f)]) (by rw [nI_1] <;> rfl) ?_
                            exact ih1 (i + 1) U19 (by omega) (by intro j; rw [eU19, uM_at]; by_cases q : j = i; (rw [if_pos ⟨rfl, q⟩, if_pos (by omega), q]); (rw [if_neg (fun z => q z.2), hC5]; by_cases z : j < i; (rw [if_pos z, if_pos (by omega)]); (rw [if_neg z, if_neg (by omega)]))) (by intro q j h; rw [eU19, uM_na h]; exact hf3 q j h) (by omega)
                      refine YY.L (lv' := [(9, .int (nI 0)), (8, .int (bP (alR (tfF m a b c d e f) (7 * k)))), (7, .int 1), (0, .ref (g.2.1 49)), (1, .int a), (2, .int b), (3, .int c), (4, .int d), (5, .int e), (6, .int f)]) (by rfl) ?_
                      exact lp15 _ 0 U (by omega) (by intro j; rw [if_neg (by omega)]; exact hmU j) (by exact fun _ _ _ => rfl) (Nat.lt_succ_self _)
                    · have c14n : ¬ (alR (tfF m a b c d e f) (7 * k)) := bP_0.mp c14
                      refine x_ldc ct_X10_97 dX10_transform_374 ?_
                      refine x_iret dX10_transform_376 rfl ?_
                      rw [hQ]
                      have hz := trZ_n (m := m) (N := N) (show tOK a b c d e f from ⟨by assumption, by assumption, by assumption, by assumption, by assumption, by assumption⟩) (by rw [show 7 * N = 7 * k by omega]; assumption)
                      exact ⟨_, rfl, hz.1.symm, by rw [hz.2]; exact ⟨hw, by funext i; exact hmU i, hN8, ht9⟩, fun q i p1 p2 _ => hfU q i (by omega)⟩
                  · have c13n : k < N := Nat.not_le.mp (fun q => c13 ((nl_le (a := N) (b := k) (rfl) (rfl) (by omega) (by omega)).mpr q))
                    refine x_aload_n dX10_transform_111 3 rfl ?_
                    refine x_getR fl_X10_38 rfl rfl dX10_transform_112 ?_
                    refine x_bipush (v := 7) dX10_transform_115 (by decide) ?_
                    refine x_iload dX10_transform_117 0 rfl ?_
                    refine x_imul dX10_transform_119 ?_
                    refine x_aload_n dX10_transform_120 3 rfl ?_
                    refine x_iload dX10_transform_121 0 rfl ?_
                    refine x_callV (K := jX10_kind) [.int (nI k)] lk_X10_93 ⟨⟨rfl, rfl⟩, Nat.le_of_ble_eq_true rfl, Nat.le_of_ble_eq_true rfl⟩ rfl rfl (by have := mX10_kind (g := g) U k (by omega); rw [hmU] at this; exact this) rfl (Nat.le_of_ble_eq_true rfl) rfl dX10_transform_123 (kpI ?_)
                    have q20 : (7 * (nI k) : Int32) = nI (7 * k) := nmul (rfl) (rfl)
                    refine YY.S (st' := [.int (m (k * 7)), .int (nI (7 * k)), .ref (g.2.1 59)]) (by rw [q20]) ?_
                    have b21 : vp_in (nI (7 * k)) 170 := by exact vp_in_nI (by omega) (by decide)
                    refine x_iast rfl b21 dX10_transform_126 ?_
                    refine YY.V (V' := uM U 59 (7 * k) (m (k * 7))) (by rw [nI_clamp (by omega)]) ?_
                    obtain ⟨U22, eU22⟩ : ∃ v_v : vM, v_v = uM U 59 (7 * k) (m (k * 7)) := ⟨_, rfl⟩
                    refine YY.V eU22.symm ?_
                    refine x_iconst (v := 1) dX10_transform_127 (by decide) ?_
                    refine x_istore 10 [(10, .int 1), (9, .int (nI k)), (8, .int (bP (alR (tfF m a b c d e f) (7 * k)))), (7, .int 1), (0, .ref (g.2.1 49)), (1, .int a), (2, .int b), (3, .int c), (4, .int d), (5, .int e), (6, .int f)] dX10_transform_128 (by decide) rfl ?_
                    have lp23 : ∀ (fu1 : Nat) (p : Nat) (U2 : vM), (p = 1 ∨ p = 3 ∨ p = 5 ∨ p = 7) → (∀ j, j < 7 * k + p → U2 59 j = tfF m a b c d e f j) → (fr59 V U2) → (7 - p) < fu1 → XX g jX10_transform Q U2 130 [(10, .int (nI p)), (9, .int (nI k)), (8, .int (bP (alR (tfF m a b c d e f) (7 * k + p)))), (7, .int 1), (0, .ref (g.2.1 49)), (1, .int a), (2, .int b), (3, .int c), (4, .int d), (5, .int e), (6, .int f)] [] := by
                      intro fu1
                      induction fu1 with
                      | zero => intro _ _ _ _ _ hmz; exact absurd hmz (Nat.not_lt_zero _)
                      | succ fu1 ih1 =>
                        intro p U2 hp hM2 hfU2 hmz
                        have hmU2 : ∀ i, U2 50 i = m i := fun i => by rw [hfU2 50 i (by decide), hm50]
                        refine x_iload dX10_transform_130 0 rfl ?_
                        refine x_bipush (v := 7) dX10_transform_132 (by decide) ?_
                        refine x_icmp_ge 363 dX10_transform_134 (by decide) (fun c24 => ?_) (fun c24 => ?_)
                        · have c24n : 7 ≤ p := (nl_le (a := 7) (b := p) (rfl) (rfl) (by omega) (by omega)).mp c24
                          refine x_iinc 9 (v := (nI k) + 1) 1 [(9, .int ((nI k) + 1)), (10, .int (nI p)), (8, .int (bP (alR (tfF m a b c d e f) (7 * k + p)))), (7, .int 1), (0, .ref (g.2.1 49)), (1, .int a), (2, .int b), (3, .int c), (4, .int d), (5, .int e), (6, .int f)] dX10_transform_363 rfl (by rfl) (by decide) rfl ?_
                          refine x_goto 102 dX10_transform_366 (by decide) ?_
                          refine x_lv [0, 2, 3, 4, 5, 6, 7, 8, 9, 10] rfl ?_
                          refine YY.L (lv' := [(9, .int (nI (k + 1))), (8, .int (bP (alR (tfF m a b c d e f) (7 * (k + 1))))), (7, .int 1), (0, .ref (g.2.1 49)), (1, .int a), (2, .int b), (3, .int c), (4, .int d), (5, .int e), (6, .int f)]) (by rw [nI_1, show 7 * k + p = 7 * (k + 1) by omega] <;> rfl) ?_
                          exact ih (k + 1) U2 (by omega) (by intro j hj; exact hM2 j (by omega)) (by exact hfU2) (by omega)
                        · have c24n : p < 7 := Nat.not_le.mp (fun q => c24 ((nl_le (a := 7) (b := p) (rfl) (rfl) (by omega) (by omega)).mpr q))
                          refine x_aload_n dX10_transform_137 4 rfl ?_
                          refine x_getR fl_X10_9 rfl rfl dX10_transform_138 ?_
                          refine x_bipush (v := 7) dX10_transform_141 (by decide) ?_
                          refine x_iload dX10_transform_143 1 rfl ?_
                          refine x_imul dX10_transform_145 ?_
                          refine x_iload dX10_transform_146 0 rfl ?_
                          refine x_iadd dX10_transform_148 ?_
                          have q25 : ((7 * (nI k)) + (nI p) : Int32) = nI ((7 * k) + p) := nadd (nmul (rfl) (rfl)) (rfl)
                          refine YY.S (st' := [.int (nI ((7 * k) + p)), .ref (g.2.1 50)]) (by rw [q25]) ?_
                          have b26 : vp_in (nI ((7 * k) + p)) 170 := by exact vp_in_nI (by omega) (by decide)
                          refine x_iald rfl b26 dX10_transform_149 ?_
                          refine x_topi (y := U2 50 ((7 * k) + p)) (by rw [nI_clamp (by omega)]) ?_
                          refine x_topi ((hmU2 _).trans (by rw [Nat.mul_comm 7 k])) ?_
                          refine x_istore 11 [(11, .int (m (k * 7 + p))), (10, .int (nI p)), (9, .int (nI k)), (8, .int (bP (alR (tfF m a b c d e f) (7 * k + p)))), (7, .int 1), (0, .ref (g.2.1 49)), (1, .int a), (2, .int b), (3, .int c), (4, .int d), (5, .int e), (6, .int f)] dX10_transform_150 (by decide) rfl ?_
                          refine x_aload_n dX10_transform_152 5 rfl ?_
                          refine x_getR fl_X10_9 rfl rfl dX10_transform_153 ?_
                          refine x_bipush (v := 7) dX10_transform_156 (by decide) ?_
                          refine x_iload dX10_transform_158 2 rfl ?_
                          refine x_imul dX10_transform_160 ?_
                          refine x_iload dX10_transform_161 1 rfl ?_
                          refine x_iadd dX10_transform_163 ?_
                          refine x_iconst (v := 1) dX10_transform_164 (by decide) ?_
                          refine x_iadd dX10_transform_165 ?_
                          have q27 : (((7 * (nI k)) + (nI p)) + 1 : Int32) = nI (((7 * k) + p) + 1) := nadd (nadd (nmul (rfl) (rfl)) (rfl)) (rfl)
                          refine YY.S (st' := [.int (nI (((7 * k) + p) + 1)), .ref (g.2.1 50)]) (by rw [q27]) ?_
                          have b28 : vp_in (nI (((7 * k) + p) + 1)) 170 := by exact vp_in_nI (by omega) (by decide)
                          refine x_iald rfl b28 dX10_transform_166 ?_
                          refine x_topi (y := U2 50 (((7 * k) + p) + 1)) (by rw [nI_clamp (by omega)]) ?_
                          refine x_topi ((hmU2 _).trans (by rw [Nat.mul_comm 7 k])) ?_
                          refine x_istore 12 [(12, .int (m (k * 7 + p + 1))), (11, .int (m (k * 7 + p))), (10, .int (nI p)), (9, .int (nI k)), (8, .int (bP (alR (tfF m a b c d e f) (7 * k + p)))), (7, .int 1), (0, .ref (g.2.1 49)), (1, .int a), (2, .int b), (3, .int c), (4, .int d), (5, .int e), (6, .int f)] dX10_transform_167 (by decide) rfl ?_
                          refine x_iload dX10_transform_169 2 rfl ?_
                          refine x_iconst (v := 5) dX10_transform_171 (by decide) ?_
                          have jn31 : ∀ (z30 : Int32), ((¬ (nI p) = 5 ∧ ¬ (nI p) = 1 ∧ ¬ (m (k * 7)) = 3 ∧ z30 = 0) ∨ (¬ (nI p) = 5 ∧ ¬ (nI p) = 1 ∧ (m (k * 7)) = 3 ∧ z30 = 1) ∨ (¬ (nI p) = 5 ∧ (nI p) = 1 ∧ (m (k * 7)) = 2 ∧ z30 = 1) ∨ (¬ (nI p) = 5 ∧ (nI p) = 1 ∧ ¬ (m (k * 7)) = 2 ∧ ¬ (m (k * 7)) = 3 ∧ z30 = 0) ∨ (¬ (nI p) = 5 ∧ (nI p) = 1 ∧ ¬ (m (k * 7)) = 2 ∧ (m (k * 7)) = 3 ∧ z30 = 1) ∨ ((nI p) = 5 ∧ (m (k * 7)) = 4 ∧ z30 = 0) ∨ ((nI p) = 5 ∧ ¬ (m (k * 7)) = 4 ∧ z30 = 1)) → XX g jX10_transform Q U2 242 [(12, .int (m (k * 7 + p + 1))), (11, .int (m (k * 7 + p))), (10, .int (nI p)), (9, .int (nI k)), (8, .int (bP (alR (tfF m a b c d e f) (7 * k + p)))), (7, .int 1), (0, .ref (g.2.1 49)), (1, .int a), (2, .int b), (3, .int c), (4, .int d), (5, .int e), (6, .int f)] [.int z30] := by
                            intro z30 hj32
                            have hp3 : p = 1 ∨ p = 3 ∨ p = 5 := by omega
                            have i5 : nI p = 5 ↔ p = 5 := nI_eq (b := 5) (by omega) (by omega)
                            have i1 : nI p = 1 ↔ p = 1 := nI_eq (b := 1) (by omega) (by omega)
                            have hzz : z30 = bP (hasP m k p) := by
                              rcases hj32 with ⟨q1, q2, q3, qz⟩ | ⟨q1, q2, q3, qz⟩ | ⟨q1, q2, q3, qz⟩ | ⟨q1, q2, q3, q4, qz⟩ | ⟨q1, q2, q3, q4, qz⟩ | ⟨q1, q2, qz⟩ | ⟨q1, q2, qz⟩ <;> rw [i5] at q1 <;> rw [qz]
                              · rw [i1] at q2; exact (bP_f (by rintro (⟨x, -⟩ | ⟨x, -⟩ | ⟨-, x⟩) <;> first | omega | exact q3 x)).symm
                              · rw [i1] at q2; exact (bP_t (Or.inr (Or.inr ⟨by omega, q3⟩))).symm
                              · rw [i1] at q2; exact (bP_t (Or.inr (Or.inl ⟨q2, Or.inl q3⟩))).symm
                              · rw [i1] at q2; exact (bP_f (by rintro (⟨x, -⟩ | ⟨-, x | x⟩ | ⟨x, -⟩) <;> first | omega | exact q3 x | exact q4 x)).symm
                              · rw [i1] at q2; exact (bP_t (Or.inr (Or.inl ⟨q2, Or.inr q4⟩))).symm
                              · exact (bP_f (by rintro (⟨-, x⟩ | ⟨x, -⟩ | ⟨x, -⟩) <;> first | omega | exact x q2)).symm
                              · exact (bP_t (Or.inl ⟨q1, q2⟩)).symm
                            refine x_topi (y := bP (hasP m k p)) hzz ?_
                            refine x_istore 13 [(13, .int (bP (hasP m k p))), (12, .int (m (k * 7 + p + 1))), (11, .int (m (k * 7 + p))), (10, .int (nI p)), (9, .int (nI k)), (8, .int (bP (alR (tfF m a b c d e f) (7 * k + p)))), (7, .int 1), (0, .ref (g.2.1 49)), (1, .int a), (2, .int b), (3, .int c), (4, .int d), (5, .int e), (6, .int f)] dX10_transform_242 (by decide) rfl ?_
                            refine x_iload dX10_transform_244 0 rfl ?_
                            refine x_if_eq 267 dX10_transform_246 (by decide) (fun c33 => ?_) (fun c33 => ?_)
                            · have c33n : ¬ (hasP m k p) := bP_0.mp c33
                              refine x_iconst (v := 0) dX10_transform_267 (by decide) ?_
                              refine x_topi (y := tfF m a b c d e f (k * 7 + p)) ((tfF_f hp3 (by assumption)).1) ?_
                              refine x_istore 14 [(14, .int (tfF m a b c d e f (k * 7 + p))), (13, .int (bP (hasP m k p))), (12, .int (m (k * 7 + p + 1))), (11, .int (m (k * 7 + p))), (10, .int (nI p)), (9, .int (nI k)), (8, .int (bP (alR (tfF m a b c d e f) (7 * k + p)))), (7, .int 1), (0, .ref (g.2.1 49)), (1, .int a), (2, .int b), (3, .int c), (4, .int d), (5, .int e), (6, .int f)] dX10_transform_268 (by decide) rfl ?_
                              refine x_iload dX10_transform_270 1 rfl ?_
                              refine x_if_eq 294 dX10_transform_272 (by decide) (fun c34 => ?_) (fun c34 => by exfalso; exact c34 (bP_0.mpr (by assumption)))
                              refine x_iconst (v := 0) dX10_transform_294 (by decide) ?_
                              refine x_topi (y := tfF m a b c d e f (k * 7 + p + 1)) ((tfF_f hp3 (by assumption)).2) ?_
                              refine x_istore 15 [(15, .int (tfF m a b c d e f (k * 7 + p + 1))), (14, .int (tfF m a b c d e f (k * 7 + p))), (13, .int (bP (hasP m k p))), (12, .int (m (k * 7 + p + 1))), (11, .int (m (k * 7 + p))), (10, .int (nI p)), (9, .int (nI k)), (8, .int (bP (alR (tfF m a b c d e f) (7 * k + p)))), (7, .int 1), (0, .ref (g.2.1 49)), (1, .int a), (2, .int b), (3, .int c), (4, .int d), (5, .int e), (6, .int f)] dX10_transform_295 (by decide) rfl ?_
                              refine x_iload dX10_transform_297 7 rfl ?_
                              have jn37 : ∀ (z36 : Int32), ((¬ (alR (tfF m a b c d e f) (7 * k + p)) ∧ z36 = 0) ∨ ((alR (tfF m a b c d e f) (7 * k + p)) ∧ ¬ (-4000 ≤ (tfF m a b c d e f (k * 7 + p)) ∧ (tfF m a b c d e f (k * 7 + p)) ≤ 4000) ∧ z36 = 0) ∨ ((alR (tfF m a b c d e f) (7 * k + p)) ∧ (-4000 ≤ (tfF m a b c d e f (k * 7 + p)) ∧ (tfF m a b c d e f (k * 7 + p)) ≤ 4000) ∧ ¬ (-4000 ≤ (tfF m a b c d e f (k * 7 + p + 1)) ∧ (tfF m a b c d e f (k * 7 + p + 1)) ≤ 4000) ∧ z36 = 0) ∨ ((alR (tfF m a b c d e f) (7 * k + p)) ∧ (-4000 ≤ (tfF m a b c d e f (k * 7 + p)) ∧ (tfF m a b c d e f (k * 7 + p)) ≤ 4000) ∧ (-4000 ≤ (tfF m a b c d e f (k * 7 + p + 1)) ∧ (tfF m a b c d e f (k * 7 + p + 1)) ≤ 4000) ∧ z36 = 1)) → XX g jX10_transform Q U2 323 [(15, .int (tfF m a b c d e f (k * 7 + p + 1))), (14, .int (tfF m a b c d e f (k * 7 + p))), (13, .int (bP (hasP m k p))), (12, .int (m (k * 7 + p + 1))), (11, .int (m (k * 7 + p))), (10, .int (nI p)), (9, .int (nI k)), (8, .int (bP (alR (tfF m a b c d e f) (7 * k + p)))), (7, .int 1), (0, .ref (g.2.1 49)), (1, .int a), (2, .int b), (3, .int c), (4, .int d), (5, .int e), (6, .int f)] [.int z36] := by
                                intro z36 hj38
                                have hzz : z36 = bP (alR (tfF m a b c d e f) (7 * k + p + 2)) := by
                                  have ha := alR_2 (f := tfF m a b c d e f) (k := k) hp3
                                  rcases hj38 with ⟨q1, qz⟩ | ⟨q1, q2, qz⟩ | ⟨q1, q2, q3, qz⟩ | ⟨q1, q2, q3, qz⟩ <;> rw [qz]
                                  · exact (bP_f (fun x => q1 (ha.mp x).1)).symm
                                  · exact (bP_f (fun x => q2 (ha.mp x).2.1)).symm
                                  · exact (bP_f (fun x => q3 (ha.mp x).2.2)).symm
                                  · exact (bP_t (ha.mpr ⟨q1, q2, q3⟩)).symm
                                refine x_topi (y := bP (alR (tfF m a b c d e f) (7 * k + p + 2))) hzz ?_
                                refine x_istore 8 [(8, .int (bP (alR (tfF m a b c d e f) (7 * k + p + 2)))), (15, .int (tfF m a b c d e f (k * 7 + p + 1))), (14, .int (tfF m a b c d e f (k * 7 + p))), (13, .int (bP (hasP m k p))), (12, .int (m (k * 7 + p + 1))), (11, .int (m (k * 7 + p))), (10, .int (nI p)), (9, .int (nI k)), (7, .int 1), (0, .ref (g.2.1 49)), (1, .int a), (2, .int b), (3, .int c), (4, .int d), (5, .int e), (6, .int f)] dX10_transform_323 (by decide) rfl ?_
                                refine x_aload_n dX10_transform_325 9 rfl ?_
                                refine x_getR fl_X10_38 rfl rfl dX10_transform_326 ?_
                                refine x_bipush (v := 7) dX10_transform_329 (by decide) ?_
                                refine x_iload dX10_transform_331 7 rfl ?_
                                refine x_imul dX10_transform_333 ?_
                                refine x_iload dX10_transform_334 6 rfl ?_
                                refine x_iadd dX10_transform_336 ?_
                                refine x_iload dX10_transform_337 2 rfl ?_
                                have q39 : ((7 * (nI k)) + (nI p) : Int32) = nI ((7 * k) + p) := nadd (nmul (rfl) (rfl)) (rfl)
                                refine YY.S (st' := [.int (tfF m a b c d e f (k * 7 + p)), .int (nI ((7 * k) + p)), .ref (g.2.1 59)]) (by rw [q39]) ?_
                                have b40 : vp_in (nI ((7 * k) + p)) 170 := by exact vp_in_nI (by omega) (by decide)
                                refine x_iast rfl b40 dX10_transform_339 ?_
                                refine YY.V (V' := uM U2 59 ((7 * k) + p) (tfF m a b c d e f (k * 7 + p))) (by rw [nI_clamp (by omega)]) ?_
                                obtain ⟨U41, eU41⟩ : ∃ v_v : vM, v_v = uM U2 59 ((7 * k) + p) (tfF m a b c d e f (k * 7 + p)) := ⟨_, rfl⟩
                                refine YY.V eU41.symm ?_
                                refine x_aload_n dX10_transform_340 9 rfl ?_
                                refine x_getR fl_X10_38 rfl rfl dX10_transform_341 ?_
                                refine x_bipush (v := 7) dX10_transform_344 (by decide) ?_
                                refine x_iload dX10_transform_346 7 rfl ?_
                                refine x_imul dX10_transform_348 ?_
                                refine x_iload dX10_transform_349 6 rfl ?_
                                refine x_iadd dX10_transform_351 ?_
                                refine x_iconst (v := 1) dX10_transform_352 (by decide) ?_
                                refine x_iadd dX10_transform_353 ?_
                                refine x_iload dX10_transform_354 1 rfl ?_
                                have q42 : (((7 * (nI k)) + (nI p)) + 1 : Int32) = nI (((7 * k) + p) + 1) := nadd (nadd (nmul (rfl) (rfl)) (rfl)) (rfl)
                                refine YY.S (st' := [.int (tfF m a b c d e f (k * 7 + p + 1)), .int (nI (((7 * k) + p) + 1)), .ref (g.2.1 59)]) (by rw [q42]) ?_
                                have b43 : vp_in (nI (((7 * k) + p) + 1)) 170 := by exact vp_in_nI (by omega) (by decide)
                                refine x_iast rfl b43 dX10_transform_356 ?_
                                refine YY.V (V' := uM U41 59 (((7 * k) + p) + 1) (tfF m a b c d e f (k * 7 + p + 1))) (by rw [nI_clamp (by omega)]) ?_
                                obtain ⟨U44, eU44⟩ : ∃ v_v : vM, v_v = uM U41 59 (((7 * k) + p) + 1) (tfF m a b c d e f (k * 7 + p + 1)) := ⟨_, rfl⟩
                                refine YY.V eU44.symm ?_
                                refine x_iinc 10 (v := (nI p) + 2) 6 [(10, .int ((nI p) + 2)), (8, .int (bP (alR (tfF m a b c d e f) (7 * k + p + 2)))), (15, .int (tfF m a b c d e f (k * 7 + p + 1))), (14, .int (tfF m a b c d e f (k * 7 + p))), (13, .int (bP (hasP m k p))), (12, .int (m (k * 7 + p + 1))), (11, .int (m (k * 7 + p))), (9, .int (nI k)), (7, .int 1), (0, .ref (g.2.1 49)), (1, .int a), (2, .int b), (3, .int c), (4, .int d), (5, .int e), (6, .int f)] dX10_transform_357 rfl (by rfl) (by decide) rfl ?_
                                refine x_goto 130 dX10_transform_360 (by decide) ?_
                                refine x_lv [0, 7, 1, 8, 9, 10, 11, 12, 13, 14, 15] rfl ?_
                                refine YY.L (lv' := [(10, .int (nI (p + 2))), (9, .int (nI k)), (8, .int (bP (alR (tfF m a b c d e f) (7 * k + (p + 2))))), (7, .int 1), (0, .ref (g.2.1 49)), (1, .int a), (2, .int b), (3, .int c), (4, .int d), (5, .int e), (6, .int f)]) (by rw [show nI p + 2 = nI (p + 2) from nadd rfl rfl] <;> rfl) ?_
                                exact ih1 (p + 2) U44 (by omega) (by intro j hj; exact mv_2 (J := 7 * k + p) hM2 (by rw [eU44, eU41]) (by rw [Nat.mul_comm 7 k]) (by rw [Nat.mul_comm 7 k]) j (by omega)) (by exact (hfU2.st eU41).st eU44) (by omega)
                              refine x_if_eq 322 dX10_transform_299 (by decide) (fun c35 => ?_) (fun c35 => ?_)
                              · have c35n : ¬ (alR (tfF m a b c d e f) (7 * k + p)) := bP_0.mp c35
                                refine x_iconst (v := 0) dX10_transform_322 (by decide) ?_
                                exact jn37 _ (Or.inl ⟨c35n, rfl⟩)
                              · have c35n : (alR (tfF m a b c d e f) (7 * k + p)) := Classical.not_not.mp (fun q => c35 (bP_0.mpr q))
                                refine x_iload dX10_transform_302 1 rfl ?_
                                refine x_callS (K := jX10_isPlace) [.int (tfF m a b c d e f (k * 7 + p))] lk_X10_84 ⟨⟨rfl, rfl⟩, Nat.le_of_ble_eq_true rfl, Nat.le_of_ble_eq_true rfl⟩ (mX10_isPlace U2 (tfF m a b c d e f (k * 7 + p))) rfl (Nat.le_of_ble_eq_true rfl) rfl dX10_transform_304 (kpI ?_)
                                refine x_if_eq 322 dX10_transform_307 (by decide) (fun c45 => ?_) (fun c45 => ?_)
                                · have c45n : ¬ (-4000 ≤ (tfF m a b c d e f (k * 7 + p)) ∧ (tfF m a b c d e f (k * 7 + p)) ≤ 4000) := iB_0.mp c45
                                  refine x_iconst (v := 0) dX10_transform_322 (by decide) ?_
                                  exact jn37 _ (Or.inr (Or.inl ⟨c35n, c45n, rfl⟩))
                                · have c45n : (-4000 ≤ (tfF m a b c d e f (k * 7 + p)) ∧ (tfF m a b c d e f (k * 7 + p)) ≤ 4000) := Classical.not_not.mp (fun q => c45 (iB_0.mpr q))
                                  refine x_iload dX10_transform_310 0 rfl ?_
                                  refine x_callS (K := jX10_isPlace) [.int (tfF m a b c d e f (k * 7 + p + 1))] lk_X10_84 ⟨⟨rfl, rfl⟩, Nat.le_of_ble_eq_true rfl, Nat.le_of_ble_eq_true rfl⟩ (mX10_isPlace U2 (tfF m a b c d e f (k * 7 + p + 1))) rfl (Nat.le_of_ble_eq_true rfl) rfl dX10_transform_312 (kpI ?_)
                                  refine x_if_eq 322 dX10_transform_315 (by decide) (fun c46 => ?_) (fun c46 => ?_)
                                  · have c46n : ¬ (-4000 ≤ (tfF m a b c d e f (k * 7 + p + 1)) ∧ (tfF m a b c d e f (k * 7 + p + 1)) ≤ 4000) := iB_0.mp c46
                                    refine x_iconst (v := 0) dX10_transform_322 (by decide) ?_
                                    exact jn37 _ (Or.inr (Or.inr (Or.inl ⟨c35n, c45n, c46n, rfl⟩)))
                                  · have c46n : (-4000 ≤ (tfF m a b c d e f (k * 7 + p + 1)) ∧ (tfF m a b c d e f (k * 7 + p + 1)) ≤ 4000) := Classical.not_not.mp (fun q => c46 (iB_0.mpr q))
                                    refine x_iconst (v := 1) dX10_transform_318 (by decide) ?_
                                    refine x_goto 323 dX10_transform_319 (by decide) ?_
                                    exact jn37 _ (Or.inr (Or.inr (Or.inr ⟨c35n, c45n, c46n, rfl⟩)))
                            · have c33n : (hasP m k p) := Classical.not_not.mp (fun q => c33 (bP_0.mpr q))
                              refine x_iload_n dX10_transform_249 8 rfl ?_
                              refine x_iload dX10_transform_250 2 rfl ?_
                              refine x_imul dX10_transform_252 ?_
                              refine x_iload_n dX10_transform_253 10 rfl ?_
                              refine x_iload dX10_transform_254 1 rfl ?_
                              refine x_imul dX10_transform_256 ?_
                              refine x_iadd dX10_transform_257 ?_
                              refine x_bipush (v := 8) dX10_transform_258 (by decide) ?_
                              refine x_ishr dX10_transform_260 ?_
                              refine x_iload dX10_transform_261 12 rfl ?_
                              refine x_iadd dX10_transform_263 ?_
                              refine x_goto 268 dX10_transform_264 (by decide) ?_
                              refine x_topi (y := tfF m a b c d e f (k * 7 + p)) ((tfF_t hp3 (by assumption)).1) ?_
                              refine x_istore 14 [(14, .int (tfF m a b c d e f (k * 7 + p))), (13, .int (bP (hasP m k p))), (12, .int (m (k * 7 + p + 1))), (11, .int (m (k * 7 + p))), (10, .int (nI p)), (9, .int (nI k)), (8, .int (bP (alR (tfF m a b c d e f) (7 * k + p)))), (7, .int 1), (0, .ref (g.2.1 49)), (1, .int a), (2, .int b), (3, .int c), (4, .int d), (5, .int e), (6, .int f)] dX10_transform_268 (by decide) rfl ?_
                              refine x_iload dX10_transform_270 1 rfl ?_
                              refine x_if_eq 294 dX10_transform_272 (by decide) (fun c47 => by exfalso; exact absurd (show hasP m k p by assumption) (bP_0.mp c47)) (fun c47 => ?_)
                              refine x_iload_n dX10_transform_275 10 rfl ?_
                              refine x_iload dX10_transform_276 3 rfl ?_
                              refine x_imul dX10_transform_278 ?_
                              refine x_iload dX10_transform_279 12 rfl ?_
                              refine x_iload dX10_transform_281 2 rfl ?_
                              refine x_imul dX10_transform_283 ?_
                              refine x_iadd dX10_transform_284 ?_
                              refine x_bipush (v := 8) dX10_transform_285 (by decide) ?_
                              refine x_ishr dX10_transform_287 ?_
                              refine x_iload dX10_transform_288 14 rfl ?_
                              refine x_iadd dX10_transform_290 ?_
                              refine x_goto 295 dX10_transform_291 (by decide) ?_
                              refine x_topi (y := tfF m a b c d e f (k * 7 + p + 1)) ((tfF_t hp3 (by assumption)).2) ?_
                              refine x_istore 15 [(15, .int (tfF m a b c d e f (k * 7 + p + 1))), (14, .int (tfF m a b c d e f (k * 7 + p))), (13, .int (bP (hasP m k p))), (12, .int (m (k * 7 + p + 1))), (11, .int (m (k * 7 + p))), (10, .int (nI p)), (9, .int (nI k)), (8, .int (bP (alR (tfF m a b c d e f) (7 * k + p)))), (7, .int 1), (0, .ref (g.2.1 49)), (1, .int a), (2, .int b), (3, .int c), (4, .int d), (5, .int e), (6, .int f)] dX10_transform_295 (by decide) rfl ?_
                              refine x_iload dX10_transform_297 7 rfl ?_
                              have jn50 : ∀ (z49 : Int32), ((¬ (alR (tfF m a b c d e f) (7 * k + p)) ∧ z49 = 0) ∨ ((alR (tfF m a b c d e f) (7 * k + p)) ∧ ¬ (-4000 ≤ (tfF m a b c d e f (k * 7 + p)) ∧ (tfF m a b c d e f (k * 7 + p)) ≤ 4000) ∧ z49 = 0) ∨ ((alR (tfF m a b c d e f) (7 * k + p)) ∧ (-4000 ≤ (tfF m a b c d e f (k * 7 + p)) ∧ (tfF m a b c d e f (k * 7 + p)) ≤ 4000) ∧ ¬ (-4000 ≤ (tfF m a b c d e f (k * 7 + p + 1)) ∧ (tfF m a b c d e f (k * 7 + p + 1)) ≤ 4000) ∧ z49 = 0) ∨ ((alR (tfF m a b c d e f) (7 * k + p)) ∧ (-4000 ≤ (tfF m a b c d e f (k * 7 + p)) ∧ (tfF m a b c d e f (k * 7 + p)) ≤ 4000) ∧ (-4000 ≤ (tfF m a b c d e f (k * 7 + p + 1)) ∧ (tfF m a b c d e f (k * 7 + p + 1)) ≤ 4000) ∧ z49 = 1)) → XX g jX10_transform Q U2 323 [(15, .int (tfF m a b c d e f (k * 7 + p + 1))), (14, .int (tfF m a b c d e f (k * 7 + p))), (13, .int (bP (hasP m k p))), (12, .int (m (k * 7 + p + 1))), (11, .int (m (k * 7 + p))), (10, .int (nI p)), (9, .int (nI k)), (8, .int (bP (alR (tfF m a b c d e f) (7 * k + p)))), (7, .int 1), (0, .ref (g.2.1 49)), (1, .int a), (2, .int b), (3, .int c), (4, .int d), (5, .int e), (6, .int f)] [.int z49] := by
                                intro z49 hj51
                                have hzz : z49 = bP (alR (tfF m a b c d e f) (7 * k + p + 2)) := by
                                  have ha := alR_2 (f := tfF m a b c d e f) (k := k) hp3
                                  rcases hj51 with ⟨q1, qz⟩ | ⟨q1, q2, qz⟩ | ⟨q1, q2, q3, qz⟩ | ⟨q1, q2, q3, qz⟩ <;> rw [qz]
                                  · exact (bP_f (fun x => q1 (ha.mp x).1)).symm
                                  · exact (bP_f (fun x => q2 (ha.mp x).2.1)).symm
                                  · exact (bP_f (fun x => q3 (ha.mp x).2.2)).symm
                                  · exact (bP_t (ha.mpr ⟨q1, q2, q3⟩)).symm
                                refine x_topi (y := bP (alR (tfF m a b c d e f) (7 * k + p + 2))) hzz ?_
                                refine x_istore 8 [(8, .int (bP (alR (tfF m a b c d e f) (7 * k + p + 2)))), (15, .int (tfF m a b c d e f (k * 7 + p + 1))), (14, .int (tfF m a b c d e f (k * 7 + p))), (13, .int (bP (hasP m k p))), (12, .int (m (k * 7 + p + 1))), (11, .int (m (k * 7 + p))), (10, .int (nI p)), (9, .int (nI k)), (7, .int 1), (0, .ref (g.2.1 49)), (1, .int a), (2, .int b), (3, .int c), (4, .int d), (5, .int e), (6, .int f)] dX10_transform_323 (by decide) rfl ?_
                                refine x_aload_n dX10_transform_325 9 rfl ?_
                                refine x_getR fl_X10_38 rfl rfl dX10_transform_326 ?_
                                refine x_bipush (v := 7) dX10_transform_329 (by decide) ?_
                                refine x_iload dX10_transform_331 7 rfl ?_
                                refine x_imul dX10_transform_333 ?_
                                refine x_iload dX10_transform_334 6 rfl ?_
                                refine x_iadd dX10_transform_336 ?_
                                refine x_iload dX10_transform_337 2 rfl ?_
                                have q52 : ((7 * (nI k)) + (nI p) : Int32) = nI ((7 * k) + p) := nadd (nmul (rfl) (rfl)) (rfl)
                                refine YY.S (st' := [.int (tfF m a b c d e f (k * 7 + p)), .int (nI ((7 * k) + p)), .ref (g.2.1 59)]) (by rw [q52]) ?_
                                have b53 : vp_in (nI ((7 * k) + p)) 170 := by exact vp_in_nI (by omega) (by decide)
                                refine x_iast rfl b53 dX10_transform_339 ?_
                                refine YY.V (V' := uM U2 59 ((7 * k) + p) (tfF m a b c d e f (k * 7 + p))) (by rw [nI_clamp (by omega)]) ?_
                                obtain ⟨U54, eU54⟩ : ∃ v_v : vM, v_v = uM U2 59 ((7 * k) + p) (tfF m a b c d e f (k * 7 + p)) := ⟨_, rfl⟩
                                refine YY.V eU54.symm ?_
                                refine x_aload_n dX10_transform_340 9 rfl ?_
                                refine x_getR fl_X10_38 rfl rfl dX10_transform_341 ?_
                                refine x_bipush (v := 7) dX10_transform_344 (by decide) ?_
                                refine x_iload dX10_transform_346 7 rfl ?_
                                refine x_imul dX10_transform_348 ?_
                                refine x_iload dX10_transform_349 6 rfl ?_
                                refine x_iadd dX10_transform_351 ?_
                                refine x_iconst (v := 1) dX10_transform_352 (by decide) ?_
                                refine x_iadd dX10_transform_353 ?_
                                refine x_iload dX10_transform_354 1 rfl ?_
                                have q55 : (((7 * (nI k)) + (nI p)) + 1 : Int32) = nI (((7 * k) + p) + 1) := nadd (nadd (nmul (rfl) (rfl)) (rfl)) (rfl)
                                refine YY.S (st' := [.int (tfF m a b c d e f (k * 7 + p + 1)), .int (nI (((7 * k) + p) + 1)), .ref (g.2.1 59)]) (by rw [q55]) ?_
                                have b56 : vp_in (nI (((7 * k) + p) + 1)) 170 := by exact vp_in_nI (by omega) (by decide)
                                refine x_iast rfl b56 dX10_transform_356 ?_
                                refine YY.V (V' := uM U54 59 (((7 * k) + p) + 1) (tfF m a b c d e f (k * 7 + p + 1))) (by rw [nI_clamp (by omega)]) ?_
                                obtain ⟨U57, eU57⟩ : ∃ v_v : vM, v_v = uM U54 59 (((7 * k) + p) + 1) (tfF m a b c d e f (k * 7 + p + 1)) := ⟨_, rfl⟩
                                refine YY.V eU57.symm ?_
                                refine x_iinc 10 (v := (nI p) + 2) 6 [(10, .int ((nI p) + 2)), (8, .int (bP (alR (tfF m a b c d e f) (7 * k + p + 2)))), (15, .int (tfF m a b c d e f (k * 7 + p + 1))), (14, .int (tfF m a b c d e f (k * 7 + p))), (13, .int (bP (hasP m k p))), (12, .int (m (k * 7 + p + 1))), (11, .int (m (k * 7 + p))), (9, .int (nI k)), (7, .int 1), (0, .ref (g.2.1 49)), (1, .int a), (2, .int b), (3, .int c), (4, .int d), (5, .int e), (6, .int f)] dX10_transform_357 rfl (by rfl) (by decide) rfl ?_
                                refine x_goto 130 dX10_transform_360 (by decide) ?_
                                refine x_lv [0, 7, 1, 8, 9, 10, 11, 12, 13, 14, 15] rfl ?_
                                refine YY.L (lv' := [(10, .int (nI (p + 2))), (9, .int (nI k)), (8, .int (bP (alR (tfF m a b c d e f) (7 * k + (p + 2))))), (7, .int 1), (0, .ref (g.2.1 49)), (1, .int a), (2, .int b), (3, .int c), (4, .int d), (5, .int e), (6, .int f)]) (by rw [show nI p + 2 = nI (p + 2) from nadd rfl rfl] <;> rfl) ?_
                                exact ih1 (p + 2) U57 (by omega) (by intro j hj; exact mv_2 (J := 7 * k + p) hM2 (by rw [eU57, eU54]) (by rw [Nat.mul_comm 7 k]) (by rw [Nat.mul_comm 7 k]) j (by omega)) (by exact (hfU2.st eU54).st eU57) (by omega)
                              refine x_if_eq 322 dX10_transform_299 (by decide) (fun c48 => ?_) (fun c48 => ?_)
                              · have c48n : ¬ (alR (tfF m a b c d e f) (7 * k + p)) := bP_0.mp c48
                                refine x_iconst (v := 0) dX10_transform_322 (by decide) ?_
                                exact jn50 _ (Or.inl ⟨c48n, rfl⟩)
                              · have c48n : (alR (tfF m a b c d e f) (7 * k + p)) := Classical.not_not.mp (fun q => c48 (bP_0.mpr q))
                                refine x_iload dX10_transform_302 1 rfl ?_
                                refine x_callS (K := jX10_isPlace) [.int (tfF m a b c d e f (k * 7 + p))] lk_X10_84 ⟨⟨rfl, rfl⟩, Nat.le_of_ble_eq_true rfl, Nat.le_of_ble_eq_true rfl⟩ (mX10_isPlace U2 (tfF m a b c d e f (k * 7 + p))) rfl (Nat.le_of_ble_eq_true rfl) rfl dX10_transform_304 (kpI ?_)
                                refine x_if_eq 322 dX10_transform_307 (by decide) (fun c58 => ?_) (fun c58 => ?_)
                                · have c58n : ¬ (-4000 ≤ (tfF m a b c d e f (k * 7 + p)) ∧ (tfF m a b c d e f (k * 7 + p)) ≤ 4000) := iB_0.mp c58
                                  refine x_iconst (v := 0) dX10_transform_322 (by decide) ?_
                                  exact jn50 _ (Or.inr (Or.inl ⟨c48n, c58n, rfl⟩))
                                · have c58n : (-4000 ≤ (tfF m a b c d e f (k * 7 + p)) ∧ (tfF m a b c d e f (k * 7 + p)) ≤ 4000) := Classical.not_not.mp (fun q => c58 (iB_0.mpr q))
                                  refine x_iload dX10_transform_310 0 rfl ?_
                                  refine x_callS (K := jX10_isPlace) [.int (tfF m a b c d e f (k * 7 + p + 1))] lk_X10_84 ⟨⟨rfl, rfl⟩, Nat.le_of_ble_eq_true rfl, Nat.le_of_ble_eq_true rfl⟩ (mX10_isPlace U2 (tfF m a b c d e f (k * 7 + p + 1))) rfl (Nat.le_of_ble_eq_true rfl) rfl dX10_transform_312 (kpI ?_)
                                  refine x_if_eq 322 dX10_transform_315 (by decide) (fun c59 => ?_) (fun c59 => ?_)
                                  · have c59n : ¬ (-4000 ≤ (tfF m a b c d e f (k * 7 + p + 1)) ∧ (tfF m a b c d e f (k * 7 + p + 1)) ≤ 4000) := iB_0.mp c59
                                    refine x_iconst (v := 0) dX10_transform_322 (by decide) ?_
                                    exact jn50 _ (Or.inr (Or.inr (Or.inl ⟨c48n, c58n, c59n, rfl⟩)))
                                  · have c59n : (-4000 ≤ (tfF m a b c d e f (k * 7 + p + 1)) ∧ (tfF m a b c d e f (k * 7 + p + 1)) ≤ 4000) := Classical.not_not.mp (fun q => c59 (iB_0.mpr q))
                                    refine x_iconst (v := 1) dX10_transform_318 (by decide) ?_
                                    refine x_goto 323 dX10_transform_319 (by decide) ?_
                                    exact jn50 _ (Or.inr (Or.inr (Or.inr ⟨c48n, c58n, c59n, rfl⟩)))
                          refine x_icmp_ne 193 dX10_transform_172 (by decide) (fun c29 => ?_) (fun c29 => ?_)
                          · have c29n : ¬ p = 5 := fun q => c29 ((nl_eq (a := p) (b := 5) (rfl) (rfl) (by omega) (by omega)).mpr q)
                            refine x_iload dX10_transform_193 2 rfl ?_
                            refine x_iconst (v := 1) dX10_transform_195 (by decide) ?_
                            refine x_icmp_ne 227 dX10_transform_196 (by decide) (fun c60 => ?_) (fun c60 => ?_)
                            · have c60n : ¬ p = 1 := fun q => c60 ((nl_eq (a := p) (b := 1) (rfl) (rfl) (by omega) (by omega)).mpr q)
                              refine x_aload_n dX10_transform_227 6 rfl ?_
                              refine x_iload dX10_transform_228 3 rfl ?_
                              refine x_callV (K := jX10_kind) [.int (nI k)] lk_X10_93 ⟨⟨rfl, rfl⟩, Nat.le_of_ble_eq_true rfl, Nat.le_of_ble_eq_true rfl⟩ rfl rfl (by have := mX10_kind (g := g) U2 k (by omega); rw [hmU2] at this; exact this) rfl (Nat.le_of_ble_eq_true rfl) rfl dX10_transform_230 (kpI ?_)
                              refine x_iconst (v := 3) dX10_transform_233 (by decide) ?_
                              refine x_icmp_ne 241 dX10_transform_234 (by decide) (fun c61 => ?_) (fun c61 => ?_)
                              · refine x_iconst (v := 0) dX10_transform_241 (by decide) ?_
                                exact jn31 _ (Or.inl ⟨c29, c60, c61, rfl⟩)
                              · refine x_iconst (v := 1) dX10_transform_237 (by decide) ?_
                                refine x_goto 242 dX10_transform_238 (by decide) ?_
                                exact jn31 _ (Or.inr (Or.inl ⟨c29, c60, c61, rfl⟩))
                            · have c60n : p = 1 := (nl_eq (a := p) (b := 1) (rfl) (rfl) (by omega) (by omega)).mp c60
                              refine x_aload_n dX10_transform_199 6 rfl ?_
                              refine x_iload dX10_transform_200 3 rfl ?_
                              refine x_callV (K := jX10_kind) [.int (nI k)] lk_X10_93 ⟨⟨rfl, rfl⟩, Nat.le_of_ble_eq_true rfl, Nat.le_of_ble_eq_true rfl⟩ rfl rfl (by have := mX10_kind (g := g) U2 k (by omega); rw [hmU2] at this; exact this) rfl (Nat.le_of_ble_eq_true rfl) rfl dX10_transform_202 (kpI ?_)
                              refine x_iconst (v := 2) dX10_transform_205 (by decide) ?_
                              refine x_icmp_eq 219 dX10_transform_206 (by decide) (fun c62 => ?_) (fun c62 => ?_)
                              · refine x_iconst (v := 1) dX10_transform_219 (by decide) ?_
                                refine x_goto 242 dX10_transform_220 (by decide) ?_
                                exact jn31 _ (Or.inr (Or.inr (Or.inl ⟨c29, c60, c62, rfl⟩)))
                              · refine x_aload_n dX10_transform_209 6 rfl ?_
                                refine x_iload dX10_transform_210 3 rfl ?_
                                refine x_callV (K := jX10_kind) [.int (nI k)] lk_X10_93 ⟨⟨rfl, rfl⟩, Nat.le_of_ble_eq_true rfl, Nat.le_of_ble_eq_true rfl⟩ rfl rfl (by have := mX10_kind (g := g) U2 k (by omega); rw [hmU2] at this; exact this) rfl (Nat.le_of_ble_eq_true rfl) rfl dX10_transform_212 (kpI ?_)
                                refine x_iconst (v := 3) dX10_transform_215 (by decide) ?_
                                refine x_icmp_ne 223 dX10_transform_216 (by decide) (fun c63 => ?_) (fun c63 => ?_)
                                · refine x_iconst (v := 0) dX10_transform_223 (by decide) ?_
                                  refine x_goto 242 dX10_transform_224 (by decide) ?_
                                  exact jn31 _ (Or.inr (Or.inr (Or.inr (Or.inl ⟨c29, c60, c62, c63, rfl⟩))))
                                · refine x_iconst (v := 1) dX10_transform_219 (by decide) ?_
                                  refine x_goto 242 dX10_transform_220 (by decide) ?_
                                  exact jn31 _ (Or.inr (Or.inr (Or.inr (Or.inr (Or.inl ⟨c29, c60, c62, c63, rfl⟩)))))
                          · have c29n : p = 5 := (nl_eq (a := p) (b := 5) (rfl) (rfl) (by omega) (by omega)).mp c29
                            refine x_aload_n dX10_transform_175 6 rfl ?_
                            refine x_iload dX10_transform_176 3 rfl ?_
                            refine x_callV (K := jX10_kind) [.int (nI k)] lk_X10_93 ⟨⟨rfl, rfl⟩, Nat.le_of_ble_eq_true rfl, Nat.le_of_ble_eq_true rfl⟩ rfl rfl (by have := mX10_kind (g := g) U2 k (by omega); rw [hmU2] at this; exact this) rfl (Nat.le_of_ble_eq_true rfl) rfl dX10_transform_178 (kpI ?_)
                            refine x_iconst (v := 4) dX10_transform_181 (by decide) ?_
                            refine x_icmp_eq 189 dX10_transform_182 (by decide) (fun c64 => ?_) (fun c64 => ?_)
                            · refine x_iconst (v := 0) dX10_transform_189 (by decide) ?_
                              refine x_goto 242 dX10_transform_190 (by decide) ?_
                              exact jn31 _ (Or.inr (Or.inr (Or.inr (Or.inr (Or.inr (Or.inl ⟨c29, c64, rfl⟩))))))
                            · refine x_iconst (v := 1) dX10_transform_185 (by decide) ?_
                              refine x_goto 242 dX10_transform_186 (by decide) ?_
                              exact jn31 _ (Or.inr (Or.inr (Or.inr (Or.inr (Or.inr (Or.inr ⟨c29, c64, rfl⟩))))))
                    refine YY.L (lv' := [(10, .int (nI 1)), (9, .int (nI k)), (8, .int (bP (alR (tfF m a b c d e f) (7 * k + 1)))), (7, .int 1), (0, .ref (g.2.1 49)), (1, .int a), (2, .int b), (3, .int c), (4, .int d), (5, .int e), (6, .int f)]) (by rw [bP_iff alR_1] <;> rfl) ?_
                    exact lp23 _ 1 U22 (by omega) (by intro j hj; by_cases q : j = 7 * k; (rw [q, eU22, uM_hit, Nat.mul_comm 7 k, tfF_0]); (rw [eU22, uM_ni q]; exact hM j (by omega))) (by exact hfU.st eU22) (Nat.lt_succ_self _)
              refine YY.L (lv' := [(9, .int (nI 0)), (8, .int (bP (alR (tfF m a b c d e f) (7 * 0)))), (7, .int 1), (0, .ref (g.2.1 49)), (1, .int a), (2, .int b), (3, .int c), (4, .int d), (5, .int e), (6, .int f)]) (by rw [bP_t (show alR (tfF m a b c d e f) (7 * 0) from fun j q => absurd q (Nat.not_lt_zero _))] <;> rfl) ?_
              exact lp12 _ 0 V (by omega) (by exact fun j q => absurd q (Nat.not_lt_zero _)) (by exact fun _ _ _ => rfl) (Nat.lt_succ_self _)
            · have c11n : ¬ ((-8000) ≤ f ∧ f ≤ 8000) := iB_0.mp c11
              refine x_ldc ct_X10_88 dX10_transform_93 ?_
              refine x_iret dX10_transform_95 rfl ?_
              rw [hQ]
              have hz := trZ_b (m := m) (N := N) (a := a) (b := b) (c := c) (d := d) (e := e) (f := f) (fun q => by first | exact absurd q.1 (by assumption) | exact absurd q.2.1 (by assumption) | exact absurd q.2.2.1 (by assumption) | exact absurd q.2.2.2.1 (by assumption) | exact absurd q.2.2.2.2.1 (by assumption) | exact absurd q.2.2.2.2.2 (by assumption))
              exact ⟨_, rfl, hz.1.symm, by rw [hz.2]; exact hS, frNP.refl V⟩
