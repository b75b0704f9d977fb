def fr58 (V U : vM) : Prop := ∀ a i, a ≠ 58 → U a i = V a i
theorem fr58.refl (V : vM) : fr58 V V := fun _ _ _ => rfl
theorem fr58.trans {V U W : vM} (h : fr58 V U) (k : fr58 U W) : fr58 V W := fun a i p => by rw [k a i p, h a i p]
theorem fr58.st {V U U' : vM} (h : fr58 V U) {i : Nat} {x : Int32} (e : U' = uM U 58 i x) : fr58 V U' := fun a j q => by rw [e, uM_na q]; exact h a j q
def STr (V U : vM) (k : Nat) (kd x y : Int32) : Prop := fr58 V U ∧ (∀ j, j < 7 * k → U 58 j = V 58 j) ∧ U 58 (7 * k) = kd ∧ (∀ p, 1 ≤ p → p < 5 → U 58 (7 * k + p) = 0) ∧ U 58 (7 * k + 5) = x ∧ U 58 (7 * k + 6) = y
set_option maxHeartbeats 1000000 in
set_option maxRecDepth 100000 in
theorem mX10_setTurned {g : gX} (V : vM) (k : Nat) (hk : k < 24) (kd x y : Int32) : MM g jX10_setTurned V [.ref (g.2.1 49), .int (nI k), .int kd, .int x, .int y] (eV (fun U => STr V U k kd x y)) := by
  refine MM.of plX10_setTurned (Nat.le_of_ble_eq_true rfl) ?_
  obtain ⟨Q, hQ⟩ : ∃ Q : Option Value → vM → Prop, Q = (eV (fun U => STr V U k kd x y)) := ⟨_, rfl⟩
  rw [← hQ]
  show XX g jX10_setTurned Q V 0 [(0, .ref (g.2.1 49)), (1, .int (nI k)), (2, .int kd), (3, .int x), (4, .int y)] []
  refine x_aload_n dX10_setTurned_0 0 rfl ?_
  refine x_getR fl_X10_35 rfl rfl dX10_setTurned_1 ?_
  refine x_bipush (v := 7) dX10_setTurned_4 (by decide) ?_
  refine x_iload_n dX10_setTurned_6 1 rfl ?_
  refine x_imul dX10_setTurned_7 ?_
  refine x_iload_n dX10_setTurned_8 2 rfl ?_
  have q1 : (7 * (nI k) : Int32) = nI (7 * k) := nmul (rfl) (rfl)
  refine YY.S (st' := [.int kd, .int (nI (7 * k)), .ref (g.2.1 58)]) (by rw [q1]) ?_
  have b2 : vp_in (nI (7 * k)) 168 := by exact vp_in_nI (by omega) (by decide)
  refine x_iast rfl b2 dX10_setTurned_9 ?_
  refine YY.V (V' := uM V 58 (7 * k) kd) (by rw [nI_clamp (by omega)]) ?_
  obtain ⟨U3, eU3⟩ : ∃ v_v : vM, v_v = uM V 58 (7 * k) kd := ⟨_, rfl⟩
  refine YY.V eU3.symm ?_
  refine x_iconst (v := 1) dX10_setTurned_10 (by decide) ?_
  refine x_istore 5 [(5, .int 1), (0, .ref (g.2.1 49)), (1, .int (nI k)), (2, .int kd), (3, .int x), (4, .int y)] dX10_setTurned_11 (by decide) rfl ?_
  have lp4 : ∀ (fu : Nat) (p : Nat) (U : vM), (1 ≤ p ∧ p ≤ 5) → (∀ q, 1 ≤ q → q < p → U 58 (7 * k + q) = 0) → (∀ j, j ≤ 7 * k → U 58 j = U3 58 j) → (fr58 V U) → (5 - p) < fu → XX g jX10_setTurned Q U 13 [(5, .int (nI p)), (0, .ref (g.2.1 49)), (1, .int (nI k)), (2, .int kd), (3, .int x), (4, .int y)] [] := by
    intro fu
    induction fu with
    | zero => intro _ _ _ _ _ _ hmz; exact absurd hmz (Nat.not_lt_zero _)
    | succ fu ih =>
      intro p U hp hZ hO hfU hmz
      refine x_iload dX10_setTurned_13 0 rfl ?_
      refine x_iconst (v := 5) dX10_setTurned_15 (by decide) ?_
      refine x_icmp_ge 38 dX10_setTurned_16 (by decide) (fun c5 => ?_) (fun c5 => ?_)
      · have c5n : 5 ≤ p := (nl_le (a := 5) (b := p) (rfl) (rfl) (by omega) (by omega)).mp c5
        refine x_aload_n dX10_setTurned_38 1 rfl ?_
        refine x_getR fl_X10_35 rfl rfl dX10_setTurned_39 ?_
        refine x_bipush (v := 7) dX10_setTurned_42 (by decide) ?_
        refine x_iload_n dX10_setTurned_44 2 rfl ?_
        refine x_imul dX10_setTurned_45 ?_
        refine x_iconst (v := 5) dX10_setTurned_46 (by decide) ?_
        refine x_iadd dX10_setTurned_47 ?_
        refine x_iload_n dX10_setTurned_48 4 rfl ?_
        have q6 : ((7 * (nI k)) + 5 : Int32) = nI ((7 * k) + 5) := nadd (nmul (rfl) (rfl)) (rfl)
        refine YY.S (st' := [.int x, .int (nI ((7 * k) + 5)), .ref (g.2.1 58)]) (by rw [q6]) ?_
        have b7 : vp_in (nI ((7 * k) + 5)) 168 := by exact vp_in_nI (by omega) (by decide)
        refine x_iast rfl b7 dX10_setTurned_49 ?_
        refine YY.V (V' := uM U 58 ((7 * k) + 5) x) (by rw [nI_clamp (by omega)]) ?_
        obtain ⟨U8, eU8⟩ : ∃ v_v : vM, v_v = uM U 58 ((7 * k) + 5) x := ⟨_, rfl⟩
        refine YY.V eU8.symm ?_
        refine x_aload_n dX10_setTurned_50 1 rfl ?_
        refine x_getR fl_X10_35 rfl rfl dX10_setTurned_51 ?_
        refine x_bipush (v := 7) dX10_setTurned_54 (by decide) ?_
        refine x_iload_n dX10_setTurned_56 2 rfl ?_
        refine x_imul dX10_setTurned_57 ?_
        refine x_bipush (v := 6) dX10_setTurned_58 (by decide) ?_
        refine x_iadd dX10_setTurned_60 ?_
        refine x_iload dX10_setTurned_61 5 rfl ?_
        have q9 : ((7 * (nI k)) + 6 : Int32) = nI ((7 * k) + 6) := nadd (nmul (rfl) (rfl)) (rfl)
        refine YY.S (st' := [.int y, .int (nI ((7 * k) + 6)), .ref (g.2.1 58)]) (by rw [q9]) ?_
        have b10 : vp_in (nI ((7 * k) + 6)) 168 := by exact vp_in_nI (by omega) (by decide)
        refine x_iast rfl b10 dX10_setTurned_63 ?_
        refine YY.V (V' := uM U8 58 ((7 * k) + 6) y) (by rw [nI_clamp (by omega)]) ?_
        obtain ⟨U11, eU11⟩ : ∃ v_v : vM, v_v = uM U8 58 ((7 * k) + 6) y := ⟨_, rfl⟩
        refine YY.V eU11.symm ?_
        refine x_vret dX10_setTurned_64 rfl ?_
        rw [hQ]
        refine ⟨rfl, (hfU.st eU8).st eU11, fun j hj => ?_, ?_, fun q q1 q2 => ?_, ?_, ?_⟩
        · rw [eU11, uM_ni (by omega), eU8, uM_ni (by omega), hO j (by omega), eU3, uM_ni (by omega)]
        · rw [eU11, uM_ni (by omega), eU8, uM_ni (by omega), hO _ (Nat.le_refl _), eU3, uM_hit]
        · rw [eU11, uM_ni (by omega), eU8, uM_ni (by omega)]; exact hZ q q1 (by omega)
        · rw [eU11, uM_ni (by omega), eU8, uM_hit]
        · rw [eU11, uM_hit]
      · have c5n : p < 5 := Nat.not_le.mp (fun q => c5 ((nl_le (a := 5) (b := p) (rfl) (rfl) (by omega) (by omega)).mpr q))
        refine x_aload_n dX10_setTurned_19 1 rfl ?_
        refine x_getR fl_X10_35 rfl rfl dX10_setTurned_20 ?_
        refine x_bipush (v := 7) dX10_setTurned_23 (by decide) ?_
        refine x_iload_n dX10_setTurned_25 2 rfl ?_
        refine x_imul dX10_setTurned_26 ?_
        refine x_iload dX10_setTurned_27 0 rfl ?_
        refine x_iadd dX10_setTurned_29 ?_
        refine x_iconst (v := 0) dX10_setTurned_30 (by decide) ?_
        have q12 : ((7 * (nI k)) + (nI p) : Int32) = nI ((7 * k) + p) := nadd (nmul (rfl) (rfl)) (rfl)
        refine YY.S (st' := [.int 0, .int (nI ((7 * k) + p)), .ref (g.2.1 58)]) (by rw [q12]) ?_
        have b13 : vp_in (nI ((7 * k) + p)) 168 := by exact vp_in_nI (by omega) (by decide)
        refine x_iast rfl b13 dX10_setTurned_31 ?_
        refine YY.V (V' := uM U 58 ((7 * k) + p) 0) (by rw [nI_clamp (by omega)]) ?_
        obtain ⟨U14, eU14⟩ : ∃ v_v : vM, v_v = uM U 58 ((7 * k) + p) 0 := ⟨_, rfl⟩
        refine YY.V eU14.symm ?_
        refine x_iinc 5 (v := (nI p) + 1) 0 [(5, .int ((nI p) + 1)), (0, .ref (g.2.1 49)), (1, .int (nI k)), (2, .int kd), (3, .int x), (4, .int y)] dX10_setTurned_32 rfl (by rfl) (by decide) rfl ?_
        refine x_goto 13 dX10_setTurned_35 (by decide) ?_
        refine YY.L (lv' := [(5, .int (nI (p + 1))), (0, .ref (g.2.1 49)), (1, .int (nI k)), (2, .int kd), (3, .int x), (4, .int y)]) (by rw [nI_1] <;> rfl) ?_
        exact ih (p + 1) U14 (by omega) (by intro q q1 q2; rw [eU14]; by_cases z : q = p; (rw [z, uM_hit]); (rw [uM_ni (by omega)]; exact hZ q q1 (by omega))) (by intro j hj; rw [eU14, uM_ni (by omega)]; exact hO j hj) (by exact hfU.st eU14) (by omega)
  refine YY.L (lv' := [(5, .int (nI 1)), (0, .ref (g.2.1 49)), (1, .int (nI k)), (2, .int kd), (3, .int x), (4, .int y)]) (by rfl) ?_
  exact lp4 _ 1 U3 (by omega) (by intro q q1 q2; omega) (by exact fun _ _ => rfl) (by exact (fr58.refl V).st eU3) (Nat.lt_succ_self _)
theorem rv_up {m : Nat → Int32} {l c k : Nat} (hk : k = l - c + 1) (hc : 1 ≤ c ∧ c ≤ l) {U U1 U2 : vM} (hT : ∀ t, t < k → ∀ p, p < 7 → U 58 (7 * t + p) = rvR m l t p) (h1 : STr U U1 k (m (c * 7)) (ex7 m (c - 1)) (ey7 m (c - 1)))
    (h2 : (m (c * 7) = 2 → U2 = uM (uM U1 58 (7 * k + 1) (m (7 * c + 1))) 58 (7 * k + 2) (m (7 * c + 2))) ∧ (m (c * 7) = 3 → U2 = uM (uM (uM (uM U1 58 (7 * k + 1) (m (7 * c + 3))) 58 (7 * k + 2) (m (7 * c + 4))) 58 (7 * k + 3) (m (7 * c + 1))) 58 (7 * k + 4) (m (7 * c + 2))) ∧ (¬ m (c * 7) = 2 → ¬ m (c * 7) = 3 → U2 = U1)) : ∀ t, t < k + 1 → ∀ p, p < 7 → U2 58 (7 * t + p) = rvR m l t p := by
  obtain ⟨-, a1, a2, a3, a4, a5⟩ := h1
  obtain ⟨b2, b3, b0⟩ := h2
  have r : ∀ p, rvR m l k p = rvT m c p := fun p => by unfold rvR; rw [if_neg (by omega), show l - k + 1 = c by omega]
  have z1 := a3 1 (by omega) (by omega)
  have z2 := a3 2 (by omega) (by omega)
  have z3 := a3 3 (by omega) (by omega)
  have z4 := a3 4 (by omega) (by omega)
  intro t ht p hp
  by_cases e : t = k
  · rw [e, r]
    rcases (show p = 0 ∨ p = 1 ∨ p = 2 ∨ p = 3 ∨ p = 4 ∨ p = 5 ∨ p = 6 by omega) with rfl | rfl | rfl | rfl | rfl | rfl | rfl
    all_goals
      by_cases k2 : m (c * 7) = 2
      · rw [b2 k2]; simp [uM_at, rvT, k2, a2, a4, a5, z1, z2, z3, z4, Nat.mul_comm 7 c]
      · by_cases k3 : m (c * 7) = 3
        · rw [b3 k3]; simp [uM_at, rvT, k3, a2, a4, a5, z1, z2, z3, z4, Nat.mul_comm 7 c]
        · rw [b0 k2 k3]; simp [rvT, k2, k3, a2, a4, a5, z1, z2, z3, z4]
  · have ho : U2 58 (7 * t + p) = U1 58 (7 * t + p) := by
      by_cases k2 : m (c * 7) = 2
      · rw [b2 k2, uM_ni (by omega), uM_ni (by omega)]
      · by_cases k3 : m (c * 7) = 3
        · rw [b3 k3, uM_ni (by omega), uM_ni (by omega), uM_ni (by omega), uM_ni (by omega)]
        · rw [b0 k2 k3]
    rw [ho, a1 _ (by omega)]
    exact hT t (by omega) p hp
theorem rv_rd {U : vM} {m : Nat → Int32} {l k i : Nat} (hT : ∀ t, t < k → ∀ p, p < 7 → U 58 (7 * t + p) = rvR m l t p) (hi : i < 7 * k) : U 58 i = rvR m l (i / 7) (i % 7) := by
  have := hT (i / 7) (by omega) (i % 7) (by omega)
  rw [show 7 * (i / 7) + i % 7 = i by omega] at this
  exact this
theorem rv_0 {m : Nat → Int32} {l : Nat} {V U : vM} (h : STr V U 0 0 (ex7 m l) (ey7 m l)) : ∀ p, p < 7 → U 58 (7 * 0 + p) = rvR m l 0 p := by
  obtain ⟨-, -, a2, a3, a4, a5⟩ := h
  intro p hp
  have z1 := a3 1 (by omega) (by omega)
  have z2 := a3 2 (by omega) (by omega)
  have z3 := a3 3 (by omega) (by omega)
  have z4 := a3 4 (by omega) (by omega)
  simp only [Nat.mul_zero, Nat.zero_add] at *
  rcases (show p = 0 ∨ p = 1 ∨ p = 2 ∨ p = 3 ∨ p = 4 ∨ p = 5 ∨ p = 6 by omega) with rfl | rfl | rfl | rfl | rfl | rfl | rfl
  · exact a2
  · exact z1
  · exact z2
  · exact z3
  · exact z4
  · exact a4
  · exact a5
set_option maxHeartbeats 4000000 in
set_option maxRecDepth 100000 in
theorem mX10_reverse {g : gX} {V : vM} {m : Nat → Int32} {N : Nat} {t : Int32} (hS : MS V m N t) (cc : Int32) : MM g jX10_reverse V [.ref (g.2.1 49), .int cc] (eI (fun z U => z = rvZ m N cc ∧ MS U (rvM m N cc) N t ∧ frNP V U)) := by
  refine MM.of plX10_reverse (Nat.le_of_ble_eq_true rfl) ?_
  obtain ⟨Q, hQ⟩ : ∃ Q : Option Value → vM → Prop, Q = (eI (fun z U => z = rvZ m N cc ∧ MS U (rvM m N cc) N t ∧ frNP V U)) := ⟨_, rfl⟩
  rw [← hQ]
  show XX g jX10_reverse Q V 0 [(0, .ref (g.2.1 49)), (1, .int cc)] []
  obtain ⟨hw, hm50, hN8, ht9⟩ := id hS
  have hN := hw.1
  have hcl := cntM_le (kd7 m) N
  have hMV := hm50
  have hmV : ∀ i, V 50 i = m i := fun i => by rw [hm50]
  refine x_aload_n dX10_reverse_0 0 rfl ?_
  refine x_iload_n dX10_reverse_1 1 rfl ?_
  refine x_callV (K := jX10_isContour) [.int cc] lk_X10_123 ⟨⟨rfl, rfl⟩, Nat.le_of_ble_eq_true rfl, Nat.le_of_ble_eq_true rfl⟩ rfl rfl (by have := mX10_isContour (g := g) V N hN (by rw [hm50]; exact hN8) (by rw [hm50]; exact hw) cc; rw [hm50] at this; exact this) rfl (Nat.le_of_ble_eq_true rfl) rfl dX10_reverse_2 (kpI ?_)
  refine x_if_ne 11 dX10_reverse_5 (by decide) (fun c1 => ?_) (fun c1 => ?_)
  · have c1n : (0 ≤ cc ∧ cc < nI (cntM (kd7 m) N)) := Classical.not_not.mp (fun q => c1 (iB_0.mpr q))
    obtain ⟨k, hk0, hkS⟩ := nI_ex (c := cc) (n := cntM (kd7 m) N) (by omega) (by assumption)
    refine YY.L (lv' := [(0, .ref (g.2.1 49)), (1, .int (nI k))]) (by rw [hk0]) ?_
    obtain ⟨f, b, l, hCT⟩ := ct_of hw hkS
    have hcb := hCT.2.2.1
    have hcl2 := hCT.2.2.2.2.2.2.2.2.1
    refine x_aload_n dX10_reverse_11 0 rfl ?_
    refine x_iload_n dX10_reverse_12 1 rfl ?_
    refine x_callV (K := jX10_firstOf) [.int (nI k)] lk_X10_126 ⟨⟨rfl, rfl⟩, Nat.le_of_ble_eq_true rfl, Nat.le_of_ble_eq_true rfl⟩ rfl rfl (by have := mX10_firstOf (g := g) V N hN (by rw [hm50]; exact hN8) (nI (k)); rw [hm50, hCT.1] at this; exact this) rfl (Nat.le_of_ble_eq_true rfl) rfl dX10_reverse_13 (kpI ?_)
    refine x_istore_n 2 [(2, .int (nI f)), (0, .ref (g.2.1 49)), (1, .int (nI k))] dX10_reverse_16 rfl (by decide) rfl ?_
    refine x_aload_n dX10_reverse_17 1 rfl ?_
    refine x_iload_n dX10_reverse_18 2 rfl ?_
    refine x_iconst (v := 1) dX10_reverse_19 (by decide) ?_
    refine x_iadd dX10_reverse_20 ?_
    have q2 : ((nI k) + 1 : Int32) = nI (k + 1) := nadd (rfl) (rfl)
    refine YY.S (st' := [.int (nI (k + 1)), .ref (g.2.1 49)]) (by rw [q2]) ?_
    refine x_callV (K := jX10_firstOf) [.int (nI (k + 1))] lk_X10_126 ⟨⟨rfl, rfl⟩, Nat.le_of_ble_eq_true rfl, Nat.le_of_ble_eq_true rfl⟩ rfl rfl (by have := mX10_firstOf (g := g) V N hN (by rw [hm50]; exact hN8) (nI (k + 1)); rw [hm50, hCT.2.1] at this; exact this) rfl (Nat.le_of_ble_eq_true rfl) rfl dX10_reverse_21 (kpI ?_)
    refine x_istore_n 3 [(3, .int (nI b)), (2, .int (nI f)), (0, .ref (g.2.1 49)), (1, .int (nI k))] dX10_reverse_24 rfl (by decide) rfl ?_
    refine x_aload_n dX10_reverse_25 2 rfl ?_
    refine x_iload_n dX10_reverse_26 0 rfl ?_
    refine x_iconst (v := 1) dX10_reverse_27 (by decide) ?_
    refine x_isub dX10_reverse_28 ?_
    have q3 : ((nI b) - 1 : Int32) = nI (b - 1) := nsub (by omega) (rfl) (rfl)
    refine YY.S (st' := [.int (nI (b - 1)), .ref (g.2.1 49)]) (by rw [q3]) ?_
    refine x_callV (K := jX10_kind) [.int (nI (b - 1))] lk_X10_93 ⟨⟨rfl, rfl⟩, Nat.le_of_ble_eq_true rfl, Nat.le_of_ble_eq_true rfl⟩ rfl rfl (by have := mX10_kind (g := g) V (b - 1) (by omega); rw [hmV] at this; exact this) rfl (Nat.le_of_ble_eq_true rfl) rfl dX10_reverse_29 (kpI ?_)
    by_cases h4 : m ((b - 1) * 7) = 4
    · -- end 0
      obtain ⟨el, eb⟩ := hCT.2.2.2.2.2.2.1 h4
      refine x_topi (y := 4) h4 ?_
      refine x_iconst (v := 4) dX10_reverse_32 (by decide) ?_
      refine x_icmp_ne 40 dX10_reverse_33 (by decide) (fun c4 => by exfalso; revert c4; decide) (fun c4 => ?_)
      refine x_iconst (v := 1) dX10_reverse_36 (by decide) ?_
      refine x_goto 41 dX10_reverse_37 (by decide) ?_
      refine x_istore 4 [(4, .int 1), (3, .int (nI b)), (2, .int (nI f)), (0, .ref (g.2.1 49)), (1, .int (nI k))] dX10_reverse_41 (by decide) rfl ?_
      refine x_iload dX10_reverse_43 0 rfl ?_
      refine x_if_eq 54 dX10_reverse_45 (by decide) (fun c5 => by exfalso; revert c5; decide) (fun c5 => ?_)
      refine x_iload_n dX10_reverse_48 1 rfl ?_
      refine x_iconst (v := 2) dX10_reverse_49 (by decide) ?_
      refine x_isub dX10_reverse_50 ?_
      refine x_goto 57 dX10_reverse_51 (by decide) ?_
      refine x_topi (y := nI l) (by rw [el]; exact nsub (a := b) (b := 2) (by omega) rfl rfl) ?_
      refine x_istore 5 [(5, .int (nI l)), (4, .int 1), (3, .int (nI b)), (2, .int (nI f)), (0, .ref (g.2.1 49)), (1, .int (nI k))] dX10_reverse_57 (by decide) rfl ?_
      refine x_aload_n dX10_reverse_59 4 rfl ?_
      refine x_iconst (v := 0) dX10_reverse_60 (by decide) ?_
      refine x_iconst (v := 0) dX10_reverse_61 (by decide) ?_
      refine x_aload_n dX10_reverse_62 4 rfl ?_
      refine x_iload dX10_reverse_63 0 rfl ?_
      refine x_callV (K := jX10_endX) [.int (nI l)] lk_X10_114 ⟨⟨rfl, rfl⟩, Nat.le_of_ble_eq_true rfl, Nat.le_of_ble_eq_true rfl⟩ rfl rfl (by have := mX10_endX (g := g) V N hN (by rw [hMV]; exact hN8) (by rw [hMV]; exact hw) l (by omega); rw [hMV] at this; exact this) rfl (Nat.le_of_ble_eq_true rfl) rfl dX10_reverse_65 (kpI ?_)
      refine x_aload_n dX10_reverse_68 4 rfl ?_
      refine x_iload dX10_reverse_69 0 rfl ?_
      refine x_callV (K := jX10_endY) [.int (nI l)] lk_X10_117 ⟨⟨rfl, rfl⟩, Nat.le_of_ble_eq_true rfl, Nat.le_of_ble_eq_true rfl⟩ rfl rfl (by have := mX10_endY (g := g) V N hN (by rw [hMV]; exact hN8) (by rw [hMV]; exact hw) l (by omega); rw [hMV] at this; exact this) rfl (Nat.le_of_ble_eq_true rfl) rfl dX10_reverse_71 (kpI ?_)
      have q6 : (0 : Int32) = nI 0 := rfl
      refine YY.S (st' := [.int (ey7 m l), .int (ex7 m l), .int 0, .int (nI 0), .ref (g.2.1 49)]) (by rw [q6]) ?_
      refine x_callV (K := jX10_setTurned) [.int (nI 0), .int 0, .int (ex7 m l), .int (ey7 m l)] lk_X10_129 ⟨⟨rfl, rfl⟩, Nat.le_of_ble_eq_true rfl, Nat.le_of_ble_eq_true rfl⟩ rfl rfl (mX10_setTurned V 0 (by omega) 0 (ex7 m l) (ey7 m l)) rfl (Nat.le_of_ble_eq_true rfl) rfl dX10_reverse_74 (keV fun U7 hU8 => ?_)
      have hf1 := (fr58.refl V).trans hU8.1
      have hMU7 : U7 50 = m := by funext i; rw [hf1 50 i (by decide), hm50]
      have hmU7 : ∀ i, U7 50 i = m i := fun i => by rw [hMU7]
      refine x_iconst (v := 1) dX10_reverse_77 (by decide) ?_
      refine x_istore 6 [(6, .int 1), (5, .int (nI l)), (4, .int 1), (3, .int (nI b)), (2, .int (nI f)), (0, .ref (g.2.1 49)), (1, .int (nI k))] dX10_reverse_78 (by decide) rfl ?_
      refine x_iload dX10_reverse_80 1 rfl ?_
      refine x_istore 7 [(7, .int (nI l)), (6, .int 1), (5, .int (nI l)), (4, .int 1), (3, .int (nI b)), (2, .int (nI f)), (0, .ref (g.2.1 49)), (1, .int (nI k))] dX10_reverse_82 (by decide) rfl ?_
      have lp9 : ∀ (fu : Nat) (c : Nat) (U : vM), (f ≤ c ∧ c ≤ l) → (∀ t, t < l - c + 1 → ∀ p, p < 7 → U 58 (7 * t + p) = rvR m l t p) → (fr58 V U) → (c) < fu → XX g jX10_reverse Q U 84 [(7, .int (nI c)), (6, .int (nI (l - c + 1))), (5, .int (nI l)), (4, .int 1), (3, .int (nI b)), (2, .int (nI f)), (0, .ref (g.2.1 49)), (1, .int (nI k))] [] := by
        intro fu
        induction fu with
        | zero => intro _ _ _ _ _ hmz; exact absurd hmz (Nat.not_lt_zero _)
        | succ fu ih =>
          intro c U hc hT hfU hmz
          have hMU : U 50 = m := by funext i; rw [hfU 50 i (by decide), hm50]
          have hmU : ∀ i, U 50 i = m i := fun i => by rw [hMU]
          refine x_iload dX10_reverse_84 0 rfl ?_
          refine x_iload_n dX10_reverse_86 5 rfl ?_
          refine x_icmp_le 269 dX10_reverse_87 (by decide) (fun c10 => ?_) (fun c10 => ?_)
          · have c10n : c ≤ f := (nl_le (a := c) (b := f) (rfl) (rfl) (by omega) (by omega)).mp c10
            refine x_iconst (v := 0) dX10_reverse_269 (by decide) ?_
            refine x_istore 7 [(7, .int 0), (6, .int (nI (l - c + 1))), (5, .int (nI l)), (4, .int 1), (3, .int (nI b)), (2, .int (nI f)), (0, .ref (g.2.1 49)), (1, .int (nI k))] dX10_reverse_270 (by decide) rfl ?_
            have lp11 : ∀ (fu1 : Nat) (i : Nat) (U3 : vM), (i ≤ 7 * (l - c + 1)) → (∀ j, U3 50 j = if 7 * f ≤ j ∧ j < 7 * f + i then rvR m l (j / 7 - f) (j % 7) else m j) → (∀ q j, q ≠ 50 → U3 q j = U q j) → (7 * (l - c + 1) - i) < fu1 → XX g jX10_reverse Q U3 272 [(7, .int (nI i)), (6, .int (nI (l - c + 1))), (5, .int (nI l)), (4, .int 1), (3, .int (nI b)), (2, .int (nI f)), (0, .ref (g.2.1 49)), (1, .int (nI k))] [] := by
              intro fu1
              induction fu1 with
              | zero => intro _ _ _ _ _ hmz; exact absurd hmz (Nat.not_lt_zero _)
              | succ fu1 ih1 =>
                intro i U3 hi hC5 hf3 hmz
                refine x_iload dX10_reverse_272 0 rfl ?_
                refine x_bipush (v := 7) dX10_reverse_274 (by decide) ?_
                refine x_iload dX10_reverse_276 1 rfl ?_
                refine x_imul dX10_reverse_278 ?_
                refine x_icmp_ge 307 dX10_reverse_279 (by decide) (fun c12 => ?_) (fun c12 => ?_)
                · have c12n : 7 * (l - c + 1) ≤ i := (nl_le (a := 7 * (l - c + 1)) (b := i) (nmul (rfl) (rfl)) (rfl) (by omega) (by omega)).mp c12
                  refine x_iload_n dX10_reverse_307 4 rfl ?_
                  refine x_iload_n dX10_reverse_308 5 rfl ?_
                  refine x_isub dX10_reverse_309 ?_
                  refine x_iret dX10_reverse_310 rfl ?_
                  rw [hQ]
                  have hz := rv_k (c := cc) hN hk0 hkS hCT
                  have he : U3 50 = rvF m f l := by
                    funext j
                    rw [hC5]
                    unfold rvF
                    by_cases q : f * 7 ≤ j ∧ j < (l + 1) * 7
                    · rw [if_pos (by omega), if_pos q]
                    · rw [if_neg (by omega), if_neg q]
                  rw [hz.1, hz.2]
                  refine ⟨_, rfl, by rw [nsub (a := b) (b := f) (by omega) rfl rfl], ⟨hCT.wf hw, he, ?_, ?_⟩, fun q i p1 p2 _ => (hf3 q i p2).trans (hfU q i (by omega))⟩
                  · unfold rvF; rw [if_neg (by omega)]; exact hN8
                  · unfold rvF; rw [if_neg (by omega)]; exact ht9
                · have c12n : i < 7 * (l - c + 1) := Nat.not_le.mp (fun q => c12 ((nl_le (a := 7 * (l - c + 1)) (b := i) (nmul (rfl) (rfl)) (rfl) (by omega) (by omega)).mpr q))
                  refine x_aload_n dX10_reverse_282 6 rfl ?_
                  refine x_getR fl_X10_9 rfl rfl dX10_reverse_283 ?_
                  refine x_bipush (v := 7) dX10_reverse_286 (by decide) ?_
                  refine x_iload_n dX10_reverse_288 5 rfl ?_
                  refine x_imul dX10_reverse_289 ?_
                  refine x_iload dX10_reverse_290 0 rfl ?_
                  refine x_iadd dX10_reverse_292 ?_
                  refine x_aload_n dX10_reverse_293 6 rfl ?_
                  refine x_getR fl_X10_35 rfl rfl dX10_reverse_294 ?_
                  refine x_iload dX10_reverse_297 0 rfl ?_
                  have b13 : vp_in (nI i) 168 := by exact vp_in_nI (by omega) (by decide)
                  refine x_iald rfl b13 dX10_reverse_299 ?_
                  refine x_topi (y := U3 58 i) (by rw [nI_clamp (by omega)]) ?_
                  refine x_topi ((hf3 58 i (by decide)).trans (rv_rd hT (by omega))) ?_
                  have q14 : ((7 * (nI f)) + (nI i) : Int32) = nI ((7 * f) + i) := nadd (nmul (rfl) (rfl)) (rfl)
                  refine YY.S (st' := [.int (rvR m l (i / 7) (i % 7)), .int (nI ((7 * f) + i)), .ref (g.2.1 50)]) (by rw [q14]) ?_
                  have b15 : vp_in (nI ((7 * f) + i)) 170 := by exact vp_in_nI (by omega) (by decide)
                  refine x_iast rfl b15 dX10_reverse_300 ?_
                  refine YY.V (V' := uM U3 50 ((7 * f) + i) (rvR m l (i / 7) (i % 7))) (by rw [nI_clamp (by omega)]) ?_
                  obtain ⟨U16, eU16⟩ : ∃ v_v : vM, v_v = uM U3 50 ((7 * f) + i) (rvR m l (i / 7) (i % 7)) := ⟨_, rfl⟩
                  refine YY.V eU16.symm ?_
                  refine x_iinc 7 (v := (nI i) + 1) 0 [(7, .int ((nI i) + 1)), (6, .int (nI (l - c + 1))), (5, .int (nI l)), (4, .int 1), (3, .int (nI b)), (2, .int (nI f)), (0, .ref (g.2.1 49)), (1, .int (nI k))] dX10_reverse_301 rfl (by rfl) (by decide) rfl ?_
                  refine x_goto 272 dX10_reverse_304 (by decide) ?_
                  refine YY.L (lv' := [(7, .int (nI (i + 1))), (6, .int (nI (l - c + 1))), (5, .int (nI l)), (4, .int 1), (3, .int (nI b)), (2, .int (nI f)), (0, .ref (g.2.1 49)), (1, .int (nI k))]) (by rw [nI_1] <;> rfl) ?_
                  exact ih1 (i + 1) U16 (by omega) (by intro j; rw [eU16, uM_at]; by_cases q : j = 7 * f + i; (rw [if_pos ⟨rfl, q⟩, if_pos (by omega), q, show (7 * f + i) / 7 - f = i / 7 by omega, show (7 * f + i) % 7 = i % 7 by omega]); (rw [if_neg (fun z => q z.2), hC5]; by_cases z : 7 * f ≤ j ∧ j < 7 * f + i; (rw [if_pos z, if_pos (by omega)]); (rw [if_neg z, if_neg (by omega)]))) (by intro q j h; rw [eU16, uM_na h]; exact hf3 q j h) (by omega)
            refine YY.L (lv' := [(7, .int (nI 0)), (6, .int (nI (l - c + 1))), (5, .int (nI l)), (4, .int 1), (3, .int (nI b)), (2, .int (nI f)), (0, .ref (g.2.1 49)), (1, .int (nI k))]) (by rfl) ?_
            exact lp11 _ 0 U (by omega) (by intro j; rw [if_neg (by omega)]; exact hmU j) (by exact fun _ _ _ => rfl) (Nat.lt_succ_self _)
          · have c10n : f < c := Nat.not_le.mp (fun q => c10 ((nl_le (a := c) (b := f) (rfl) (rfl) (by omega) (by omega)).mpr q))
            refine x_aload_n dX10_reverse_90 6 rfl ?_
            refine x_iload dX10_reverse_91 1 rfl ?_
            refine x_aload_n dX10_reverse_93 6 rfl ?_
            refine x_iload dX10_reverse_94 0 rfl ?_
            refine x_callV (K := jX10_kind) [.int (nI c)] lk_X10_93 ⟨⟨rfl, rfl⟩, Nat.le_of_ble_eq_true rfl, Nat.le_of_ble_eq_true rfl⟩ rfl rfl (by have := mX10_kind (g := g) U c (by omega); rw [hmU] at this; exact this) rfl (Nat.le_of_ble_eq_true rfl) rfl dX10_reverse_96 (kpI ?_)
            refine x_aload_n dX10_reverse_99 6 rfl ?_
            refine x_iload dX10_reverse_100 0 rfl ?_
            refine x_iconst (v := 1) dX10_reverse_102 (by decide) ?_
            refine x_isub dX10_reverse_103 ?_
            have q17 : ((nI c) - 1 : Int32) = nI (c - 1) := nsub (by omega) (rfl) (rfl)
            refine YY.S (st' := [.int (nI (c - 1)), .ref (g.2.1 49), .int (m (c * 7)), .int (nI (l - c + 1)), .ref (g.2.1 49)]) (by rw [q17]) ?_
            refine x_callV (K := jX10_endX) [.int (nI (c - 1))] lk_X10_114 ⟨⟨rfl, rfl⟩, Nat.le_of_ble_eq_true rfl, Nat.le_of_ble_eq_true rfl⟩ rfl rfl (by have := mX10_endX (g := g) U N hN (by rw [hMU]; exact hN8) (by rw [hMU]; exact hw) (c - 1) (by omega); rw [hMU] at this; exact this) rfl (Nat.le_of_ble_eq_true rfl) rfl dX10_reverse_104 (kpI ?_)
            refine x_aload_n dX10_reverse_107 6 rfl ?_
            refine x_iload dX10_reverse_108 0 rfl ?_
            refine x_iconst (v := 1) dX10_reverse_110 (by decide) ?_
            refine x_isub dX10_reverse_111 ?_
            have q18 : ((nI c) - 1 : Int32) = nI (c - 1) := nsub (by omega) (rfl) (rfl)
            refine YY.S (st' := [.int (nI (c - 1)), .ref (g.2.1 49), .int (ex7 m (c - 1)), .int (m (c * 7)), .int (nI (l - c + 1)), .ref (g.2.1 49)]) (by rw [q18]) ?_
            refine x_callV (K := jX10_endY) [.int (nI (c - 1))] lk_X10_117 ⟨⟨rfl, rfl⟩, Nat.le_of_ble_eq_true rfl, Nat.le_of_ble_eq_true rfl⟩ rfl rfl (by have := mX10_endY (g := g) U N hN (by rw [hMU]; exact hN8) (by rw [hMU]; exact hw) (c - 1) (by omega); rw [hMU] at this; exact this) rfl (Nat.le_of_ble_eq_true rfl) rfl dX10_reverse_112 (kpI ?_)
            refine x_callV (K := jX10_setTurned) [.int (nI (l - c + 1)), .int (m (c * 7)), .int (ex7 m (c - 1)), .int (ey7 m (c - 1))] lk_X10_129 ⟨⟨rfl, rfl⟩, Nat.le_of_ble_eq_true rfl, Nat.le_of_ble_eq_true rfl⟩ rfl rfl (mX10_setTurned U (l - c + 1) (by omega) (m (c * 7)) (ex7 m (c - 1)) (ey7 m (c - 1))) rfl (Nat.le_of_ble_eq_true rfl) rfl dX10_reverse_115 (keV fun U19 hU20 => ?_)
            have hf1 := hfU.trans hU20.1
            have hMU19 : U19 50 = m := by funext i; rw [hf1 50 i (by decide), hm50]
            have hmU19 : ∀ i, U19 50 i = m i := fun i => by rw [hMU19]
            refine x_bipush (v := 7) dX10_reverse_118 (by decide) ?_
            refine x_iload dX10_reverse_120 0 rfl ?_
            refine x_imul dX10_reverse_122 ?_
            refine x_istore 8 [(8, .int (7 * (nI c))), (7, .int (nI c)), (6, .int (nI (l - c + 1))), (5, .int (nI l)), (4, .int 1), (3, .int (nI b)), (2, .int (nI f)), (0, .ref (g.2.1 49)), (1, .int (nI k))] dX10_reverse_123 (by decide) rfl ?_
            refine x_bipush (v := 7) dX10_reverse_125 (by decide) ?_
            refine x_iload dX10_reverse_127 2 rfl ?_
            refine x_imul dX10_reverse_129 ?_
            refine x_istore 9 [(9, .int (7 * (nI (l - c + 1)))), (8, .int (7 * (nI c))), (7, .int (nI c)), (6, .int (nI (l - c + 1))), (5, .int (nI l)), (4, .int 1), (3, .int (nI b)), (2, .int (nI f)), (0, .ref (g.2.1 49)), (1, .int (nI k))] dX10_reverse_130 (by decide) rfl ?_
            refine x_aload_n dX10_reverse_132 8 rfl ?_
            refine x_iload dX10_reverse_133 2 rfl ?_
            refine x_callV (K := jX10_kind) [.int (nI c)] lk_X10_93 ⟨⟨rfl, rfl⟩, Nat.le_of_ble_eq_true rfl, Nat.le_of_ble_eq_true rfl⟩ rfl rfl (by have := mX10_kind (g := g) U19 c (by omega); rw [hmU19] at this; exact this) rfl (Nat.le_of_ble_eq_true rfl) rfl dX10_reverse_135 (kpI ?_)
            refine x_iconst (v := 2) dX10_reverse_138 (by decide) ?_
            refine x_icmp_ne 178 dX10_reverse_139 (by decide) (fun c21 => ?_) (fun c21 => ?_)
            · refine x_aload_n dX10_reverse_178 8 rfl ?_
              refine x_iload dX10_reverse_179 2 rfl ?_
              refine x_callV (K := jX10_kind) [.int (nI c)] lk_X10_93 ⟨⟨rfl, rfl⟩, Nat.le_of_ble_eq_true rfl, Nat.le_of_ble_eq_true rfl⟩ rfl rfl (by have := mX10_kind (g := g) U19 c (by omega); rw [hmU19] at this; exact this) rfl (Nat.le_of_ble_eq_true rfl) rfl dX10_reverse_181 (kpI ?_)
              refine x_iconst (v := 3) dX10_reverse_184 (by decide) ?_
              refine x_icmp_ne 260 dX10_reverse_185 (by decide) (fun c22 => ?_) (fun c22 => ?_)
              · refine x_iinc 6 (v := (nI (l - c + 1)) + 1) 3 [(6, .int ((nI (l - c + 1)) + 1)), (9, .int (7 * (nI (l - c + 1)))), (8, .int (7 * (nI c))), (7, .int (nI c)), (5, .int (nI l)), (4, .int 1), (3, .int (nI b)), (2, .int (nI f)), (0, .ref (g.2.1 49)), (1, .int (nI k))] dX10_reverse_260 rfl (by rfl) (by decide) rfl ?_
                refine x_iinc 7 (v := (nI c) + (-1)) 3 [(7, .int ((nI c) + (-1))), (6, .int ((nI (l - c + 1)) + 1)), (9, .int (7 * (nI (l - c + 1)))), (8, .int (7 * (nI c))), (5, .int (nI l)), (4, .int 1), (3, .int (nI b)), (2, .int (nI f)), (0, .ref (g.2.1 49)), (1, .int (nI k))] dX10_reverse_263 rfl (by rfl) (by decide) rfl ?_
                refine x_goto 84 dX10_reverse_266 (by decide) ?_
                refine x_lv [0, 1, 4, 5, 6, 7, 8, 9] rfl ?_
                refine YY.L (lv' := [(7, .int (nI (c - 1))), (6, .int (nI (l - (c - 1) + 1))), (5, .int (nI l)), (4, .int 1), (3, .int (nI b)), (2, .int (nI f)), (0, .ref (g.2.1 49)), (1, .int (nI k))]) (by rw [nI_m1 (by omega), nI_1, show l - c + 1 + 1 = l - (c - 1) + 1 by omega] <;> rfl) ?_
                exact ih (c - 1) U19 (by omega) (by intro t ht; exact rv_up rfl (by omega) hT hU20 ⟨fun z => absurd z (by assumption), fun z => absurd z (by assumption), fun _ _ => rfl⟩ t (by omega)) (by exact hf1) (by omega)
              · refine x_aload_n dX10_reverse_188 8 rfl ?_
                refine x_getR fl_X10_35 rfl rfl dX10_reverse_189 ?_
                refine x_iload dX10_reverse_192 0 rfl ?_
                refine x_iconst (v := 1) dX10_reverse_194 (by decide) ?_
                refine x_iadd dX10_reverse_195 ?_
                refine x_aload_n dX10_reverse_196 8 rfl ?_
                refine x_getR fl_X10_9 rfl rfl dX10_reverse_197 ?_
                refine x_iload dX10_reverse_200 1 rfl ?_
                refine x_iconst (v := 3) dX10_reverse_202 (by decide) ?_
                refine x_iadd dX10_reverse_203 ?_
                have q23 : ((7 * (nI c)) + 3 : Int32) = nI ((7 * c) + 3) := nadd (nmul (rfl) (rfl)) (rfl)
                refine YY.S (st' := [.int (nI ((7 * c) + 3)), .ref (g.2.1 50), .int ((7 * (nI (l - c + 1))) + 1), .ref (g.2.1 58)]) (by rw [q23]) ?_
                have b24 : vp_in (nI ((7 * c) + 3)) 170 := by exact vp_in_nI (by omega) (by decide)
                refine x_iald rfl b24 dX10_reverse_204 ?_
                refine x_topi (y := U19 50 ((7 * c) + 3)) (by rw [nI_clamp (by omega)]) ?_
                refine x_topi (hmU19 _) ?_
                have q25 : ((7 * (nI (l - c + 1))) + 1 : Int32) = nI ((7 * (l - c + 1)) + 1) := nadd (nmul (rfl) (rfl)) (rfl)
                refine YY.S (st' := [.int (m (7 * c + 3)), .int (nI ((7 * (l - c + 1)) + 1)), .ref (g.2.1 58)]) (by rw [q25]) ?_
                have b26 : vp_in (nI ((7 * (l - c + 1)) + 1)) 168 := by exact vp_in_nI (by omega) (by decide)
                refine x_iast rfl b26 dX10_reverse_205 ?_
                refine YY.V (V' := uM U19 58 ((7 * (l - c + 1)) + 1) (m (7 * c + 3))) (by rw [nI_clamp (by omega)]) ?_
                obtain ⟨U27, eU27⟩ : ∃ v_v : vM, v_v = uM U19 58 ((7 * (l - c + 1)) + 1) (m (7 * c + 3)) := ⟨_, rfl⟩
                refine YY.V eU27.symm ?_
                refine x_aload_n dX10_reverse_206 8 rfl ?_
                refine x_getR fl_X10_35 rfl rfl dX10_reverse_207 ?_
                refine x_iload dX10_reverse_210 0 rfl ?_
                refine x_iconst (v := 2) dX10_reverse_212 (by decide) ?_
                refine x_iadd dX10_reverse_213 ?_
                refine x_aload_n dX10_reverse_214 8 rfl ?_
                refine x_getR fl_X10_9 rfl rfl dX10_reverse_215 ?_
                refine x_iload dX10_reverse_218 1 rfl ?_
                refine x_iconst (v := 4) dX10_reverse_220 (by decide) ?_
                refine x_iadd dX10_reverse_221 ?_
                have q28 : ((7 * (nI c)) + 4 : Int32) = nI ((7 * c) + 4) := nadd (nmul (rfl) (rfl)) (rfl)
                refine YY.S (st' := [.int (nI ((7 * c) + 4)), .ref (g.2.1 50), .int ((7 * (nI (l - c + 1))) + 2), .ref (g.2.1 58)]) (by rw [q28]) ?_
                have b29 : vp_in (nI ((7 * c) + 4)) 170 := by exact vp_in_nI (by omega) (by decide)
                refine x_iald rfl b29 dX10_reverse_222 ?_
                refine x_topi (y := U27 50 ((7 * c) + 4)) (by rw [nI_clamp (by omega)]) ?_
                refine x_topi (y := U19 50 ((7 * c) + 4)) (by rw [eU27, uM_na (by decide)]) ?_
                refine x_topi (hmU19 _) ?_
                have q30 : ((7 * (nI (l - c + 1))) + 2 : Int32) = nI ((7 * (l - c + 1)) + 2) := nadd (nmul (rfl) (rfl)) (rfl)
                refine YY.S (st' := [.int (m (7 * c + 4)), .int (nI ((7 * (l - c + 1)) + 2)), .ref (g.2.1 58)]) (by rw [q30]) ?_
                have b31 : vp_in (nI ((7 * (l - c + 1)) + 2)) 168 := by exact vp_in_nI (by omega) (by decide)
                refine x_iast rfl b31 dX10_reverse_223 ?_
                refine YY.V (V' := uM U27 58 ((7 * (l - c + 1)) + 2) (m (7 * c + 4))) (by rw [nI_clamp (by omega)]) ?_
                obtain ⟨U32, eU32⟩ : ∃ v_v : vM, v_v = uM U27 58 ((7 * (l - c + 1)) + 2) (m (7 * c + 4)) := ⟨_, rfl⟩
                refine YY.V eU32.symm ?_
                refine x_aload_n dX10_reverse_224 8 rfl ?_
                refine x_getR fl_X10_35 rfl rfl dX10_reverse_225 ?_
                refine x_iload dX10_reverse_228 0 rfl ?_
                refine x_iconst (v := 3) dX10_reverse_230 (by decide) ?_
                refine x_iadd dX10_reverse_231 ?_
                refine x_aload_n dX10_reverse_232 8 rfl ?_
                refine x_getR fl_X10_9 rfl rfl dX10_reverse_233 ?_
                refine x_iload dX10_reverse_236 1 rfl ?_
                refine x_iconst (v := 1) dX10_reverse_238 (by decide) ?_
                refine x_iadd dX10_reverse_239 ?_
                have q33 : ((7 * (nI c)) + 1 : Int32) = nI ((7 * c) + 1) := nadd (nmul (rfl) (rfl)) (rfl)
                refine YY.S (st' := [.int (nI ((7 * c) + 1)), .ref (g.2.1 50), .int ((7 * (nI (l - c + 1))) + 3), .ref (g.2.1 58)]) (by rw [q33]) ?_
                have b34 : vp_in (nI ((7 * c) + 1)) 170 := by exact vp_in_nI (by omega) (by decide)
                refine x_iald rfl b34 dX10_reverse_240 ?_
                refine x_topi (y := U32 50 ((7 * c) + 1)) (by rw [nI_clamp (by omega)]) ?_
                refine x_topi (y := U19 50 ((7 * c) + 1)) (by rw [eU32, uM_na (by decide), eU27, uM_na (by decide)]) ?_
                refine x_topi (hmU19 _) ?_
                have q35 : ((7 * (nI (l - c + 1))) + 3 : Int32) = nI ((7 * (l - c + 1)) + 3) := nadd (nmul (rfl) (rfl)) (rfl)
                refine YY.S (st' := [.int (m (7 * c + 1)), .int (nI ((7 * (l - c + 1)) + 3)), .ref (g.2.1 58)]) (by rw [q35]) ?_
                have b36 : vp_in (nI ((7 * (l - c + 1)) + 3)) 168 := by exact vp_in_nI (by omega) (by decide)
                refine x_iast rfl b36 dX10_reverse_241 ?_
                refine YY.V (V' := uM U32 58 ((7 * (l - c + 1)) + 3) (m (7 * c + 1))) (by rw [nI_clamp (by omega)]) ?_
                obtain ⟨U37, eU37⟩ : ∃ v_v : vM, v_v = uM U32 58 ((7 * (l - c + 1)) + 3) (m (7 * c + 1)) := ⟨_, rfl⟩
                refine YY.V eU37.symm ?_
                refine x_aload_n dX10_reverse_242 8 rfl ?_
                refine x_getR fl_X10_35 rfl rfl dX10_reverse_243 ?_
                refine x_iload dX10_reverse_246 0 rfl ?_
                refine x_iconst (v := 4) dX10_reverse_248 (by decide) ?_
                refine x_iadd dX10_reverse_249 ?_
                refine x_aload_n dX10_reverse_250 8 rfl ?_
                refine x_getR fl_X10_9 rfl rfl dX10_reverse_251 ?_
                refine x_iload dX10_reverse_254 1 rfl ?_
                refine x_iconst (v := 2) dX10_reverse_256 (by decide) ?_
                refine x_iadd dX10_reverse_257 ?_
                have q38 : ((7 * (nI c)) + 2 : Int32) = nI ((7 * c) + 2) := nadd (nmul (rfl) (rfl)) (rfl)
                refine YY.S (st' := [.int (nI ((7 * c) + 2)), .ref (g.2.1 50), .int ((7 * (nI (l - c + 1))) + 4), .ref (g.2.1 58)]) (by rw [q38]) ?_
                have b39 : vp_in (nI ((7 * c) + 2)) 170 := by exact vp_in_nI (by omega) (by decide)
                refine x_iald rfl b39 dX10_reverse_258 ?_
                refine x_topi (y := U37 50 ((7 * c) + 2)) (by rw [nI_clamp (by omega)]) ?_
                refine x_topi (y := U19 50 ((7 * c) + 2)) (by rw [eU37, uM_na (by decide), eU32, uM_na (by decide), eU27, uM_na (by decide)]) ?_
                refine x_topi (hmU19 _) ?_
                have q40 : ((7 * (nI (l - c + 1))) + 4 : Int32) = nI ((7 * (l - c + 1)) + 4) := nadd (nmul (rfl) (rfl)) (rfl)
                refine YY.S (st' := [.int (m (7 * c + 2)), .int (nI ((7 * (l - c + 1)) + 4)), .ref (g.2.1 58)]) (by rw [q40]) ?_
                have b41 : vp_in (nI ((7 * (l - c + 1)) + 4)) 168 := by exact vp_in_nI (by omega) (by decide)
                refine x_iast rfl b41 dX10_reverse_259 ?_
                refine YY.V (V' := uM U37 58 ((7 * (l - c + 1)) + 4) (m (7 * c + 2))) (by rw [nI_clamp (by omega)]) ?_
                obtain ⟨U42, eU42⟩ : ∃ v_v : vM, v_v = uM U37 58 ((7 * (l - c + 1)) + 4) (m (7 * c + 2)) := ⟨_, rfl⟩
                refine YY.V eU42.symm ?_
                refine x_iinc 6 (v := (nI (l - c + 1)) + 1) 3 [(6, .int ((nI (l - c + 1)) + 1)), (9, .int (7 * (nI (l - c + 1)))), (8, .int (7 * (nI c))), (7, .int (nI c)), (5, .int (nI l)), (4, .int 1), (3, .int (nI b)), (2, .int (nI f)), (0, .ref (g.2.1 49)), (1, .int (nI k))] dX10_reverse_260 rfl (by rfl) (by decide) rfl ?_
                refine x_iinc 7 (v := (nI c) + (-1)) 3 [(7, .int ((nI c) + (-1))), (6, .int ((nI (l - c + 1)) + 1)), (9, .int (7 * (nI (l - c + 1)))), (8, .int (7 * (nI c))), (5, .int (nI l)), (4, .int 1), (3, .int (nI b)), (2, .int (nI f)), (0, .ref (g.2.1 49)), (1, .int (nI k))] dX10_reverse_263 rfl (by rfl) (by decide) rfl ?_
                refine x_goto 84 dX10_reverse_266 (by decide) ?_
                refine x_lv [0, 1, 4, 5, 6, 7, 8, 9] rfl ?_
                refine YY.L (lv' := [(7, .int (nI (c - 1))), (6, .int (nI (l - (c - 1) + 1))), (5, .int (nI l)), (4, .int 1), (3, .int (nI b)), (2, .int (nI f)), (0, .ref (g.2.1 49)), (1, .int (nI k))]) (by rw [nI_m1 (by omega), nI_1, show l - c + 1 + 1 = l - (c - 1) + 1 by omega] <;> rfl) ?_
                exact ih (c - 1) U42 (by omega) (by intro t ht; exact rv_up rfl (by omega) hT hU20 ⟨fun z => absurd ((show m (c * 7) = 3 by assumption).symm.trans z) (by decide), fun _ => by rw [eU42, eU37, eU32, eU27], fun _ z => absurd (by assumption) z⟩ t (by omega)) (by exact ((((hf1).st eU27).st eU32).st eU37).st eU42) (by omega)
            · refine x_aload_n dX10_reverse_142 8 rfl ?_
              refine x_getR fl_X10_35 rfl rfl dX10_reverse_143 ?_
              refine x_iload dX10_reverse_146 0 rfl ?_
              refine x_iconst (v := 1) dX10_reverse_148 (by decide) ?_
              refine x_iadd dX10_reverse_149 ?_
              refine x_aload_n dX10_reverse_150 8 rfl ?_
              refine x_getR fl_X10_9 rfl rfl dX10_reverse_151 ?_
              refine x_iload dX10_reverse_154 1 rfl ?_
              refine x_iconst (v := 1) dX10_reverse_156 (by decide) ?_
              refine x_iadd dX10_reverse_157 ?_
              have q43 : ((7 * (nI c)) + 1 : Int32) = nI ((7 * c) + 1) := nadd (nmul (rfl) (rfl)) (rfl)
              refine YY.S (st' := [.int (nI ((7 * c) + 1)), .ref (g.2.1 50), .int ((7 * (nI (l - c + 1))) + 1), .ref (g.2.1 58)]) (by rw [q43]) ?_
              have b44 : vp_in (nI ((7 * c) + 1)) 170 := by exact vp_in_nI (by omega) (by decide)
              refine x_iald rfl b44 dX10_reverse_158 ?_
              refine x_topi (y := U19 50 ((7 * c) + 1)) (by rw [nI_clamp (by omega)]) ?_
              refine x_topi (hmU19 _) ?_
              have q45 : ((7 * (nI (l - c + 1))) + 1 : Int32) = nI ((7 * (l - c + 1)) + 1) := nadd (nmul (rfl) (rfl)) (rfl)
              refine YY.S (st' := [.int (m (7 * c + 1)), .int (nI ((7 * (l - c + 1)) + 1)), .ref (g.2.1 58)]) (by rw [q45]) ?_
              have b46 : vp_in (nI ((7 * (l - c + 1)) + 1)) 168 := by exact vp_in_nI (by omega) (by decide)
              refine x_iast rfl b46 dX10_reverse_159 ?_
              refine YY.V (V' := uM U19 58 ((7 * (l - c + 1)) + 1) (m (7 * c + 1))) (by rw [nI_clamp (by omega)]) ?_
              obtain ⟨U47, eU47⟩ : ∃ v_v : vM, v_v = uM U19 58 ((7 * (l - c + 1)) + 1) (m (7 * c + 1)) := ⟨_, rfl⟩
              refine YY.V eU47.symm ?_
              refine x_aload_n dX10_reverse_160 8 rfl ?_
              refine x_getR fl_X10_35 rfl rfl dX10_reverse_161 ?_
              refine x_iload dX10_reverse_164 0 rfl ?_
              refine x_iconst (v := 2) dX10_reverse_166 (by decide) ?_
              refine x_iadd dX10_reverse_167 ?_
              refine x_aload_n dX10_reverse_168 8 rfl ?_
              refine x_getR fl_X10_9 rfl rfl dX10_reverse_169 ?_
              refine x_iload dX10_reverse_172 1 rfl ?_
              refine x_iconst (v := 2) dX10_reverse_174 (by decide) ?_
              refine x_iadd dX10_reverse_175 ?_
              have q48 : ((7 * (nI c)) + 2 : Int32) = nI ((7 * c) + 2) := nadd (nmul (rfl) (rfl)) (rfl)
              refine YY.S (st' := [.int (nI ((7 * c) + 2)), .ref (g.2.1 50), .int ((7 * (nI (l - c + 1))) + 2), .ref (g.2.1 58)]) (by rw [q48]) ?_
              have b49 : vp_in (nI ((7 * c) + 2)) 170 := by exact vp_in_nI (by omega) (by decide)
              refine x_iald rfl b49 dX10_reverse_176 ?_
              refine x_topi (y := U47 50 ((7 * c) + 2)) (by rw [nI_clamp (by omega)]) ?_
              refine x_topi (y := U19 50 ((7 * c) + 2)) (by rw [eU47, uM_na (by decide)]) ?_
              refine x_topi (hmU19 _) ?_
              have q50 : ((7 * (nI (l - c + 1))) + 2 : Int32) = nI ((7 * (l - c + 1)) + 2) := nadd (nmul (rfl) (rfl)) (rfl)
              refine YY.S (st' := [.int (m (7 * c + 2)), .int (nI ((7 * (l - c + 1)) + 2)), .ref (g.2.1 58)]) (by rw [q50]) ?_
              have b51 : vp_in (nI ((7 * (l - c + 1)) + 2)) 168 := by exact vp_in_nI (by omega) (by decide)
              refine x_iast rfl b51 dX10_reverse_177 ?_
              refine YY.V (V' := uM U47 58 ((7 * (l - c + 1)) + 2) (m (7 * c + 2))) (by rw [nI_clamp (by omega)]) ?_
              obtain ⟨U52, eU52⟩ : ∃ v_v : vM, v_v = uM U47 58 ((7 * (l - c + 1)) + 2) (m (7 * c + 2)) := ⟨_, rfl⟩
              refine YY.V eU52.symm ?_
              have hmU52 : ∀ i, U52 50 i = m i := fun i => by rw [eU52, uM_na (by decide), eU47, uM_na (by decide)]; exact hmU19 i
              refine x_aload_n dX10_reverse_178 8 rfl ?_
              refine x_iload dX10_reverse_179 2 rfl ?_
              refine x_callV (K := jX10_kind) [.int (nI c)] lk_X10_93 ⟨⟨rfl, rfl⟩, Nat.le_of_ble_eq_true rfl, Nat.le_of_ble_eq_true rfl⟩ rfl rfl (by have := mX10_kind (g := g) U52 c (by omega); rw [hmU52] at this; exact this) rfl (Nat.le_of_ble_eq_true rfl) rfl dX10_reverse_181 (kpI ?_)
              refine x_iconst (v := 3) dX10_reverse_184 (by decide) ?_
              refine x_icmp_ne 260 dX10_reverse_185 (by decide) (fun c53 => ?_) (fun c53 => by exfalso; rw [show m (c * 7) = 2 by assumption] at c53; exact absurd c53 (by decide))
              refine x_iinc 6 (v := (nI (l - c + 1)) + 1) 3 [(6, .int ((nI (l - c + 1)) + 1)), (9, .int (7 * (nI (l - c + 1)))), (8, .int (7 * (nI c))), (7, .int (nI c)), (5, .int (nI l)), (4, .int 1), (3, .int (nI b)), (2, .int (nI f)), (0, .ref (g.2.1 49)), (1, .int (nI k))] dX10_reverse_260 rfl (by rfl) (by decide) rfl ?_
              refine x_iinc 7 (v := (nI c) + (-1)) 3 [(7, .int ((nI c) + (-1))), (6, .int ((nI (l - c + 1)) + 1)), (9, .int (7 * (nI (l - c + 1)))), (8, .int (7 * (nI c))), (5, .int (nI l)), (4, .int 1), (3, .int (nI b)), (2, .int (nI f)), (0, .ref (g.2.1 49)), (1, .int (nI k))] dX10_reverse_263 rfl (by rfl) (by decide) rfl ?_
              refine x_goto 84 dX10_reverse_266 (by decide) ?_
              refine x_lv [0, 1, 4, 5, 6, 7, 8, 9] rfl ?_
              refine YY.L (lv' := [(7, .int (nI (c - 1))), (6, .int (nI (l - (c - 1) + 1))), (5, .int (nI l)), (4, .int 1), (3, .int (nI b)), (2, .int (nI f)), (0, .ref (g.2.1 49)), (1, .int (nI k))]) (by rw [nI_m1 (by omega), nI_1, show l - c + 1 + 1 = l - (c - 1) + 1 by omega] <;> rfl) ?_
              exact ih (c - 1) U52 (by omega) (by intro t ht; exact rv_up rfl (by omega) hT hU20 ⟨fun _ => by rw [eU52, eU47], fun z => absurd ((show m (c * 7) = 2 by assumption).symm.trans z) (by decide), fun z => absurd (by assumption) z⟩ t (by omega)) (by exact ((hf1).st eU47).st eU52) (by omega)
      refine YY.L (lv' := [(7, .int (nI l)), (6, .int (nI (l - l + 1))), (5, .int (nI l)), (4, .int 1), (3, .int (nI b)), (2, .int (nI f)), (0, .ref (g.2.1 49)), (1, .int (nI k))]) (by rw [Nat.sub_self] <;> rfl) ?_
      exact lp9 _ l U7 (by omega) (by intro t ht p hp; obtain rfl : t = 0 := (by omega); exact rv_0 hU8 p hp) (by exact hf1) (Nat.lt_succ_self _)
    · -- end 1
      have el := hCT.2.2.2.2.2.2.2.1 h4
      refine x_iconst (v := 4) dX10_reverse_32 (by decide) ?_
      refine x_icmp_ne 40 dX10_reverse_33 (by decide) (fun c54 => ?_) (fun c54 => by exfalso; exact h4 c54)
      refine x_iconst (v := 0) dX10_reverse_40 (by decide) ?_
      refine x_istore 4 [(4, .int 0), (3, .int (nI b)), (2, .int (nI f)), (0, .ref (g.2.1 49)), (1, .int (nI k))] dX10_reverse_41 (by decide) rfl ?_
      refine x_iload dX10_reverse_43 0 rfl ?_
      refine x_if_eq 54 dX10_reverse_45 (by decide) (fun c55 => ?_) (fun c55 => by exfalso; revert c55; decide)
      refine x_iload_n dX10_reverse_54 1 rfl ?_
      refine x_iconst (v := 1) dX10_reverse_55 (by decide) ?_
      refine x_isub dX10_reverse_56 ?_
      refine x_topi (y := nI l) (by rw [el]; exact nsub (a := b) (b := 1) (by omega) rfl rfl) ?_
      refine x_istore 5 [(5, .int (nI l)), (4, .int 0), (3, .int (nI b)), (2, .int (nI f)), (0, .ref (g.2.1 49)), (1, .int (nI k))] dX10_reverse_57 (by decide) rfl ?_
      refine x_aload_n dX10_reverse_59 4 rfl ?_
      refine x_iconst (v := 0) dX10_reverse_60 (by decide) ?_
      refine x_iconst (v := 0) dX10_reverse_61 (by decide) ?_
      refine x_aload_n dX10_reverse_62 4 rfl ?_
      refine x_iload dX10_reverse_63 0 rfl ?_
      refine x_callV (K := jX10_endX) [.int (nI l)] lk_X10_114 ⟨⟨rfl, rfl⟩, Nat.le_of_ble_eq_true rfl, Nat.le_of_ble_eq_true rfl⟩ rfl rfl (by have := mX10_endX (g := g) V N hN (by rw [hMV]; exact hN8) (by rw [hMV]; exact hw) l (by omega); rw [hMV] at this; exact this) rfl (Nat.le_of_ble_eq_true rfl) rfl dX10_reverse_65 (kpI ?_)
      refine x_aload_n dX10_reverse_68 4 rfl ?_
      refine x_iload dX10_reverse_69 0 rfl ?_
      refine x_callV (K := jX10_endY) [.int (nI l)] lk_X10_117 ⟨⟨rfl, rfl⟩, Nat.le_of_ble_eq_true rfl, Nat.le_of_ble_eq_true rfl⟩ rfl rfl (by have := mX10_endY (g := g) V N hN (by rw [hMV]; exact hN8) (by rw [hMV]; exact hw) l (by omega); rw [hMV] at this; exact this) rfl (Nat.le_of_ble_eq_true rfl) rfl dX10_reverse_71 (kpI ?_)
      have q56 : (0 : Int32) = nI 0 := rfl
      refine YY.S (st' := [.int (ey7 m l), .int (ex7 m l), .int 0, .int (nI 0), .ref (g.2.1 49)]) (by rw [q56]) ?_
      refine x_callV (K := jX10_setTurned) [.int (nI 0), .int 0, .int (ex7 m l), .int (ey7 m l)] lk_X10_129 ⟨⟨rfl, rfl⟩, Nat.le_of_ble_eq_true rfl, Nat.le_of_ble_eq_true rfl⟩ rfl rfl (mX10_setTurned V 0 (by omega) 0 (ex7 m l) (ey7 m l)) rfl (Nat.le_of_ble_eq_true rfl) rfl dX10_reverse_74 (keV fun U57 hU58 => ?_)
      have hf1 := (fr58.refl V).trans hU58.1
      have hMU57 : U57 50 = m := by funext i; rw [hf1 50 i (by decide), hm50]
      have hmU57 : ∀ i, U57 50 i = m i := fun i => by rw [hMU57]
      refine x_iconst (v := 1) dX10_reverse_77 (by decide) ?_
      refine x_istore 6 [(6, .int 1), (5, .int (nI l)), (4, .int 0), (3, .int (nI b)), (2, .int (nI f)), (0, .ref (g.2.1 49)), (1, .int (nI k))] dX10_reverse_78 (by decide) rfl ?_
      refine x_iload dX10_reverse_80 1 rfl ?_
      refine x_istore 7 [(7, .int (nI l)), (6, .int 1), (5, .int (nI l)), (4, .int 0), (3, .int (nI b)), (2, .int (nI f)), (0, .ref (g.2.1 49)), (1, .int (nI k))] dX10_reverse_82 (by decide) rfl ?_
      have lp59 : ∀ (fu : Nat) (c : Nat) (U : vM), (f ≤ c ∧ c ≤ l) → (∀ t, t < l - c + 1 → ∀ p, p < 7 → U 58 (7 * t + p) = rvR m l t p) → (fr58 V U) → (c) < fu → XX g jX10_reverse Q U 84 [(7, .int (nI c)), (6, .int (nI (l - c + 1))), (5, .int (nI l)), (4, .int 0), (3, .int (nI b)), (2, .int (nI f)), (0, .ref (g.2.1 49)), (1, .int (nI k))] [] := by
        intro fu
        induction fu with
        | zero => intro _ _ _ _ _ hmz; exact absurd hmz (Nat.not_lt_zero _)
        | succ fu ih =>
          intro c U hc hT hfU hmz
          have hMU : U 50 = m := by funext i; rw [hfU 50 i (by decide), hm50]
          have hmU : ∀ i, U 50 i = m i := fun i => by rw [hMU]
          refine x_iload dX10_reverse_84 0 rfl ?_
          refine x_iload_n dX10_reverse_86 5 rfl ?_
          refine x_icmp_le 269 dX10_reverse_87 (by decide) (fun c60 => ?_) (fun c60 => ?_)
          · have c60n : c ≤ f := (nl_le (a := c) (b := f) (rfl) (rfl) (by omega) (by omega)).mp c60
            refine x_iconst (v := 0) dX10_reverse_269 (by decide) ?_
            refine x_istore 7 [(7, .int 0), (6, .int (nI (l - c + 1))), (5, .int (nI l)), (4, .int 0), (3, .int (nI b)), (2, .int (nI f)), (0, .ref (g.2.1 49)), (1, .int (nI k))] dX10_reverse_270 (by decide) rfl ?_
            have lp61 : ∀ (fu1 : Nat) (i : Nat) (U3 : vM), (i ≤ 7 * (l - c + 1)) → (∀ j, U3 50 j = if 7 * f ≤ j ∧ j < 7 * f + i then rvR m l (j / 7 - f) (j % 7) else m j) → (∀ q j, q ≠ 50 → U3 q j = U q j) → (7 * (l - c + 1) - i) < fu1 → XX g jX10_reverse Q U3 272 [(7, .int (nI i)), (6, .int (nI (l - c + 1))), (5, .int (nI l)), (4, .int 0), (3, .int (nI b)), (2, .int (nI f)), (0, .ref (g.2.1 49)), (1, .int (nI k))] [] := by
              intro fu1
              induction fu1 with
              | zero => intro _ _ _ _ _ hmz; exact absurd hmz (Nat.not_lt_zero _)
              | succ fu1 ih1 =>
                intro i U3 hi hC5 hf3 hmz
                refine x_iload dX10_reverse_272 0 rfl ?_
                refine x_bipush (v := 7) dX10_reverse_274 (by decide) ?_
                refine x_iload dX10_reverse_276 1 rfl ?_
                refine x_imul dX10_reverse_278 ?_
                refine x_icmp_ge 307 dX10_reverse_279 (by decide) (fun c62 => ?_) (fun c62 => ?_)
                · have c62n : 7 * (l - c + 1) ≤ i := (nl_le (a := 7 * (l - c + 1)) (b := i) (nmul (rfl) (rfl)) (rfl) (by omega) (by omega)).mp c62
                  refine x_iload_n dX10_reverse_307 4 rfl ?_
                  refine x_iload_n dX10_reverse_308 5 rfl ?_
                  refine x_isub dX10_reverse_309 ?_
                  refine x_iret dX10_reverse_310 rfl ?_
                  rw [hQ]
                  have hz := rv_k (c := cc) hN hk0 hkS hCT
                  have he : U3 50 = rvF m f l := by
                    funext j
                    rw [hC5]
                    unfold rvF
                    by_cases q : f * 7 ≤ j ∧ j < (l + 1) * 7
                    · rw [if_pos (by omega), if_pos q]
                    · rw [if_neg (by omega), if_neg q]
                  rw [hz.1, hz.2]
                  refine ⟨_, rfl, by rw [nsub (a := b) (b := f) (by omega) rfl rfl], ⟨hCT.wf hw, he, ?_, ?_⟩, fun q i p1 p2 _ => (hf3 q i p2).trans (hfU q i (by omega))⟩
                  · unfold rvF; rw [if_neg (by omega)]; exact hN8
                  · unfold rvF; rw [if_neg (by omega)]; exact ht9
                · have c62n : i < 7 * (l - c + 1) := Nat.not_le.mp (fun q => c62 ((nl_le (a := 7 * (l - c + 1)) (b := i) (nmul (rfl) (rfl)) (rfl) (by omega) (by omega)).mpr q))
                  refine x_aload_n dX10_reverse_282 6 rfl ?_
                  refine x_getR fl_X10_9 rfl rfl dX10_reverse_283 ?_
                  refine x_bipush (v := 7) dX10_reverse_286 (by decide) ?_
                  refine x_iload_n dX10_reverse_288 5 rfl ?_
                  refine x_imul dX10_reverse_289 ?_
                  refine x_iload dX10_reverse_290 0 rfl ?_
                  refine x_iadd dX10_reverse_292 ?_
                  refine x_aload_n dX10_reverse_293 6 rfl ?_
                  refine x_getR fl_X10_35 rfl rfl dX10_reverse_294 ?_
                  refine x_iload dX10_reverse_297 0 rfl ?_
                  have b63 : vp_in (nI i) 168 := by exact vp_in_nI (by omega) (by decide)
                  refine x_iald rfl b63 dX10_reverse_299 ?_
                  refine x_topi (y := U3 58 i) (by rw [nI_clamp (by omega)]) ?_
                  refine x_topi ((hf3 58 i (by decide)).trans (rv_rd hT (by omega))) ?_
                  have q64 : ((7 * (nI f)) + (nI i) : Int32) = nI ((7 * f) + i) := nadd (nmul (rfl) (rfl)) (rfl)
                  refine YY.S (st' := [.int (rvR m l (i / 7) (i % 7)), .int (nI ((7 * f) + i)), .ref (g.2.1 50)]) (by rw [q64]) ?_
                  have b65 : vp_in (nI ((7 * f) + i)) 170 := by exact vp_in_nI (by omega) (by decide)
                  refine x_iast rfl b65 dX10_reverse_300 ?_
                  refine YY.V (V' := uM U3 50 ((7 * f) + i) (rvR m l (i / 7) (i % 7))) (by rw [nI_clamp (by omega)]) ?_
                  obtain ⟨U66, eU66⟩ : ∃ v_v : vM, v_v = uM U3 50 ((7 * f) + i) (rvR m l (i / 7) (i % 7)) := ⟨_, rfl⟩
                  refine YY.V eU66.symm ?_
                  refine x_iinc 7 (v := (nI i) + 1) 0 [(7, .int ((nI i) + 1)), (6, .int (nI (l - c + 1))), (5, .int (nI l)), (4, .int 0), (3, .int (nI b)), (2, .int (nI f)), (0, .ref (g.2.1 49)), (1, .int (nI k))] dX10_reverse_301 rfl (by rfl) (by decide) rfl ?_
                  refine x_goto 272 dX10_reverse_304 (by decide) ?_
                  refine YY.L (lv' := [(7, .int (nI (i + 1))), (6, .int (nI (l - c + 1))), (5, .int (nI l)), (4, .int 0), (3, .int (nI b)), (2, .int (nI f)), (0, .ref (g.2.1 49)), (1, .int (nI k))]) (by rw [nI_1] <;> rfl) ?_
                  exact ih1 (i + 1) U66 (by omega) (by intro j; rw [eU66, uM_at]; by_cases q : j = 7 * f + i; (rw [if_pos ⟨rfl, q⟩, if_pos (by omega), q, show (7 * f + i) / 7 - f = i / 7 by omega, show (7 * f + i) % 7 = i % 7 by omega]); (rw [if_neg (fun z => q z.2), hC5]; by_cases z : 7 * f ≤ j ∧ j < 7 * f + i; (rw [if_pos z, if_pos (by omega)]); (rw [if_neg z, if_neg (by omega)]))) (by intro q j h; rw [eU66, uM_na h]; exact hf3 q j h) (by omega)
            refine YY.L (lv' := [(7, .int (nI 0)), (6, .int (nI (l - c + 1))), (5, .int (nI l)), (4, .int 0), (3, .int (nI b)), (2, .int (nI f)), (0, .ref (g.2.1 49)), (1, .int (nI k))]) (by rfl) ?_
            exact lp61 _ 0 U (by omega) (by intro j; rw [if_neg (by omega)]; exact hmU j) (by exact fun _ _ _ => rfl) (Nat.lt_succ_self _)
          · have c60n : f < c := Nat.not_le.mp (fun q => c60 ((nl_le (a := c) (b := f) (rfl) (rfl) (by omega) (by omega)).mpr q))
            refine x_aload_n dX10_reverse_90 6 rfl ?_
            refine x_iload dX10_reverse_91 1 rfl ?_
            refine x_aload_n dX10_reverse_93 6 rfl ?_
            refine x_iload dX10_reverse_94 0 rfl ?_
            refine x_callV (K := jX10_kind) [.int (nI c)] lk_X10_93 ⟨⟨rfl, rfl⟩, Nat.le_of_ble_eq_true rfl, Nat.le_of_ble_eq_true rfl⟩ rfl rfl (by have := mX10_kind (g := g) U c (by omega); rw [hmU] at this; exact this) rfl (Nat.le_of_ble_eq_true rfl) rfl dX10_reverse_96 (kpI ?_)
            refine x_aload_n dX10_reverse_99 6 rfl ?_
            refine x_iload dX10_reverse_100 0 rfl ?_
            refine x_iconst (v := 1) dX10_reverse_102 (by decide) ?_
            refine x_isub dX10_reverse_103 ?_
            have q67 : ((nI c) - 1 : Int32) = nI (c - 1) := nsub (by omega) (rfl) (rfl)
            refine YY.S (st' := [.int (nI (c - 1)), .ref (g.2.1 49), .int (m (c * 7)), .int (nI (l - c + 1)), .ref (g.2.1 49)]) (by rw [q67]) ?_
            refine x_callV (K := jX10_endX) [.int (nI (c - 1))] lk_X10_114 ⟨⟨rfl, rfl⟩, Nat.le_of_ble_eq_true rfl, Nat.le_of_ble_eq_true rfl⟩ rfl rfl (by have := mX10_endX (g := g) U N hN (by rw [hMU]; exact hN8) (by rw [hMU]; exact hw) (c - 1) (by omega); rw [hMU] at this; exact this) rfl (Nat.le_of_ble_eq_true rfl) rfl dX10_reverse_104 (kpI ?_)
            refine x_aload_n dX10_reverse_107 6 rfl ?_
            refine x_iload dX10_reverse_108 0 rfl ?_
            refine x_iconst (v := 1) dX10_reverse_110 (by decide) ?_
            refine x_isub dX10_reverse_111 ?_
            have q68 : ((nI c) - 1 : Int32) = nI (c - 1) := nsub (by omega) (rfl) (rfl)
            refine YY.S (st' := [.int (nI (c - 1)), .ref (g.2.1 49), .int (ex7 m (c - 1)), .int (m (c * 7)), .int (nI (l - c + 1)), .ref (g.2.1 49)]) (by rw [q68]) ?_
            refine x_callV (K := jX10_endY) [.int (nI (c - 1))] lk_X10_117 ⟨⟨rfl, rfl⟩, Nat.le_of_ble_eq_true rfl, Nat.le_of_ble_eq_true rfl⟩ rfl rfl (by have := mX10_endY (g := g) U N hN (by rw [hMU]; exact hN8) (by rw [hMU]; exact hw) (c - 1) (by omega); rw [hMU] at this; exact this) rfl (Nat.le_of_ble_eq_true rfl) rfl dX10_reverse_112 (kpI ?_)
            refine x_callV (K := jX10_setTurned) [.int (nI (l - c + 1)), .int (m (c * 7)), .int (ex7 m (c - 1)), .int (ey7 m (c - 1))] lk_X10_129 ⟨⟨rfl, rfl⟩, Nat.le_of_ble_eq_true rfl, Nat.le_of_ble_eq_true rfl⟩ rfl rfl (mX10_setTurned U (l - c + 1) (by omega) (m (c * 7)) (ex7 m (c - 1)) (ey7 m (c - 1))) rfl (Nat.le_of_ble_eq_true rfl) rfl dX10_reverse_115 (keV fun U69 hU70 => ?_)
            have hf1 := hfU.trans hU70.1
            have hMU69 : U69 50 = m := by funext i; rw [hf1 50 i (by decide), hm50]
            have hmU69 : ∀ i, U69 50 i = m i := fun i => by rw [hMU69]
            refine x_bipush (v := 7) dX10_reverse_118 (by decide) ?_
            refine x_iload dX10_reverse_120 0 rfl ?_
            refine x_imul dX10_reverse_122 ?_
            refine x_istore 8 [(8, .int (7 * (nI c))), (7, .int (nI c)), (6, .int (nI (l - c + 1))), (5, .int (nI l)), (4, .int 0), (3, .int (nI b)), (2, .int (nI f)), (0, .ref (g.2.1 49)), (1, .int (nI k))] dX10_reverse_123 (by decide) rfl ?_
            refine x_bipush (v := 7) dX10_reverse_125 (by decide) ?_
            refine x_iload dX10_reverse_127 2 rfl ?_
            refine x_imul dX10_reverse_129 ?_
            refine x_istore 9 [(9, .int (7 * (nI (l - c + 1)))), (8, .int (7 * (nI c))), (7, .int (nI c)), (6, .int (nI (l - c + 1))), (5, .int (nI l)), (4, .int 0), (3, .int (nI b)), (2, .int (nI f)), (0, .ref (g.2.1 49)), (1, .int (nI k))] dX10_reverse_130 (by decide) rfl ?_
            refine x_aload_n dX10_reverse_132 8 rfl ?_
            refine x_iload dX10_reverse_133 2 rfl ?_
            refine x_callV (K := jX10_kind) [.int (nI c)] lk_X10_93 ⟨⟨rfl, rfl⟩, Nat.le_of_ble_eq_true rfl, Nat.le_of_ble_eq_true rfl⟩ rfl rfl (by have := mX10_kind (g := g) U69 c (by omega); rw [hmU69] at this; exact this) rfl (Nat.le_of_ble_eq_true rfl) rfl dX10_reverse_135 (kpI ?_)
            refine x_iconst (v := 2) dX10_reverse_138 (by decide) ?_
            refine x_icmp_ne 178 dX10_reverse_139 (by decide) (fun c71 => ?_) (fun c71 => ?_)
            · refine x_aload_n dX10_reverse_178 8 rfl ?_
              refine x_iload dX10_reverse_179 2 rfl ?_
              refine x_callV (K := jX10_kind) [.int (nI c)] lk_X10_93 ⟨⟨rfl, rfl⟩, Nat.le_of_ble_eq_true rfl, Nat.le_of_ble_eq_true rfl⟩ rfl rfl (by have := mX10_kind (g := g) U69 c (by omega); rw [hmU69] at this; exact this) rfl (Nat.le_of_ble_eq_true rfl) rfl dX10_reverse_181 (kpI ?_)
              refine x_iconst (v := 3) dX10_reverse_184 (by decide) ?_
              refine x_icmp_ne 260 dX10_reverse_185 (by decide) (fun c72 => ?_) (fun c72 => ?_)
              · refine x_iinc 6 (v := (nI (l - c + 1)) + 1) 3 [(6, .int ((nI (l - c + 1)) + 1)), (9, .int (7 * (nI (l - c + 1)))), (8, .int (7 * (nI c))), (7, .int (nI c)), (5, .int (nI l)), (4, .int 0), (3, .int (nI b)), (2, .int (nI f)), (0, .ref (g.2.1 49)), (1, .int (nI k))] dX10_reverse_260 rfl (by rfl) (by decide) rfl ?_
                refine x_iinc 7 (v := (nI c) + (-1)) 3 [(7, .int ((nI c) + (-1))), (6, .int ((nI (l - c + 1)) + 1)), (9, .int (7 * (nI (l - c + 1)))), (8, .int (7 * (nI c))), (5, .int (nI l)), (4, .int 0), (3, .int (nI b)), (2, .int (nI f)), (0, .ref (g.2.1 49)), (1, .int (nI k))] dX10_reverse_263 rfl (by rfl) (by decide) rfl ?_
                refine x_goto 84 dX10_reverse_266 (by decide) ?_
                refine x_lv [0, 1, 4, 5, 6, 7, 8, 9] rfl ?_
                refine YY.L (lv' := [(7, .int (nI (c - 1))), (6, .int (nI (l - (c - 1) + 1))), (5, .int (nI l)), (4, .int 0), (3, .int (nI b)), (2, .int (nI f)), (0, .ref (g.2.1 49)), (1, .int (nI k))]) (by rw [nI_m1 (by omega), nI_1, show l - c + 1 + 1 = l - (c - 1) + 1 by omega] <;> rfl) ?_
                exact ih (c - 1) U69 (by omega) (by intro t ht; exact rv_up rfl (by omega) hT hU70 ⟨fun z => absurd z (by assumption), fun z => absurd z (by assumption), fun _ _ => rfl⟩ t (by omega)) (by exact hf1) (by omega)
              · refine x_aload_n dX10_reverse_188 8 rfl ?_
                refine x_getR fl_X10_35 rfl rfl dX10_reverse_189 ?_
                refine x_iload dX10_reverse_192 0 rfl ?_
                refine x_iconst (v := 1) dX10_reverse_194 (by decide) ?_
                refine x_iadd dX10_reverse_195 ?_
                refine x_aload_n dX10_reverse_196 8 rfl ?_
                refine x_getR fl_X10_9 rfl rfl dX10_reverse_197 ?_
                refine x_iload dX10_reverse_200 1 rfl ?_
                refine x_iconst (v := 3) dX10_reverse_202 (by decide) ?_
                refine x_iadd dX10_reverse_203 ?_
                have q73 : ((7 * (nI c)) + 3 : Int32) = nI ((7 * c) + 3) := nadd (nmul (rfl) (rfl)) (rfl)
                refine YY.S (st' := [.int (nI ((7 * c) + 3)), .ref (g.2.1 50), .int ((7 * (nI (l - c + 1))) + 1), .ref (g.2.1 58)]) (by rw [q73]) ?_
                have b74 : vp_in (nI ((7 * c) + 3)) 170 := by exact vp_in_nI (by omega) (by decide)
                refine x_iald rfl b74 dX10_reverse_204 ?_
                refine x_topi (y := U69 50 ((7 * c) + 3)) (by rw [nI_clamp (by omega)]) ?_
                refine x_topi (hmU69 _) ?_
                have q75 : ((7 * (nI (l - c + 1))) + 1 : Int32) = nI ((7 * (l - c + 1)) + 1) := nadd (nmul (rfl) (rfl)) (rfl)
                refine YY.S (st' := [.int (m (7 * c + 3)), .int (nI ((7 * (l - c + 1)) + 1)), .ref (g.2.1 58)]) (by rw [q75]) ?_
                have b76 : vp_in (nI ((7 * (l - c + 1)) + 1)) 168 := by exact vp_in_nI (by omega) (by decide)
                refine x_iast rfl b76 dX10_reverse_205 ?_
                refine YY.V (V' := uM U69 58 ((7 * (l - c + 1)) + 1) (m (7 * c + 3))) (by rw [nI_clamp (by omega)]) ?_
                obtain ⟨U77, eU77⟩ : ∃ v_v : vM, v_v = uM U69 58 ((7 * (l - c + 1)) + 1) (m (7 * c + 3)) := ⟨_, rfl⟩
                refine YY.V eU77.symm ?_
                refine x_aload_n dX10_reverse_206 8 rfl ?_
                refine x_getR fl_X10_35 rfl rfl dX10_reverse_207 ?_
                refine x_iload dX10_reverse_210 0 rfl ?_
                refine x_iconst (v := 2) dX10_reverse_212 (by decide) ?_
                refine x_iadd dX10_reverse_213 ?_
                refine x_aload_n dX10_reverse_214 8 rfl ?_
                refine x_getR fl_X10_9 rfl rfl dX10_reverse_215 ?_
                refine x_iload dX10_reverse_218 1 rfl ?_
                refine x_iconst (v := 4) dX10_reverse_220 (by decide) ?_
                refine x_iadd dX10_reverse_221 ?_
                have q78 : ((7 * (nI c)) + 4 : Int32) = nI ((7 * c) + 4) := nadd (nmul (rfl) (rfl)) (rfl)
                refine YY.S (st' := [.int (nI ((7 * c) + 4)), .ref (g.2.1 50), .int ((7 * (nI (l - c + 1))) + 2), .ref (g.2.1 58)]) (by rw [q78]) ?_
                have b79 : vp_in (nI ((7 * c) + 4)) 170 := by exact vp_in_nI (by omega) (by decide)
                refine x_iald rfl b79 dX10_reverse_222 ?_
                refine x_topi (y := U77 50 ((7 * c) + 4)) (by rw [nI_clamp (by omega)]) ?_
                refine x_topi (y := U69 50 ((7 * c) + 4)) (by rw [eU77, uM_na (by decide)]) ?_
                refine x_topi (hmU69 _) ?_
                have q80 : ((7 * (nI (l - c + 1))) + 2 : Int32) = nI ((7 * (l - c + 1)) + 2) := nadd (nmul (rfl) (rfl)) (rfl)
                refine YY.S (st' := [.int (m (7 * c + 4)), .int (nI ((7 * (l - c + 1)) + 2)), .ref (g.2.1 58)]) (by rw [q80]) ?_
                have b81 : vp_in (nI ((7 * (l - c + 1)) + 2)) 168 := by exact vp_in_nI (by omega) (by decide)
                refine x_iast rfl b81 dX10_reverse_223 ?_
                refine YY.V (V' := uM U77 58 ((7 * (l - c + 1)) + 2) (m (7 * c + 4))) (by rw [nI_clamp (by omega)]) ?_
                obtain ⟨U82, eU82⟩ : ∃ v_v : vM, v_v = uM U77 58 ((7 * (l - c + 1)) + 2) (m (7 * c + 4)) := ⟨_, rfl⟩
                refine YY.V eU82.symm ?_
                refine x_aload_n dX10_reverse_224 8 rfl ?_
                refine x_getR fl_X10_35 rfl rfl dX10_reverse_225 ?_
                refine x_iload dX10_reverse_228 0 rfl ?_
                refine x_iconst (v := 3) dX10_reverse_230 (by decide) ?_
                refine x_iadd dX10_reverse_231 ?_
                refine x_aload_n dX10_reverse_232 8 rfl ?_
                refine x_getR fl_X10_9 rfl rfl dX10_reverse_233 ?_
                refine x_iload dX10_reverse_236 1 rfl ?_
                refine x_iconst (v := 1) dX10_reverse_238 (by decide) ?_
                refine x_iadd dX10_reverse_239 ?_
                have q83 : ((7 * (nI c)) + 1 : Int32) = nI ((7 * c) + 1) := nadd (nmul (rfl) (rfl)) (rfl)
                refine YY.S (st' := [.int (nI ((7 * c) + 1)), .ref (g.2.1 50), .int ((7 * (nI (l - c + 1))) + 3), .ref (g.2.1 58)]) (by rw [q83]) ?_
                have b84 : vp_in (nI ((7 * c) + 1)) 170 := by exact vp_in_nI (by omega) (by decide)
                refine x_iald rfl b84 dX10_reverse_240 ?_
                refine x_topi (y := U82 50 ((7 * c) + 1)) (by rw [nI_clamp (by omega)]) ?_
                refine x_topi (y := U69 50 ((7 * c) + 1)) (by rw [eU82, uM_na (by decide), eU77, uM_na (by decide)]) ?_
                refine x_topi (hmU69 _) ?_
                have q85 : ((7 * (nI (l - c + 1))) + 3 : Int32) = nI ((7 * (l - c + 1)) + 3) := nadd (nmul (rfl) (rfl)) (rfl)
                refine YY.S (st' := [.int (m (7 * c + 1)), .int (nI ((7 * (l - c + 1)) + 3)), .ref (g.2.1 58)]) (by rw [q85]) ?_
                have b86 : vp_in (nI ((7 * (l - c + 1)) + 3)) 168 := by exact vp_in_nI (by omega) (by decide)
                refine x_iast rfl b86 dX10_reverse_241 ?_
                refine YY.V (V' := uM U82 58 ((7 * (l - c + 1)) + 3) (m (7 * c + 1))) (by rw [nI_clamp (by omega)]) ?_
                obtain ⟨U87, eU87⟩ : ∃ v_v : vM, v_v = uM U82 58 ((7 * (l - c + 1)) + 3) (m (7 * c + 1)) := ⟨_, rfl⟩
                refine YY.V eU87.symm ?_
                refine x_aload_n dX10_reverse_242 8 rfl ?_
                refine x_getR fl_X10_35 rfl rfl dX10_reverse_243 ?_
                refine x_iload dX10_reverse_246 0 rfl ?_
                refine x_iconst (v := 4) dX10_reverse_248 (by decide) ?_
                refine x_iadd dX10_reverse_249 ?_
                refine x_aload_n dX10_reverse_250 8 rfl ?_
                refine x_getR fl_X10_9 rfl rfl dX10_reverse_251 ?_
                refine x_iload dX10_reverse_254 1 rfl ?_
                refine x_iconst (v := 2) dX10_reverse_256 (by decide) ?_
                refine x_iadd dX10_reverse_257 ?_
                have q88 : ((7 * (nI c)) + 2 : Int32) = nI ((7 * c) + 2) := nadd (nmul (rfl) (rfl)) (rfl)
                refine YY.S (st' := [.int (nI ((7 * c) + 2)), .ref (g.2.1 50), .int ((7 * (nI (l - c + 1))) + 4), .ref (g.2.1 58)]) (by rw [q88]) ?_
                have b89 : vp_in (nI ((7 * c) + 2)) 170 := by exact vp_in_nI (by omega) (by decide)
                refine x_iald rfl b89 dX10_reverse_258 ?_
                refine x_topi (y := U87 50 ((7 * c) + 2)) (by rw [nI_clamp (by omega)]) ?_
                refine x_topi (y := U69 50 ((7 * c) + 2)) (by rw [eU87, uM_na (by decide), eU82, uM_na (by decide), eU77, uM_na (by decide)]) ?_
                refine x_topi (hmU69 _) ?_
                have q90 : ((7 * (nI (l - c + 1))) + 4 : Int32) = nI ((7 * (l - c + 1)) + 4) := nadd (nmul (rfl) (rfl)) (rfl)
                refine YY.S (st' := [.int (m (7 * c + 2)), .int (nI ((7 * (l - c + 1)) + 4)), .ref (g.2.1 58)]) (by rw [q90]) ?_
                have b91 : vp_in (nI ((7 * (l - c + 1)) + 4)) 168 := by exact vp_in_nI (by omega) (by decide)
                refine x_iast rfl b91 dX10_reverse_259 ?_
                refine YY.V (V' := uM U87 58 ((7 * (l - c + 1)) + 4) (m (7 * c + 2))) (by rw [nI_clamp (by omega)]) ?_
                obtain ⟨U92, eU92⟩ : ∃ v_v : vM, v_v = uM U87 58 ((7 * (l - c + 1)) + 4) (m (7 * c + 2)) := ⟨_, rfl⟩
                refine YY.V eU92.symm ?_
                refine x_iinc 6 (v := (nI (l - c + 1)) + 1) 3 [(6, .int ((nI (l - c + 1)) + 1)), (9, .int (7 * (nI (l - c + 1)))), (8, .int (7 * (nI c))), (7, .int (nI c)), (5, .int (nI l)), (4, .int 0), (3, .int (nI b)), (2, .int (nI f)), (0, .ref (g.2.1 49)), (1, .int (nI k))] dX10_reverse_260 rfl (by rfl) (by decide) rfl ?_
                refine x_iinc 7 (v := (nI c) + (-1)) 3 [(7, .int ((nI c) + (-1))), (6, .int ((nI (l - c + 1)) + 1)), (9, .int (7 * (nI (l - c + 1)))), (8, .int (7 * (nI c))), (5, .int (nI l)), (4, .int 0), (3, .int (nI b)), (2, .int (nI f)), (0, .ref (g.2.1 49)), (1, .int (nI k))] dX10_reverse_263 rfl (by rfl) (by decide) rfl ?_
                refine x_goto 84 dX10_reverse_266 (by decide) ?_
                refine x_lv [0, 1, 4, 5, 6, 7, 8, 9] rfl ?_
                refine YY.L (lv' := [(7, .int (nI (c - 1))), (6, .int (nI (l - (c - 1) + 1))), (5, .int (nI l)), (4, .int 0), (3, .int (nI b)), (2, .int (nI f)), (0, .ref (g.2.1 49)), (1, .int (nI k))]) (by rw [nI_m1 (by omega), nI_1, show l - c + 1 + 1 = l - (c - 1) + 1 by omega] <;> rfl) ?_
                exact ih (c - 1) U92 (by omega) (by intro t ht; exact rv_up rfl (by omega) hT hU70 ⟨fun z => absurd ((show m (c * 7) = 3 by assumption).symm.trans z) (by decide), fun _ => by rw [eU92, eU87, eU82, eU77], fun _ z => absurd (by assumption) z⟩ t (by omega)) (by exact ((((hf1).st eU77).st eU82).st eU87).st eU92) (by omega)
            · refine x_aload_n dX10_reverse_142 8 rfl ?_
              refine x_getR fl_X10_35 rfl rfl dX10_reverse_143 ?_
              refine x_iload dX10_reverse_146 0 rfl ?_
              refine x_iconst (v := 1) dX10_reverse_148 (by decide) ?_
              refine x_iadd dX10_reverse_149 ?_
              refine x_aload_n dX10_reverse_150 8 rfl ?_
              refine x_getR fl_X10_9 rfl rfl dX10_reverse_151 ?_
              refine x_iload dX10_reverse_154 1 rfl ?_
              refine x_iconst (v := 1) dX10_reverse_156 (by decide) ?_
              refine x_iadd dX10_reverse_157 ?_
              have q93 : ((7 * (nI c)) + 1 : Int32) = nI ((7 * c) + 1) := nadd (nmul (rfl) (rfl)) (rfl)
              refine YY.S (st' := [.int (nI ((7 * c) + 1)), .ref (g.2.1 50), .int ((7 * (nI (l - c + 1))) + 1), .ref (g.2.1 58)]) (by rw [q93]) ?_
              have b94 : vp_in (nI ((7 * c) + 1)) 170 := by exact vp_in_nI (by omega) (by decide)
              refine x_iald rfl b94 dX10_reverse_158 ?_
              refine x_topi (y := U69 50 ((7 * c) + 1)) (by rw [nI_clamp (by omega)]) ?_
              refine x_topi (hmU69 _) ?_
              have q95 : ((7 * (nI (l - c + 1))) + 1 : Int32) = nI ((7 * (l - c + 1)) + 1) := nadd (nmul (rfl) (rfl)) (rfl)
              refine YY.S (st' := [.int (m (7 * c + 1)), .int (nI ((7 * (l - c + 1)) + 1)), .ref (g.2.1 58)]) (by rw [q95]) ?_
              have b96 : vp_in (nI ((7 * (l - c + 1)) + 1)) 168 := by exact vp_in_nI (by omega) (by decide)
              refine x_iast rfl b96 dX10_reverse_159 ?_
              refine YY.V (V' := uM U69 58 ((7 * (l - c + 1)) + 1) (m (7 * c + 1))) (by rw [nI_clamp (by omega)]) ?_
              obtain ⟨U97, eU97⟩ : ∃ v_v : vM, v_v = uM U69 58 ((7 * (l - c + 1)) + 1) (m (7 * c + 1)) := ⟨_, rfl⟩
              refine YY.V eU97.symm ?_
              refine x_aload_n dX10_reverse_160 8 rfl ?_
              refine x_getR fl_X10_35 rfl rfl dX10_reverse_161 ?_
              refine x_iload dX10_reverse_164 0 rfl ?_
              refine x_iconst (v := 2) dX10_reverse_166 (by decide) ?_
              refine x_iadd dX10_reverse_167 ?_
              refine x_aload_n dX10_reverse_168 8 rfl ?_
              refine x_getR fl_X10_9 rfl rfl dX10_reverse_169 ?_
              refine x_iload dX10_reverse_172 1 rfl ?_
              refine x_iconst (v := 2) dX10_reverse_174 (by decide) ?_
              refine x_iadd dX10_reverse_175 ?_
              have q98 : ((7 * (nI c)) + 2 : Int32) = nI ((7 * c) + 2) := nadd (nmul (rfl) (rfl)) (rfl)
              refine YY.S (st' := [.int (nI ((7 * c) + 2)), .ref (g.2.1 50), .int ((7 * (nI (l - c + 1))) + 2), .ref (g.2.1 58)]) (by rw [q98]) ?_
              have b99 : vp_in (nI ((7 * c) + 2)) 170 := by exact vp_in_nI (by omega) (by decide)
              refine x_iald rfl b99 dX10_reverse_176 ?_
              refine x_topi (y := U97 50 ((7 * c) + 2)) (by rw [nI_clamp (by omega)]) ?_
              refine x_topi (y := U69 50 ((7 * c) + 2)) (by rw [eU97, uM_na (by decide)]) ?_
              refine x_topi (hmU69 _) ?_
              have q100 : ((7 * (nI (l - c + 1))) + 2 : Int32) = nI ((7 * (l - c + 1)) + 2) := nadd (nmul (rfl) (rfl)) (rfl)
              refine YY.S (st' := [.int (m (7 * c + 2)), .int (nI ((7 * (l - c + 1)) + 2)), .ref (g.2.1 58)]) (by rw [q100]) ?_
              have b101 : vp_in (nI ((7 * (l - c + 1)) + 2)) 168 := by exact vp_in_nI (by omega) (by decide)
              refine x_iast rfl b101 dX10_reverse_177 ?_
              refine YY.V (V' := uM U97 58 ((7 * (l - c + 1)) + 2) (m (7 * c + 2))) (by rw [nI_clamp (by omega)]) ?_
              obtain ⟨U102, eU102⟩ : ∃ v_v : vM, v_v = uM U97 58 ((7 * (l - c + 1)) + 2) (m (7 * c + 2)) := ⟨_, rfl⟩
              refine YY.V eU102.symm ?_
              have hmU102 : ∀ i, U102 50 i = m i := fun i => by rw [eU102, uM_na (by decide), eU97, uM_na (by decide)]; exact hmU69 i
              refine x_aload_n dX10_reverse_178 8 rfl ?_
              refine x_iload dX10_reverse_179 2 rfl ?_
              refine x_callV (K := jX10_kind) [.int (nI c)] lk_X10_93 ⟨⟨rfl, rfl⟩, Nat.le_of_ble_eq_true rfl, Nat.le_of_ble_eq_true rfl⟩ rfl rfl (by have := mX10_kind (g := g) U102 c (by omega); rw [hmU102] at this; exact this) rfl (Nat.le_of_ble_eq_true rfl) rfl dX10_reverse_181 (kpI ?_)
              refine x_iconst (v := 3) dX10_reverse_184 (by decide) ?_
              refine x_icmp_ne 260 dX10_reverse_185 (by decide) (fun c103 => ?_) (fun c103 => by exfalso; rw [show m (c * 7) = 2 by assumption] at c103; exact absurd c103 (by decide))
              refine x_iinc 6 (v := (nI (l - c + 1)) + 1) 3 [(6, .int ((nI (l - c + 1)) + 1)), (9, .int (7 * (nI (l - c + 1)))), (8, .int (7 * (nI c))), (7, .int (nI c)), (5, .int (nI l)), (4, .int 0), (3, .int (nI b)), (2, .int (nI f)), (0, .ref (g.2.1 49)), (1, .int (nI k))] dX10_reverse_260 rfl (by rfl) (by decide) rfl ?_
              refine x_iinc 7 (v := (nI c) + (-1)) 3 [(7, .int ((nI c) + (-1))), (6, .int ((nI (l - c + 1)) + 1)), (9, .int (7 * (nI (l - c + 1)))), (8, .int (7 * (nI c))), (5, .int (nI l)), (4, .int 0), (3, .int (nI b)), (2, .int (nI f)), (0, .ref (g.2.1 49)), (1, .int (nI k))] dX10_reverse_263 rfl (by rfl) (by decide) rfl ?_
              refine x_goto 84 dX10_reverse_266 (by decide) ?_
              refine x_lv [0, 1, 4, 5, 6, 7, 8, 9] rfl ?_
              refine YY.L (lv' := [(7, .int (nI (c - 1))), (6, .int (nI (l - (c - 1) + 1))), (5, .int (nI l)), (4, .int 0), (3, .int (nI b)), (2, .int (nI f)), (0, .ref (g.2.1 49)), (1, .int (nI k))]) (by rw [nI_m1 (by omega), nI_1, show l - c + 1 + 1 = l - (c - 1) + 1 by omega] <;> rfl) ?_
              exact ih (c - 1) U102 (by omega) (by intro t ht; exact rv_up rfl (by omega) hT hU70 ⟨fun _ => by rw [eU102, eU97], fun z => absurd ((show m (c * 7) = 2 by assumption).symm.trans z) (by decide), fun z => absurd (by assumption) z⟩ t (by omega)) (by exact ((hf1).st eU97).st eU102) (by omega)
      refine YY.L (lv' := [(7, .int (nI l)), (6, .int (nI (l - l + 1))), (5, .int (nI l)), (4, .int 0), (3, .int (nI b)), (2, .int (nI f)), (0, .ref (g.2.1 49)), (1, .int (nI k))]) (by rw [Nat.sub_self] <;> rfl) ?_
      exact lp59 _ l U57 (by omega) (by intro t ht p hp; obtain rfl : t = 0 := (by omega); exact rv_0 hU58 p hp) (by exact hf1) (Nat.lt_succ_self _)
  · have c1n : ¬ (0 ≤ cc ∧ cc < nI (cntM (kd7 m) N)) := iB_0.mp c1
    refine x_ldc ct_X10_107 dX10_reverse_8 ?_
    refine x_iret dX10_reverse_10 rfl ?_
    rw [hQ]
    have hz := rv_no (m := m) (N := N) (c := cc) (by assumption)
    exact ⟨_, rfl, hz.1.symm, by rw [hz.2]; exact hS, frNP.refl V⟩
