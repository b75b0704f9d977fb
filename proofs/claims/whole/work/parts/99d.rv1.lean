/-! a path that is built command by command -/
def NX (m : Nat → Int32) (i : Nat) (x0 x1 x2 x3 x4 x5 : Int32) : Prop :=
  (m (i * 7) = 0 ∨ m (i * 7) = 1 → x0 = m (i * 7 + 5) ∧ x1 = m (i * 7 + 6)) ∧
  (m (i * 7) = 2 → x0 = m (i * 7 + 1) ∧ x1 = m (i * 7 + 2) ∧ x2 = m (i * 7 + 5) ∧ x3 = m (i * 7 + 6)) ∧
  (m (i * 7) = 3 → x0 = m (i * 7 + 1) ∧ x1 = m (i * 7 + 2) ∧ x2 = m (i * 7 + 3) ∧ x3 = m (i * 7 + 4) ∧ x4 = m (i * 7 + 5) ∧ x5 = m (i * 7 + 6)) ∧
  (m (i * 7) = 4 → x0 = ex7 m i ∧ x1 = ey7 m i)
theorem numR_nx {V : vM} {n : Nat} {m : Nat → Int32} {i : Nat} : numR V n m i ↔ NX m i (V n (i * 6)) (V n (i * 6 + 1)) (V n (i * 6 + 2)) (V n (i * 6 + 3)) (V n (i * 6 + 4)) (V n (i * 6 + 5)) := Iff.rfl
def PPr (V : vM) (a k n j : Nat) (m : Nat → Int32) : Prop := V a 2 = nI j ∧ V a 3 = nI (cntM (kd7 m) j) ∧ ∀ i, i < j → V k i = m (i * 7) ∧ numR V n m i
theorem PPr.ag {V U : vM} {a k n j : Nat} {m : Nat → Int32} (h : PPr V a k n j m) (q : ∀ b i, (b = a ∨ b = k ∨ b = n) → U b i = V b i) : PPr U a k n j m :=
  ⟨by rw [q a 2 (Or.inl rfl)]; exact h.1, by rw [q a 3 (Or.inl rfl)]; exact h.2.1, fun i hi => ⟨by rw [q k i (Or.inr (Or.inl rfl))]; exact (h.2.2 i hi).1, numR_cong (h.2.2 i hi).2 (fun p _ => q n _ (Or.inr (Or.inr rfl)))⟩⟩
theorem ad_k {V : vM} {a k n N : Nat} {kd x0 x1 x2 x3 x4 x5 : Int32} (h : isP a k n) (hN : N < 24) : (ad V a k n N kd x0 x1 x2 x3 x4 x5 k N = kd ∧ ∀ i, i ≠ N → ad V a k n N kd x0 x1 x2 x3 x4 x5 k i = V k i) ∧ ad V a k n N kd x0 x1 x2 x3 x4 x5 a 3 = if kd = 0 then V a 3 + 1 else V a 3 := by
  obtain ⟨-, -, -, n1, n2, n3⟩ := h
  unfold ad adN adK
  rw [if_pos hN]
  by_cases c : kd = 0
  · simp [c, uM_at, n1, n2, n3, Ne.symm n1]
    intro i hi hj
    exact absurd hj hi
  · simp [c, uM_at, n1, n2, n3, Ne.symm n1]
    intro i hi hj
    exact absurd hj hi
theorem ad_n {V : vM} {a k n N : Nat} {kd x0 x1 x2 x3 x4 x5 : Int32} (h : isP a k n) (hN : N < 24) : (ad V a k n N kd x0 x1 x2 x3 x4 x5 n (N * 6) = x0 ∧ ad V a k n N kd x0 x1 x2 x3 x4 x5 n (N * 6 + 1) = x1 ∧ ad V a k n N kd x0 x1 x2 x3 x4 x5 n (N * 6 + 2) = x2 ∧ ad V a k n N kd x0 x1 x2 x3 x4 x5 n (N * 6 + 3) = x3 ∧ ad V a k n N kd x0 x1 x2 x3 x4 x5 n (N * 6 + 4) = x4 ∧ ad V a k n N kd x0 x1 x2 x3 x4 x5 n (N * 6 + 5) = x5) ∧ ∀ j, j < N * 6 → ad V a k n N kd x0 x1 x2 x3 x4 x5 n j = V n j := by
  obtain ⟨-, -, -, n1, n2, n3⟩ := h
  unfold ad adN
  rw [if_pos hN]
  refine ⟨⟨?_, ?_, ?_, ?_, ?_, ?_⟩, fun j hj => ?_⟩
  · rw [uM_ni (by omega), uM_ni (by omega), uM_ni (by omega), uM_ni (by omega), uM_ni (by omega), uM_hit]
  · rw [uM_ni (by omega), uM_ni (by omega), uM_ni (by omega), uM_ni (by omega), uM_hit]
  · rw [uM_ni (by omega), uM_ni (by omega), uM_ni (by omega), uM_hit]
  · rw [uM_ni (by omega), uM_ni (by omega), uM_hit]
  · rw [uM_ni (by omega), uM_hit]
  · rw [uM_hit]
  · rw [uM_ni (by omega), uM_ni (by omega), uM_ni (by omega), uM_ni (by omega), uM_ni (by omega), uM_ni (by omega)]
    unfold adK
    split
    · rw [uM_na (Ne.symm n2), uM_na (Ne.symm n2), uM_na (Ne.symm n3)]
    · rw [uM_na (Ne.symm n2), uM_na (Ne.symm n3)]
theorem PPr.add {V : vM} {a k n j : Nat} {m : Nat → Int32} (hp : isP a k n) (h : PPr V a k n j m) (hj : j < 24) {kd x0 x1 x2 x3 x4 x5 : Int32} (hk : kd = m (j * 7)) (hx : NX m j x0 x1 x2 x3 x4 x5) : PPr (ad V a k n j kd x0 x1 x2 x3 x4 x5) a k n (j + 1) m := by
  obtain ⟨⟨a1, a2⟩, a3⟩ := ad_k (V := V) (kd := kd) (x0 := x0) (x1 := x1) (x2 := x2) (x3 := x3) (x4 := x4) (x5 := x5) hp hj
  obtain ⟨⟨b0, b1, b2, b3, b4, b5⟩, b6⟩ := ad_n (V := V) (kd := kd) (x0 := x0) (x1 := x1) (x2 := x2) (x3 := x3) (x4 := x4) (x5 := x5) hp hj
  refine ⟨ad_size hp hj, ?_, fun i hi => ?_⟩
  · rw [a3, h.2.1, cntM]
    show _ = nI (if m (j * 7) = 0 then _ else _)
    rw [hk]
    split
    · rw [nI_1]
    · rfl
  · by_cases e : i = j
    · subst e
      refine ⟨by rw [a1, hk], ?_⟩
      rw [numR_nx, b0, b1, b2, b3, b4, b5]
      exact hx
    · refine ⟨by rw [a2 i e]; exact (h.2.2 i (by omega)).1, numR_cong (h.2.2 i (by omega)).2 (fun p hp => b6 _ (by omega))⟩
def fr2 (V U : vM) : Prop := ∀ q j, q ≠ 2 → q ≠ 14 → q ≠ 15 → U q j = V q j
theorem fr2.refl (V : vM) : fr2 V V := fun _ _ _ _ _ => rfl
theorem fr2.trans {V U W : vM} (h : fr2 V U) (k : fr2 U W) : fr2 V W := fun a i p q r => by rw [k a i p q r, h a i p q r]
theorem fr2.ad {V U W : vM} (h : fr2 V U) {j : Nat} {kd x0 x1 x2 x3 x4 x5 : Int32} (e : W = ad U 2 14 15 j kd x0 x1 x2 x3 x4 x5) : fr2 V W := fun a i p q r => by rw [e, ad_at p q r, h a i p q r]
theorem PR.f2 {V U : vM} {N : Nat} {m : Nat → Int32} (h : PR V 1 12 13 N m) (k : fr2 V U) : PR U 1 12 13 N m := h.kept (fun i => k 1 i (by decide) (by decide) (by decide)) (fun i => k 12 i (by decide) (by decide) (by decide)) (fun i => k 13 i (by decide) (by decide) (by decide))
set_option maxHeartbeats 1000000 in
set_option maxRecDepth 100000 in
theorem mX5_addCopies {g : gX} {V : vM} {N : Nat} {m m2 : Nat → Int32} (hP : PR V 1 12 13 N m) (i0 i1 : Nat) (h01 : i0 ≤ i1) (h1N : i1 ≤ N) (hPP0 : PPr V 2 14 15 i0 m2) (hrow : ∀ i, i0 ≤ i → i < i1 → m2 (i * 7) = m (i * 7) ∧ (∀ (W : vM) (n : Nat), numR W n m i → numR W n m2 i)) : MM g jX5_addCopies V [.ref (g.2.1 2), .ref (g.2.1 1), .int (nI i0), .int (nI i1)] (eV (fun U => PPr U 2 14 15 i1 m2 ∧ fr2 V U)) := by
  refine MM.of plX5_addCopies (Nat.le_of_ble_eq_true rfl) ?_
  obtain ⟨Q, hQ⟩ : ∃ Q : Option Value → vM → Prop, Q = (eV (fun U => PPr U 2 14 15 i1 m2 ∧ fr2 V U)) := ⟨_, rfl⟩
  rw [← hQ]
  show XX g jX5_addCopies Q V 0 [(0, .ref (g.2.1 2)), (1, .ref (g.2.1 1)), (2, .int (nI i0)), (3, .int (nI i1))] []
  have hN := hP.2.2.1.1
  refine x_iload_n dX5_addCopies_0 2 rfl ?_
  refine x_istore 4 [(4, .int (nI i0)), (0, .ref (g.2.1 2)), (1, .ref (g.2.1 1)), (2, .int (nI i0)), (3, .int (nI i1))] dX5_addCopies_1 (by decide) rfl ?_
  have lp1 : ∀ (fu : Nat) (i : Nat) (U : vM), (i0 ≤ i ∧ i ≤ i1) → (PPr U 2 14 15 i m2) → (fr2 V U) → (i1 - i) < fu → XX g jX5_addCopies Q U 3 [(4, .int (nI i)), (0, .ref (g.2.1 2)), (1, .ref (g.2.1 1)), (2, .int (nI i0)), (3, .int (nI i1))] [] := by
    intro fu
    induction fu with
    | zero => intro _ _ _ _ _ hmz; exact absurd hmz (Nat.not_lt_zero _)
    | succ fu ih =>
      intro i U hi hPP hfU hmz
      have hPU := hP.f2 hfU
      refine x_iload dX5_addCopies_3 0 rfl ?_
      refine x_iload_n dX5_addCopies_5 4 rfl ?_
      refine x_icmp_ge 67 dX5_addCopies_6 (by decide) (fun c2 => ?_) (fun c2 => ?_)
      · have c2n : i1 ≤ i := (nl_le (a := i1) (b := i) (rfl) (rfl) (by omega) (by omega)).mp c2
        refine x_vret dX5_addCopies_67 rfl ?_
        rw [hQ]
        have ei : i = i1 := by omega
        subst ei
        exact ⟨rfl, hPP, hfU⟩
      · have c2n : i < i1 := Nat.not_le.mp (fun q => c2 ((nl_le (a := i1) (b := i) (rfl) (rfl) (by omega) (by omega)).mpr q))
        refine x_aload_n dX5_addCopies_9 1 rfl ?_
        refine x_aload_n dX5_addCopies_10 2 rfl ?_
        refine x_iload dX5_addCopies_11 0 rfl ?_
        refine x_callV (K := jX5_kindOf) [.int (nI i)] lk_X5_38 ⟨⟨rfl, rfl⟩, Nat.le_of_ble_eq_true rfl, Nat.le_of_ble_eq_true rfl⟩ rfl rfl (by have := mX5_kindOf (g := g) U isP1 hPU.kok.1 (nI i); rw [hPU.ki (i := i) (by omega)] at this; exact this) rfl (Nat.le_of_ble_eq_true rfl) rfl dX5_addCopies_13 (kpI ?_)
        refine x_aload_n dX5_addCopies_16 2 rfl ?_
        refine x_iload dX5_addCopies_17 0 rfl ?_
        refine x_iconst (v := 0) dX5_addCopies_19 (by decide) ?_
        have q3 : (0 : Int32) = nI 0 := rfl
        refine YY.S (st' := [.int (nI 0), .int (nI i), .ref (g.2.1 1), .int (m (i * 7)), .ref (g.2.1 2)]) (by rw [q3]) ?_
        refine x_callV (K := jX5_numberOf) [.int (nI i), .int (nI 0)] lk_X5_45 ⟨⟨rfl, rfl⟩, Nat.le_of_ble_eq_true rfl, Nat.le_of_ble_eq_true rfl⟩ rfl rfl (by have := mX5_numberOf (g := g) U isP1 hPU.kok.1 (nI i) (nI 0); rw [hPU.nb (i := i) (by omega) (j := 0) (by omega)] at this; exact this) rfl (Nat.le_of_ble_eq_true rfl) rfl dX5_addCopies_20 (kpI ?_)
        refine x_topi (y := U 13 (i * 6)) rfl ?_
        refine x_aload_n dX5_addCopies_23 2 rfl ?_
        refine x_iload dX5_addCopies_24 0 rfl ?_
        refine x_iconst (v := 1) dX5_addCopies_26 (by decide) ?_
        have q4 : (1 : Int32) = nI 1 := rfl
        refine YY.S (st' := [.int (nI 1), .int (nI i), .ref (g.2.1 1), .int (U 13 (i * 6)), .int (m (i * 7)), .ref (g.2.1 2)]) (by rw [q4]) ?_
        refine x_callV (K := jX5_numberOf) [.int (nI i), .int (nI 1)] lk_X5_45 ⟨⟨rfl, rfl⟩, Nat.le_of_ble_eq_true rfl, Nat.le_of_ble_eq_true rfl⟩ rfl rfl (by have := mX5_numberOf (g := g) U isP1 hPU.kok.1 (nI i) (nI 1); rw [hPU.nb (i := i) (by omega) (j := 1) (by omega)] at this; exact this) rfl (Nat.le_of_ble_eq_true rfl) rfl dX5_addCopies_27 (kpI ?_)
        refine x_aload_n dX5_addCopies_30 2 rfl ?_
        refine x_iload dX5_addCopies_31 0 rfl ?_
        refine x_iconst (v := 2) dX5_addCopies_33 (by decide) ?_
        have q5 : (2 : Int32) = nI 2 := rfl
        refine YY.S (st' := [.int (nI 2), .int (nI i), .ref (g.2.1 1), .int (U 13 (i * 6 + 1)), .int (U 13 (i * 6)), .int (m (i * 7)), .ref (g.2.1 2)]) (by rw [q5]) ?_
        refine x_callV (K := jX5_numberOf) [.int (nI i), .int (nI 2)] lk_X5_45 ⟨⟨rfl, rfl⟩, Nat.le_of_ble_eq_true rfl, Nat.le_of_ble_eq_true rfl⟩ rfl rfl (by have := mX5_numberOf (g := g) U isP1 hPU.kok.1 (nI i) (nI 2); rw [hPU.nb (i := i) (by omega) (j := 2) (by omega)] at this; exact this) rfl (Nat.le_of_ble_eq_true rfl) rfl dX5_addCopies_34 (kpI ?_)
        refine x_aload_n dX5_addCopies_37 2 rfl ?_
        refine x_iload dX5_addCopies_38 0 rfl ?_
        refine x_iconst (v := 3) dX5_addCopies_40 (by decide) ?_
        have q6 : (3 : Int32) = nI 3 := rfl
        refine YY.S (st' := [.int (nI 3), .int (nI i), .ref (g.2.1 1), .int (U 13 (i * 6 + 2)), .int (U 13 (i * 6 + 1)), .int (U 13 (i * 6)), .int (m (i * 7)), .ref (g.2.1 2)]) (by rw [q6]) ?_
        refine x_callV (K := jX5_numberOf) [.int (nI i), .int (nI 3)] lk_X5_45 ⟨⟨rfl, rfl⟩, Nat.le_of_ble_eq_true rfl, Nat.le_of_ble_eq_true rfl⟩ rfl rfl (by have := mX5_numberOf (g := g) U isP1 hPU.kok.1 (nI i) (nI 3); rw [hPU.nb (i := i) (by omega) (j := 3) (by omega)] at this; exact this) rfl (Nat.le_of_ble_eq_true rfl) rfl dX5_addCopies_41 (kpI ?_)
        refine x_aload_n dX5_addCopies_44 2 rfl ?_
        refine x_iload dX5_addCopies_45 0 rfl ?_
        refine x_iconst (v := 4) dX5_addCopies_47 (by decide) ?_
        have q7 : (4 : Int32) = nI 4 := rfl
        refine YY.S (st' := [.int (nI 4), .int (nI i), .ref (g.2.1 1), .int (U 13 (i * 6 + 3)), .int (U 13 (i * 6 + 2)), .int (U 13 (i * 6 + 1)), .int (U 13 (i * 6)), .int (m (i * 7)), .ref (g.2.1 2)]) (by rw [q7]) ?_
        refine x_callV (K := jX5_numberOf) [.int (nI i), .int (nI 4)] lk_X5_45 ⟨⟨rfl, rfl⟩, Nat.le_of_ble_eq_true rfl, Nat.le_of_ble_eq_true rfl⟩ rfl rfl (by have := mX5_numberOf (g := g) U isP1 hPU.kok.1 (nI i) (nI 4); rw [hPU.nb (i := i) (by omega) (j := 4) (by omega)] at this; exact this) rfl (Nat.le_of_ble_eq_true rfl) rfl dX5_addCopies_48 (kpI ?_)
        refine x_aload_n dX5_addCopies_51 2 rfl ?_
        refine x_iload dX5_addCopies_52 0 rfl ?_
        refine x_iconst (v := 5) dX5_addCopies_54 (by decide) ?_
        have q8 : (5 : Int32) = nI 5 := rfl
        refine YY.S (st' := [.int (nI 5), .int (nI i), .ref (g.2.1 1), .int (U 13 (i * 6 + 4)), .int (U 13 (i * 6 + 3)), .int (U 13 (i * 6 + 2)), .int (U 13 (i * 6 + 1)), .int (U 13 (i * 6)), .int (m (i * 7)), .ref (g.2.1 2)]) (by rw [q8]) ?_
        refine x_callV (K := jX5_numberOf) [.int (nI i), .int (nI 5)] lk_X5_45 ⟨⟨rfl, rfl⟩, Nat.le_of_ble_eq_true rfl, Nat.le_of_ble_eq_true rfl⟩ rfl rfl (by have := mX5_numberOf (g := g) U isP1 hPU.kok.1 (nI i) (nI 5); rw [hPU.nb (i := i) (by omega) (j := 5) (by omega)] at this; exact this) rfl (Nat.le_of_ble_eq_true rfl) rfl dX5_addCopies_55 (kpI ?_)
        refine x_callV (K := jX5_add) [.int (m (i * 7)), .int (U 13 (i * 6)), .int (U 13 (i * 6 + 1)), .int (U 13 (i * 6 + 2)), .int (U 13 (i * 6 + 3)), .int (U 13 (i * 6 + 4)), .int (U 13 (i * 6 + 5))] lk_X5_76 ⟨⟨rfl, rfl⟩, Nat.le_of_ble_eq_true rfl, Nat.le_of_ble_eq_true rfl⟩ rfl rfl (mX5_add U isP2 (i) (by omega) hPP.1 (m (i * 7)) (U 13 (i * 6)) (U 13 (i * 6 + 1)) (U 13 (i * 6 + 2)) (U 13 (i * 6 + 3)) (U 13 (i * 6 + 4)) (U 13 (i * 6 + 5))) rfl (Nat.le_of_ble_eq_true rfl) rfl dX5_addCopies_58 (kdV ?_)
        obtain ⟨U9, eU9⟩ : ∃ v_v : vM, v_v = ad U 2 14 15 (i) (m (i * 7)) (U 13 (i * 6)) (U 13 (i * 6 + 1)) (U 13 (i * 6 + 2)) (U 13 (i * 6 + 3)) (U 13 (i * 6 + 4)) (U 13 (i * 6 + 5)) := ⟨_, rfl⟩
        refine YY.V eU9.symm ?_
        have hPP2 := hPP.add isP2 (by omega) (kd := (m (i * 7))) (by rw [(hrow i (by omega) (by omega)).1]) (numR_nx.mp ((hrow i (by omega) (by omega)).2 _ _ (hPU.2.2.2 i (by omega)).2))
        rw [← eU9] at hPP2
        have hf2 := hfU.ad eU9
        refine x_iinc 4 (v := (nI i) + 1) 0 [(4, .int ((nI i) + 1)), (0, .ref (g.2.1 2)), (1, .ref (g.2.1 1)), (2, .int (nI i0)), (3, .int (nI i1))] dX5_addCopies_61 rfl (by rfl) (by decide) rfl ?_
        refine x_goto 3 dX5_addCopies_64 (by decide) ?_
        refine YY.L (lv' := [(4, .int (nI (i + 1))), (0, .ref (g.2.1 2)), (1, .ref (g.2.1 1)), (2, .int (nI i0)), (3, .int (nI i1))]) (by rw [nI_1] <;> rfl) ?_
        exact ih (i + 1) U9 (by omega) (by exact hPP2) (by exact hf2) (by omega)
  exact lp1 _ i0 V (by omega) (by exact hPP0) (by exact fr2.refl V) (Nat.lt_succ_self _)
/-- row j of m2 is command c of m, gone backward -/
def BW (m m2 : Nat → Int32) (c j : Nat) : Prop := m2 (j * 7) = m (c * 7) ∧ ((m (c * 7) = 1 ∨ m (c * 7) = 2 ∨ m (c * 7) = 3)) ∧ (m (c * 7) = 3 → m2 (j * 7 + 1) = m (c * 7 + 3) ∧ m2 (j * 7 + 2) = m (c * 7 + 4) ∧ m2 (j * 7 + 3) = m (c * 7 + 1) ∧ m2 (j * 7 + 4) = m (c * 7 + 2)) ∧ (m (c * 7) = 2 → m2 (j * 7 + 1) = m (c * 7 + 1) ∧ m2 (j * 7 + 2) = m (c * 7 + 2)) ∧ m2 (j * 7 + 5) = ex7 m (c - 1) ∧ m2 (j * 7 + 6) = ey7 m (c - 1)
theorem bw_nx {m m2 : Nat → Int32} {c j : Nat} (h : BW m m2 c j) {V : vM} {n : Nat} (hn : numR V n m c) : (m (c * 7) = 3 → NX m2 j (V n (c * 6 + 2)) (V n (c * 6 + 3)) (V n (c * 6)) (V n (c * 6 + 1)) (ex7 m (c - 1)) (ey7 m (c - 1))) ∧ (m (c * 7) = 2 → NX m2 j (V n (c * 6)) (V n (c * 6 + 1)) (ex7 m (c - 1)) (ey7 m (c - 1)) 0 0) ∧ (¬ m (c * 7) = 3 → ¬ m (c * 7) = 2 → NX m2 j (ex7 m (c - 1)) (ey7 m (c - 1)) 0 0 0 0) := by
  obtain ⟨b0, b1, b2, b3, b4, b5⟩ := h
  obtain ⟨-, q2, q3, -⟩ := hn
  unfold NX
  rw [b0, b4, b5]
  refine ⟨fun k => ?_, fun k => ?_, fun k3 k2 => ?_⟩
  · obtain ⟨e1, e2, e3, e4, -⟩ := q3 k
    obtain ⟨d1, d2, d3, d4⟩ := b2 k
    rw [k, d1, d2, d3, d4, e1, e2, e3, e4]
    exact ⟨fun z => by rcases z with z | z <;> exact absurd z (by decide), fun z => absurd z (by decide), fun _ => ⟨rfl, rfl, rfl, rfl, rfl, rfl⟩, fun z => absurd z (by decide)⟩
  · obtain ⟨e1, e2, -, -⟩ := q2 k
    obtain ⟨d1, d2⟩ := b3 k
    rw [k, d1, d2, e1, e2]
    exact ⟨fun z => by rcases z with z | z <;> exact absurd z (by decide), fun _ => ⟨rfl, rfl, rfl, rfl⟩, fun z => absurd z (by decide), fun z => absurd z (by decide)⟩
  · have k1 : m (c * 7) = 1 := by rcases b1 with z | z | z; exact z; exact absurd z k2; exact absurd z k3
    rw [k1]
    exact ⟨fun _ => ⟨rfl, rfl⟩, fun z => absurd z (by decide), fun z => absurd z (by decide), fun z => absurd z (by decide)⟩
set_option maxHeartbeats 1000000 in
set_option maxRecDepth 100000 in
theorem mX5_addBackward {g : gX} {V : vM} {N : Nat} {m m2 : Nat → Int32} (hP : PR V 1 12 13 N m) (c j : Nat) (hc : 1 ≤ c) (hcN : c < N) (hj : j < 24) (hPP0 : PPr V 2 14 15 j m2) (hBW : BW m m2 c j) : MM g jX5_addBackward V [.ref (g.2.1 2), .ref (g.2.1 1), .int (nI c)] (eV (fun U => PPr U 2 14 15 (j + 1) m2 ∧ fr2 V U)) := by
  refine MM.of plX5_addBackward (Nat.le_of_ble_eq_true rfl) ?_
  obtain ⟨Q, hQ⟩ : ∃ Q : Option Value → vM → Prop, Q = (eV (fun U => PPr U 2 14 15 (j + 1) m2 ∧ fr2 V U)) := ⟨_, rfl⟩
  rw [← hQ]
  show XX g jX5_addBackward Q V 0 [(0, .ref (g.2.1 2)), (1, .ref (g.2.1 1)), (2, .int (nI c))] []
  have hN := hP.2.2.1.1
  have hPU := hP
  refine x_aload_n dX5_addBackward_0 1 rfl ?_
  refine x_iload_n dX5_addBackward_1 2 rfl ?_
  refine x_iconst (v := 1) dX5_addBackward_2 (by decide) ?_
  refine x_isub dX5_addBackward_3 ?_
  have q1 : ((nI c) - 1 : Int32) = nI (c - 1) := nsub (by omega) (rfl) (rfl)
  refine YY.S (st' := [.int (nI (c - 1)), .ref (g.2.1 1)]) (by rw [q1]) ?_
  refine x_callV (K := jX5_endX) [.int (nI (c - 1))] lk_X5_70 ⟨⟨rfl, rfl⟩, Nat.le_of_ble_eq_true rfl, Nat.le_of_ble_eq_true rfl⟩ rfl rfl (by have := mX5_endX (g := g) V isP1 hPU.kok (nI (c - 1)); rw [(hPU.exy (i := (c - 1)) (by omega)).1] at this; exact this) rfl (Nat.le_of_ble_eq_true rfl) rfl dX5_addBackward_4 (kpI ?_)
  refine x_istore_n 3 [(3, .int (ex7 m (c - 1))), (0, .ref (g.2.1 2)), (1, .ref (g.2.1 1)), (2, .int (nI c))] dX5_addBackward_7 rfl (by decide) rfl ?_
  refine x_aload_n dX5_addBackward_8 2 rfl ?_
  refine x_iload_n dX5_addBackward_9 3 rfl ?_
  refine x_iconst (v := 1) dX5_addBackward_10 (by decide) ?_
  refine x_isub dX5_addBackward_11 ?_
  have q2 : ((nI c) - 1 : Int32) = nI (c - 1) := nsub (by omega) (rfl) (rfl)
  refine YY.S (st' := [.int (nI (c - 1)), .ref (g.2.1 1)]) (by rw [q2]) ?_
  refine x_callV (K := jX5_endY) [.int (nI (c - 1))] lk_X5_73 ⟨⟨rfl, rfl⟩, Nat.le_of_ble_eq_true rfl, Nat.le_of_ble_eq_true rfl⟩ rfl rfl (by have := mX5_endY (g := g) V isP1 hPU.kok (nI (c - 1)); rw [(hPU.exy (i := (c - 1)) (by omega)).2] at this; exact this) rfl (Nat.le_of_ble_eq_true rfl) rfl dX5_addBackward_12 (kpI ?_)
  refine x_istore 4 [(4, .int (ey7 m (c - 1))), (3, .int (ex7 m (c - 1))), (0, .ref (g.2.1 2)), (1, .ref (g.2.1 1)), (2, .int (nI c))] dX5_addBackward_15 (by decide) rfl ?_
  refine x_aload_n dX5_addBackward_17 3 rfl ?_
  refine x_iload_n dX5_addBackward_18 4 rfl ?_
  refine x_callV (K := jX5_kindOf) [.int (nI c)] lk_X5_38 ⟨⟨rfl, rfl⟩, Nat.le_of_ble_eq_true rfl, Nat.le_of_ble_eq_true rfl⟩ rfl rfl (by have := mX5_kindOf (g := g) V isP1 hPU.kok.1 (nI c); rw [hPU.ki (i := c) (by omega)] at this; exact this) rfl (Nat.le_of_ble_eq_true rfl) rfl dX5_addBackward_19 (kpI ?_)
  refine x_istore 5 [(5, .int (m (c * 7))), (4, .int (ey7 m (c - 1))), (3, .int (ex7 m (c - 1))), (0, .ref (g.2.1 2)), (1, .ref (g.2.1 1)), (2, .int (nI c))] dX5_addBackward_22 (by decide) rfl ?_
  refine x_iload dX5_addBackward_24 0 rfl ?_
  refine x_iconst (v := 3) dX5_addBackward_26 (by decide) ?_
  refine x_icmp_ne 65 dX5_addBackward_27 (by decide) (fun c3 => ?_) (fun c3 => ?_)
  · refine x_iload dX5_addBackward_65 0 rfl ?_
    refine x_iconst (v := 2) dX5_addBackward_67 (by decide) ?_
    refine x_icmp_ne 96 dX5_addBackward_68 (by decide) (fun c4 => ?_) (fun c4 => ?_)
    · refine x_aload_n dX5_addBackward_96 3 rfl ?_
      refine x_iload dX5_addBackward_97 0 rfl ?_
      refine x_iload_n dX5_addBackward_99 2 rfl ?_
      refine x_iload dX5_addBackward_100 1 rfl ?_
      refine x_iconst (v := 0) dX5_addBackward_102 (by decide) ?_
      refine x_iconst (v := 0) dX5_addBackward_103 (by decide) ?_
      refine x_iconst (v := 0) dX5_addBackward_104 (by decide) ?_
      refine x_iconst (v := 0) dX5_addBackward_105 (by decide) ?_
      refine x_callV (K := jX5_add) [.int (m (c * 7)), .int (ex7 m (c - 1)), .int (ey7 m (c - 1)), .int 0, .int 0, .int 0, .int 0] lk_X5_76 ⟨⟨rfl, rfl⟩, Nat.le_of_ble_eq_true rfl, Nat.le_of_ble_eq_true rfl⟩ rfl rfl (mX5_add V isP2 (j) (by omega) hPP0.1 (m (c * 7)) (ex7 m (c - 1)) (ey7 m (c - 1)) 0 0 0 0) rfl (Nat.le_of_ble_eq_true rfl) rfl dX5_addBackward_106 (kdV ?_)
      obtain ⟨U5, eU5⟩ : ∃ v_v : vM, v_v = ad V 2 14 15 (j) (m (c * 7)) (ex7 m (c - 1)) (ey7 m (c - 1)) 0 0 0 0 := ⟨_, rfl⟩
      refine YY.V eU5.symm ?_
      have hPP2 := hPP0.add isP2 (by omega) (kd := (m (c * 7))) (by rw [hBW.1]) ((bw_nx hBW (hP.2.2.2 c hcN).2).2.2 (by assumption) (by assumption))
      rw [← eU5] at hPP2
      have hf2 := (fr2.refl V).ad eU5
      refine x_vret dX5_addBackward_109 rfl ?_
      rw [hQ]
      exact ⟨rfl, hPP2, hf2⟩
    · refine x_aload_n dX5_addBackward_71 3 rfl ?_
      refine x_iconst (v := 2) dX5_addBackward_72 (by decide) ?_
      refine x_aload_n dX5_addBackward_73 4 rfl ?_
      refine x_iload_n dX5_addBackward_74 5 rfl ?_
      refine x_iconst (v := 0) dX5_addBackward_75 (by decide) ?_
      have q6 : (0 : Int32) = nI 0 := rfl
      refine YY.S (st' := [.int (nI 0), .int (nI c), .ref (g.2.1 1), .int 2, .ref (g.2.1 2)]) (by rw [q6]) ?_
      refine x_callV (K := jX5_numberOf) [.int (nI c), .int (nI 0)] lk_X5_45 ⟨⟨rfl, rfl⟩, Nat.le_of_ble_eq_true rfl, Nat.le_of_ble_eq_true rfl⟩ rfl rfl (by have := mX5_numberOf (g := g) V isP1 hPU.kok.1 (nI c) (nI 0); rw [hPU.nb (i := c) (by omega) (j := 0) (by omega)] at this; exact this) rfl (Nat.le_of_ble_eq_true rfl) rfl dX5_addBackward_76 (kpI ?_)
      refine x_topi (y := V 13 (c * 6)) rfl ?_
      refine x_aload_n dX5_addBackward_79 4 rfl ?_
      refine x_iload_n dX5_addBackward_80 5 rfl ?_
      refine x_iconst (v := 1) dX5_addBackward_81 (by decide) ?_
      have q7 : (1 : Int32) = nI 1 := rfl
      refine YY.S (st' := [.int (nI 1), .int (nI c), .ref (g.2.1 1), .int (V 13 (c * 6)), .int 2, .ref (g.2.1 2)]) (by rw [q7]) ?_
      refine x_callV (K := jX5_numberOf) [.int (nI c), .int (nI 1)] lk_X5_45 ⟨⟨rfl, rfl⟩, Nat.le_of_ble_eq_true rfl, Nat.le_of_ble_eq_true rfl⟩ rfl rfl (by have := mX5_numberOf (g := g) V isP1 hPU.kok.1 (nI c) (nI 1); rw [hPU.nb (i := c) (by omega) (j := 1) (by omega)] at this; exact this) rfl (Nat.le_of_ble_eq_true rfl) rfl dX5_addBackward_82 (kpI ?_)
      refine x_iload_n dX5_addBackward_85 2 rfl ?_
      refine x_iload dX5_addBackward_86 1 rfl ?_
      refine x_iconst (v := 0) dX5_addBackward_88 (by decide) ?_
      refine x_iconst (v := 0) dX5_addBackward_89 (by decide) ?_
      refine x_callV (K := jX5_add) [.int 2, .int (V 13 (c * 6)), .int (V 13 (c * 6 + 1)), .int (ex7 m (c - 1)), .int (ey7 m (c - 1)), .int 0, .int 0] lk_X5_76 ⟨⟨rfl, rfl⟩, Nat.le_of_ble_eq_true rfl, Nat.le_of_ble_eq_true rfl⟩ rfl rfl (mX5_add V isP2 (j) (by omega) hPP0.1 2 (V 13 (c * 6)) (V 13 (c * 6 + 1)) (ex7 m (c - 1)) (ey7 m (c - 1)) 0 0) rfl (Nat.le_of_ble_eq_true rfl) rfl dX5_addBackward_90 (kdV ?_)
      obtain ⟨U8, eU8⟩ : ∃ v_v : vM, v_v = ad V 2 14 15 (j) 2 (V 13 (c * 6)) (V 13 (c * 6 + 1)) (ex7 m (c - 1)) (ey7 m (c - 1)) 0 0 := ⟨_, rfl⟩
      refine YY.V eU8.symm ?_
      have hPP2 := hPP0.add isP2 (by omega) (kd := 2) (by rw [hBW.1]; exact (show m (c * 7) = 2 by assumption).symm) ((bw_nx hBW (hP.2.2.2 c hcN).2).2.1 (by assumption))
      rw [← eU8] at hPP2
      have hf2 := (fr2.refl V).ad eU8
      refine x_goto 109 dX5_addBackward_93 (by decide) ?_
      refine x_vret dX5_addBackward_109 rfl ?_
      rw [hQ]
      exact ⟨rfl, hPP2, hf2⟩
  · refine x_aload_n dX5_addBackward_30 3 rfl ?_
    refine x_iconst (v := 3) dX5_addBackward_31 (by decide) ?_
    refine x_aload_n dX5_addBackward_32 4 rfl ?_
    refine x_iload_n dX5_addBackward_33 5 rfl ?_
    refine x_iconst (v := 2) dX5_addBackward_34 (by decide) ?_
    have q9 : (2 : Int32) = nI 2 := rfl
    refine YY.S (st' := [.int (nI 2), .int (nI c), .ref (g.2.1 1), .int 3, .ref (g.2.1 2)]) (by rw [q9]) ?_
    refine x_callV (K := jX5_numberOf) [.int (nI c), .int (nI 2)] lk_X5_45 ⟨⟨rfl, rfl⟩, Nat.le_of_ble_eq_true rfl, Nat.le_of_ble_eq_true rfl⟩ rfl rfl (by have := mX5_numberOf (g := g) V isP1 hPU.kok.1 (nI c) (nI 2); rw [hPU.nb (i := c) (by omega) (j := 2) (by omega)] at this; exact this) rfl (Nat.le_of_ble_eq_true rfl) rfl dX5_addBackward_35 (kpI ?_)
    refine x_aload_n dX5_addBackward_38 4 rfl ?_
    refine x_iload_n dX5_addBackward_39 5 rfl ?_
    refine x_iconst (v := 3) dX5_addBackward_40 (by decide) ?_
    have q10 : (3 : Int32) = nI 3 := rfl
    refine YY.S (st' := [.int (nI 3), .int (nI c), .ref (g.2.1 1), .int (V 13 (c * 6 + 2)), .int 3, .ref (g.2.1 2)]) (by rw [q10]) ?_
    refine x_callV (K := jX5_numberOf) [.int (nI c), .int (nI 3)] lk_X5_45 ⟨⟨rfl, rfl⟩, Nat.le_of_ble_eq_true rfl, Nat.le_of_ble_eq_true rfl⟩ rfl rfl (by have := mX5_numberOf (g := g) V isP1 hPU.kok.1 (nI c) (nI 3); rw [hPU.nb (i := c) (by omega) (j := 3) (by omega)] at this; exact this) rfl (Nat.le_of_ble_eq_true rfl) rfl dX5_addBackward_41 (kpI ?_)
    refine x_aload_n dX5_addBackward_44 4 rfl ?_
    refine x_iload_n dX5_addBackward_45 5 rfl ?_
    refine x_iconst (v := 0) dX5_addBackward_46 (by decide) ?_
    have q11 : (0 : Int32) = nI 0 := rfl
    refine YY.S (st' := [.int (nI 0), .int (nI c), .ref (g.2.1 1), .int (V 13 (c * 6 + 3)), .int (V 13 (c * 6 + 2)), .int 3, .ref (g.2.1 2)]) (by rw [q11]) ?_
    refine x_callV (K := jX5_numberOf) [.int (nI c), .int (nI 0)] lk_X5_45 ⟨⟨rfl, rfl⟩, Nat.le_of_ble_eq_true rfl, Nat.le_of_ble_eq_true rfl⟩ rfl rfl (by have := mX5_numberOf (g := g) V isP1 hPU.kok.1 (nI c) (nI 0); rw [hPU.nb (i := c) (by omega) (j := 0) (by omega)] at this; exact this) rfl (Nat.le_of_ble_eq_true rfl) rfl dX5_addBackward_47 (kpI ?_)
    refine x_topi (y := V 13 (c * 6)) rfl ?_
    refine x_aload_n dX5_addBackward_50 4 rfl ?_
    refine x_iload_n dX5_addBackward_51 5 rfl ?_
    refine x_iconst (v := 1) dX5_addBackward_52 (by decide) ?_
    have q12 : (1 : Int32) = nI 1 := rfl
    refine YY.S (st' := [.int (nI 1), .int (nI c), .ref (g.2.1 1), .int (V 13 (c * 6)), .int (V 13 (c * 6 + 3)), .int (V 13 (c * 6 + 2)), .int 3, .ref (g.2.1 2)]) (by rw [q12]) ?_
    refine x_callV (K := jX5_numberOf) [.int (nI c), .int (nI 1)] lk_X5_45 ⟨⟨rfl, rfl⟩, Nat.le_of_ble_eq_true rfl, Nat.le_of_ble_eq_true rfl⟩ rfl rfl (by have := mX5_numberOf (g := g) V isP1 hPU.kok.1 (nI c) (nI 1); rw [hPU.nb (i := c) (by omega) (j := 1) (by omega)] at this; exact this) rfl (Nat.le_of_ble_eq_true rfl) rfl dX5_addBackward_53 (kpI ?_)
    refine x_iload_n dX5_addBackward_56 2 rfl ?_
    refine x_iload dX5_addBackward_57 1 rfl ?_
    refine x_callV (K := jX5_add) [.int 3, .int (V 13 (c * 6 + 2)), .int (V 13 (c * 6 + 3)), .int (V 13 (c * 6)), .int (V 13 (c * 6 + 1)), .int (ex7 m (c - 1)), .int (ey7 m (c - 1))] lk_X5_76 ⟨⟨rfl, rfl⟩, Nat.le_of_ble_eq_true rfl, Nat.le_of_ble_eq_true rfl⟩ rfl rfl (mX5_add V isP2 (j) (by omega) hPP0.1 3 (V 13 (c * 6 + 2)) (V 13 (c * 6 + 3)) (V 13 (c * 6)) (V 13 (c * 6 + 1)) (ex7 m (c - 1)) (ey7 m (c - 1))) rfl (Nat.le_of_ble_eq_true rfl) rfl dX5_addBackward_59 (kdV ?_)
    obtain ⟨U13, eU13⟩ : ∃ v_v : vM, v_v = ad V 2 14 15 (j) 3 (V 13 (c * 6 + 2)) (V 13 (c * 6 + 3)) (V 13 (c * 6)) (V 13 (c * 6 + 1)) (ex7 m (c - 1)) (ey7 m (c - 1)) := ⟨_, rfl⟩
    refine YY.V eU13.symm ?_
    have hPP2 := hPP0.add isP2 (by omega) (kd := 3) (by rw [hBW.1]; exact (show m (c * 7) = 3 by assumption).symm) ((bw_nx hBW (hP.2.2.2 c hcN).2).1 (by assumption))
    rw [← eU13] at hPP2
    have hf2 := (fr2.refl V).ad eU13
    refine x_goto 109 dX5_addBackward_62 (by decide) ?_
    refine x_vret dX5_addBackward_109 rfl ?_
    rw [hQ]
    exact ⟨rfl, hPP2, hf2⟩
