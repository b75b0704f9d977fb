/-- the class's reader holds the state -/
def RCs (V : vM) : RSt → Prop
  | ((k, sm, ng), (c, v, d, cm), (x, y, sx, sy), X, O) => V 37 1 = k ∧ V 37 2 = sm ∧ V 37 3 = nI (rNd k) ∧ V 37 4 = nI c ∧ V 37 5 = nI v ∧ V 37 6 = nI d ∧ V 37 7 = ng ∧ V 37 8 = x ∧ V 37 9 = y ∧ V 37 10 = sx ∧ V 37 11 = sy ∧ V 37 12 = nI cm ∧ (∀ i, i < c → V 41 i = X i)
def RC (V : vM) (s : RSt) : Prop := RCs V s ∧ PPr V 2 14 15 (min s.2.1.2.2.2 24) s.2.2.2.2
def fr37 (V U : vM) : Prop := ∀ a i, a ≠ 37 → a ≠ 41 → U a i = V a i
def frR (V U : vM) : Prop := ∀ a i, a ≠ 2 → a ≠ 14 → a ≠ 15 → a ≠ 37 → a ≠ 41 → U a i = V a i
theorem frR.refl (V : vM) : frR V V := fun _ _ _ _ _ _ _ => rfl
theorem frR.trans {V U W : vM} (h : frR V U) (k : frR U W) : frR V W := fun a i p q r s t => by rw [k a i p q r s t, h a i p q r s t]
theorem frR.st {V U W : vM} (h : frR V U) {a i : Nat} {x : Int32} (e : W = uM U a i x) (ha : a = 37 ∨ a = 41) : frR V W := fun b j p q r s t => by rw [e, uM_na (by omega)]; exact h b j p q r s t
theorem frR.K {V U : vM} (h : frR V U) : frK V U := fun a i p => by
  obtain ⟨p1, p2, p3, p4, p5, p6, p7, p8, p9, p10, p11, p12, p13, p14⟩ := p
  exact h a i p1 p5 p6 (by omega) (by omega)
def TK (V : vM) (o : Option RSt) : Int32 → vM → Prop := fun z U => (z = 0 ∧ o = none ∧ U = V) ∨ (z = 1 ∧ ∃ s, o = some s ∧ RC U s ∧ frR V U)
theorem TK01 {V U : vM} {o : Option RSt} {z : Int32} (h : TK V o z U) : z = 0 ∨ z = 1 := h.elim (fun q => Or.inl q.1) (fun q => Or.inr q.1)
theorem PPr.row {V : vM} {a k n j : Nat} {m m2 : Nat → Int32} (h : PPr V a k n j m) (q : ∀ i p, i < j → p < 7 → m2 (i * 7 + p) = m (i * 7 + p)) : PPr V a k n j m2 := by
  have q0 : ∀ i, i < j → m2 (i * 7) = m (i * 7) := fun i hi => q i 0 hi (by omega)
  refine ⟨h.1, ?_, fun i hi => ⟨by rw [q0 i hi]; exact (h.2.2 i hi).1, ?_⟩⟩
  · rw [h.2.1, cntM_cong (K := kd7 m) (K2 := kd7 m2) j (fun i hi => (q0 i hi).symm)]
  · obtain ⟨h1, h2, h3, h4⟩ := (h.2.2 i hi).2
    unfold numR
    rw [q0 i hi, q i 1 hi (by omega), q i 2 hi (by omega), q i 3 hi (by omega), q i 4 hi (by omega), q i 5 hi (by omega), q i 6 hi (by omega)]
    refine ⟨h1, h2, h3, fun k4 => ?_⟩
    have ml := mv7_le m i
    have mc := mv7_cong (m := m) (m2 := m2) i (fun j hj => q0 j (by omega))
    obtain ⟨e1, e2⟩ := h4 k4
    unfold ex7 at e1 ⊢
    unfold ey7 at e2 ⊢
    rw [if_pos k4] at e1 e2
    rw [q0 i hi, if_pos k4, mc, q _ 5 (by omega) (by omega), q _ 6 (by omega) (by omega)]
    exact ⟨e1, e2⟩
theorem RIc {i : Nat} {k sm ng : Int32} {c v d cm : Nat} {x y sx sy : Int32} {X O : Nat → Int32} (h : RI i ((k, sm, ng), (c, v, d, cm), (x, y, sx, sy), X, O)) : c ≤ 6 := by
  obtain ⟨a1, a2, a3, -⟩ := h
  have hn := rNd_b k
  rcases a1 with z | z
  · have := a2 (Or.inl z); omega
  · by_cases z4 : k = 4
    · have := a2 (Or.inr z4); omega
    · have := a3 (k3 z z4); omega
theorem PPr.rd {V : vM} {cm : Nat} {O : Nat → Int32} {k : Int32} {X : Nat → Int32} (h : PPr V 2 14 15 (min cm 24) O) {x0 x1 x2 x3 x4 x5 : Int32} (hx : NX (rOut O cm (rRow k X)) cm x0 x1 x2 x3 x4 x5) : PPr (ad V 2 14 15 (min cm 24) k x0 x1 x2 x3 x4 x5) 2 14 15 (min (cm + 1) 24) (rOut O cm (rRow k X)) := by
  have h2 := h.row (m2 := rOut O cm (rRow k X)) (fun i p hi hp => rOut_o (by omega) hp)
  by_cases c : cm < 24
  · rw [show min cm 24 = cm by omega] at h2 ⊢
    rw [show min (cm + 1) 24 = cm + 1 by omega]
    exact h2.add isP2 c (kd := k) (show k = rOut O cm (rRow k X) (cm * 7) from (rOut_n (O := O) (cm := cm) (row := rRow k X) (p := 0) (by omega)).symm) hx
  · rw [show min cm 24 = 24 by omega] at h2 ⊢
    rw [show min (cm + 1) 24 = 24 by omega]
    have : ad V 2 14 15 24 k x0 x1 x2 x3 x4 x5 = V := if_neg (by omega)
    rw [this]
    exact h2
set_option maxHeartbeats 1000000 in
set_option maxRecDepth 100000 in
theorem mX6_beginNumber {g : gX} (V : vM) : MM g jX6_beginNumber V [.ref (g.2.1 37)] (dV (uM (uM (uM V 37 5 0) 37 6 0) 37 7 0)) := by
  refine MM.of plX6_beginNumber (Nat.le_of_ble_eq_true rfl) ?_
  obtain ⟨Q, hQ⟩ : ∃ Q : Option Value → vM → Prop, Q = (dV (uM (uM (uM V 37 5 0) 37 6 0) 37 7 0)) := ⟨_, rfl⟩
  rw [← hQ]
  show XX g jX6_beginNumber Q V 0 [(0, .ref (g.2.1 37))] []
  refine x_aload_n dX6_beginNumber_0 0 rfl ?_
  refine x_iconst (v := 0) dX6_beginNumber_1 (by decide) ?_
  refine x_putI fp_X6_50 rfl rfl dX6_beginNumber_2 ?_
  obtain ⟨U1, eU1⟩ : ∃ v_v : vM, v_v = uM V 37 5 0 := ⟨_, rfl⟩
  refine YY.V eU1.symm ?_
  refine x_aload_n dX6_beginNumber_5 0 rfl ?_
  refine x_iconst (v := 0) dX6_beginNumber_6 (by decide) ?_
  refine x_putI fp_X6_53 rfl rfl dX6_beginNumber_7 ?_
  obtain ⟨U2, eU2⟩ : ∃ v_v : vM, v_v = uM U1 37 6 0 := ⟨_, rfl⟩
  refine YY.V eU2.symm ?_
  refine x_aload_n dX6_beginNumber_10 0 rfl ?_
  refine x_iconst (v := 0) dX6_beginNumber_11 (by decide) ?_
  have z3 : (0 : Int32) = 0 ∨ (0 : Int32) = 1 := by first | exact Or.inl rfl | exact Or.inr rfl | grind
  refine x_putZ fp_X6_56 rfl rfl z3 dX6_beginNumber_12 ?_
  obtain ⟨U4, eU4⟩ : ∃ v_v : vM, v_v = uM U2 37 7 0 := ⟨_, rfl⟩
  refine YY.V eU4.symm ?_
  refine x_vret dX6_beginNumber_15 rfl ?_
  rw [hQ]
  subst_vars
  exact ⟨rfl, rfl⟩
set_option maxHeartbeats 1000000 in
set_option maxRecDepth 100000 in
theorem mX6_begin {g : gX} (V : vM) : MM g jX6_begin V [.ref (g.2.1 37)] (dV (uM (uM (uM (uM (uM (uM (uM (uM (uM (uM (uM (uM V 37 1 (-1)) 37 2 0) 37 3 0) 37 4 0) 37 8 0) 37 9 0) 37 10 0) 37 11 0) 37 12 0) 37 5 0) 37 6 0) 37 7 0)) := by
  refine MM.of plX6_begin (Nat.le_of_ble_eq_true rfl) ?_
  obtain ⟨Q, hQ⟩ : ∃ Q : Option Value → vM → Prop, Q = (dV (uM (uM (uM (uM (uM (uM (uM (uM (uM (uM (uM (uM V 37 1 (-1)) 37 2 0) 37 3 0) 37 4 0) 37 8 0) 37 9 0) 37 10 0) 37 11 0) 37 12 0) 37 5 0) 37 6 0) 37 7 0)) := ⟨_, rfl⟩
  rw [← hQ]
  show XX g jX6_begin Q V 0 [(0, .ref (g.2.1 37))] []
  refine x_aload_n dX6_begin_0 0 rfl ?_
  refine x_iconst (v := -1) dX6_begin_1 (by decide) ?_
  refine x_putI fp_X6_18 rfl rfl dX6_begin_2 ?_
  obtain ⟨U1, eU1⟩ : ∃ v_v : vM, v_v = uM V 37 1 (-1) := ⟨_, rfl⟩
  refine YY.V eU1.symm ?_
  refine x_aload_n dX6_begin_5 0 rfl ?_
  refine x_iconst (v := 0) dX6_begin_6 (by decide) ?_
  have z2 : (0 : Int32) = 0 ∨ (0 : Int32) = 1 := by first | exact Or.inl rfl | exact Or.inr rfl | grind
  refine x_putZ fp_X6_22 rfl rfl z2 dX6_begin_7 ?_
  obtain ⟨U3, eU3⟩ : ∃ v_v : vM, v_v = uM U1 37 2 0 := ⟨_, rfl⟩
  refine YY.V eU3.symm ?_
  refine x_aload_n dX6_begin_10 0 rfl ?_
  refine x_iconst (v := 0) dX6_begin_11 (by decide) ?_
  refine x_putI fp_X6_26 rfl rfl dX6_begin_12 ?_
  obtain ⟨U4, eU4⟩ : ∃ v_v : vM, v_v = uM U3 37 3 0 := ⟨_, rfl⟩
  refine YY.V eU4.symm ?_
  refine x_aload_n dX6_begin_15 0 rfl ?_
  refine x_iconst (v := 0) dX6_begin_16 (by decide) ?_
  refine x_putI fp_X6_29 rfl rfl dX6_begin_17 ?_
  obtain ⟨U5, eU5⟩ : ∃ v_v : vM, v_v = uM U4 37 4 0 := ⟨_, rfl⟩
  refine YY.V eU5.symm ?_
  refine x_aload_n dX6_begin_20 0 rfl ?_
  refine x_iconst (v := 0) dX6_begin_21 (by decide) ?_
  refine x_putI fp_X6_32 rfl rfl dX6_begin_22 ?_
  obtain ⟨U6, eU6⟩ : ∃ v_v : vM, v_v = uM U5 37 8 0 := ⟨_, rfl⟩
  refine YY.V eU6.symm ?_
  refine x_aload_n dX6_begin_25 0 rfl ?_
  refine x_iconst (v := 0) dX6_begin_26 (by decide) ?_
  refine x_putI fp_X6_35 rfl rfl dX6_begin_27 ?_
  obtain ⟨U7, eU7⟩ : ∃ v_v : vM, v_v = uM U6 37 9 0 := ⟨_, rfl⟩
  refine YY.V eU7.symm ?_
  refine x_aload_n dX6_begin_30 0 rfl ?_
  refine x_iconst (v := 0) dX6_begin_31 (by decide) ?_
  refine x_putI fp_X6_38 rfl rfl dX6_begin_32 ?_
  obtain ⟨U8, eU8⟩ : ∃ v_v : vM, v_v = uM U7 37 10 0 := ⟨_, rfl⟩
  refine YY.V eU8.symm ?_
  refine x_aload_n dX6_begin_35 0 rfl ?_
  refine x_iconst (v := 0) dX6_begin_36 (by decide) ?_
  refine x_putI fp_X6_41 rfl rfl dX6_begin_37 ?_
  obtain ⟨U9, eU9⟩ : ∃ v_v : vM, v_v = uM U8 37 11 0 := ⟨_, rfl⟩
  refine YY.V eU9.symm ?_
  refine x_aload_n dX6_begin_40 0 rfl ?_
  refine x_iconst (v := 0) dX6_begin_41 (by decide) ?_
  refine x_putI fp_X6_44 rfl rfl dX6_begin_42 ?_
  obtain ⟨U10, eU10⟩ : ∃ v_v : vM, v_v = uM U9 37 12 0 := ⟨_, rfl⟩
  refine YY.V eU10.symm ?_
  refine x_aload_n dX6_begin_45 0 rfl ?_
  refine x_callV (K := jX6_beginNumber) [] lk_X6_47 ⟨⟨rfl, rfl⟩, Nat.le_of_ble_eq_true rfl, Nat.le_of_ble_eq_true rfl⟩ rfl rfl (mX6_beginNumber U10) rfl (Nat.le_of_ble_eq_true rfl) rfl dX6_begin_46 (kdV ?_)
  obtain ⟨U11, eU11⟩ : ∃ v_v : vM, v_v = uM (uM (uM U10 37 5 0) 37 6 0) 37 7 0 := ⟨_, rfl⟩
  refine YY.V eU11.symm ?_
  refine x_vret dX6_begin_49 rfl ?_
  rw [hQ]
  subst_vars
  exact ⟨rfl, rfl⟩
set_option maxHeartbeats 1000000 in
set_option maxRecDepth 100000 in
theorem mX6_isWhole {g : gX} {V : vM} {k sm ng : Int32} {c v d cm : Nat} {x y sx sy : Int32} {X O : Nat → Int32} {i : Nat} (hI : RI i ((k, sm, ng), (c, v, d, cm), (x, y, sx, sy), X, O)) (hi : i ≤ 120) (hR : RC V ((k, sm, ng), (c, v, d, cm), (x, y, sx, sy), X, O)) : MM g jX6_isWhole V [.ref (g.2.1 37)] (pI V (bP (rWh ((k, sm, ng), (c, v, d, cm), (x, y, sx, sy), X, O)))) := by
  refine MM.of plX6_isWhole (Nat.le_of_ble_eq_true rfl) ?_
  obtain ⟨Q, hQ⟩ : ∃ Q : Option Value → vM → Prop, Q = (pI V (bP (rWh ((k, sm, ng), (c, v, d, cm), (x, y, sx, sy), X, O)))) := ⟨_, rfl⟩
  rw [← hQ]
  show XX g jX6_isWhole Q V 0 [(0, .ref (g.2.1 37))] []
  obtain ⟨a1, a2, a3, a4, a5, a6, a7, a8, a9, a10, a11, a12⟩ := id hI
  obtain ⟨r1, r2, r3, r4, r5, r6, r7, r8, r9, r10, r11, r12, r13⟩ := id hR.1
  have r14 := hR.2
  have hnd := rNd_b k
  have hc6 := RIc hI
  refine x_aload_n dX6_isWhole_0 0 rfl ?_
  refine x_getI fl_X6_18 rfl rfl dX6_isWhole_1 ?_
  refine x_topi (r1) ?_
  refine x_iconst (v := -1) dX6_isWhole_4 (by decide) ?_
  refine x_icmp_ne 10 dX6_isWhole_5 (by decide) (fun c1 => ?_) (fun c1 => ?_)
  · refine x_aload_n dX6_isWhole_10 0 rfl ?_
    refine x_getI fl_X6_18 rfl rfl dX6_isWhole_11 ?_
    refine x_topi (r1) ?_
    refine x_iconst (v := 4) dX6_isWhole_14 (by decide) ?_
    refine x_icmp_eq 38 dX6_isWhole_15 (by decide) (fun c2 => ?_) (fun c2 => ?_)
    · refine x_iconst (v := 1) dX6_isWhole_38 (by decide) ?_
      refine x_goto 43 dX6_isWhole_39 (by decide) ?_
      refine x_zret dX6_isWhole_43 rfl (by exact nar01 (by first | exact Or.inl rfl | exact Or.inr rfl | grind)) ?_
      rw [hQ]
      refine ⟨rfl, ?_⟩
      rw [bP_t (show rWh ((k, sm, ng), (c, v, d, cm), (x, y, sx, sy), X, O) from ⟨by assumption, by first | exact Or.inl (by assumption) | exact Or.inr ⟨by omega, by omega⟩⟩)]
    · refine x_aload_n dX6_isWhole_18 0 rfl ?_
      refine x_getI fl_X6_53 rfl rfl dX6_isWhole_19 ?_
      refine x_topi (r6) ?_
      refine x_if_le 42 dX6_isWhole_22 (by decide) (fun c4 => ?_) (fun c4 => ?_)
      · have c4n : d ≤ 0 := (nl_le (a := d) (b := 0) (rfl) (rfl) (by omega) (by omega)).mp c4
        refine x_iconst (v := 0) dX6_isWhole_42 (by decide) ?_
        refine x_zret dX6_isWhole_43 rfl (by exact nar01 (by first | exact Or.inl rfl | exact Or.inr rfl | grind)) ?_
        rw [hQ]
        refine ⟨rfl, ?_⟩
        rw [bP_f (show ¬ rWh ((k, sm, ng), (c, v, d, cm), (x, y, sx, sy), X, O) from fun q => by first | exact absurd (by assumption) q.1 | (rcases q.2 with z | z; exact absurd z (by assumption); omega))]
      · have c4n : 0 < d := Nat.not_le.mp (fun q => c4 ((nl_le (a := d) (b := 0) (rfl) (rfl) (by omega) (by omega)).mpr q))
        refine x_aload_n dX6_isWhole_25 0 rfl ?_
        refine x_getI fl_X6_29 rfl rfl dX6_isWhole_26 ?_
        refine x_topi (r4) ?_
        refine x_iconst (v := 1) dX6_isWhole_29 (by decide) ?_
        refine x_iadd dX6_isWhole_30 ?_
        refine x_aload_n dX6_isWhole_31 0 rfl ?_
        refine x_getI fl_X6_26 rfl rfl dX6_isWhole_32 ?_
        refine x_topi (r3) ?_
        refine x_icmp_ne 42 dX6_isWhole_35 (by decide) (fun c6 => ?_) (fun c6 => ?_)
        · have c6n : ¬ c + 1 = rNd k := fun q => c6 ((nl_eq (a := c + 1) (b := rNd k) (nadd (rfl) (rfl)) (rfl) (by omega) (by omega)).mpr q)
          refine x_iconst (v := 0) dX6_isWhole_42 (by decide) ?_
          refine x_zret dX6_isWhole_43 rfl (by exact nar01 (by first | exact Or.inl rfl | exact Or.inr rfl | grind)) ?_
          rw [hQ]
          refine ⟨rfl, ?_⟩
          rw [bP_f (show ¬ rWh ((k, sm, ng), (c, v, d, cm), (x, y, sx, sy), X, O) from fun q => by first | exact absurd (by assumption) q.1 | (rcases q.2 with z | z; exact absurd z (by assumption); omega))]
        · have c6n : c + 1 = rNd k := (nl_eq (a := c + 1) (b := rNd k) (nadd (rfl) (rfl)) (rfl) (by omega) (by omega)).mp c6
          refine x_iconst (v := 1) dX6_isWhole_38 (by decide) ?_
          refine x_goto 43 dX6_isWhole_39 (by decide) ?_
          refine x_zret dX6_isWhole_43 rfl (by exact nar01 (by first | exact Or.inl rfl | exact Or.inr rfl | grind)) ?_
          rw [hQ]
          refine ⟨rfl, ?_⟩
          rw [bP_t (show rWh ((k, sm, ng), (c, v, d, cm), (x, y, sx, sy), X, O) from ⟨by assumption, by first | exact Or.inl (by assumption) | exact Or.inr ⟨by omega, by omega⟩⟩)]
  · refine x_iconst (v := 0) dX6_isWhole_8 (by decide) ?_
    refine x_zret dX6_isWhole_9 rfl (by exact nar01 (by first | exact Or.inl rfl | exact Or.inr rfl | grind)) ?_
    rw [hQ]
    refine ⟨rfl, ?_⟩
    rw [bP_f (show ¬ rWh ((k, sm, ng), (c, v, d, cm), (x, y, sx, sy), X, O) from fun q => by first | exact absurd (by assumption) q.1 | (rcases q.2 with z | z; exact absurd z (by assumption); omega))]
set_option maxHeartbeats 1000000 in
set_option maxRecDepth 100000 in
theorem mX6_canBegin {g : gX} {V : vM} {k sm ng : Int32} {c v d cm : Nat} {x y sx sy : Int32} {X O : Nat → Int32} {i : Nat} (hI : RI i ((k, sm, ng), (c, v, d, cm), (x, y, sx, sy), X, O)) (hi : i ≤ 120) (hR : RC V ((k, sm, ng), (c, v, d, cm), (x, y, sx, sy), X, O)) (nx : Int32) : MM g jX6_canBegin V [.ref (g.2.1 37), .int nx] (pI V (bP (rCb nx ((k, sm, ng), (c, v, d, cm), (x, y, sx, sy), X, O)))) := by
  refine MM.of plX6_canBegin (Nat.le_of_ble_eq_true rfl) ?_
  obtain ⟨Q, hQ⟩ : ∃ Q : Option Value → vM → Prop, Q = (pI V (bP (rCb nx ((k, sm, ng), (c, v, d, cm), (x, y, sx, sy), X, O)))) := ⟨_, rfl⟩
  rw [← hQ]
  show XX g jX6_canBegin Q V 0 [(0, .ref (g.2.1 37)), (1, .int nx)] []
  obtain ⟨a1, a2, a3, a4, a5, a6, a7, a8, a9, a10, a11, a12⟩ := id hI
  obtain ⟨r1, r2, r3, r4, r5, r6, r7, r8, r9, r10, r11, r12, r13⟩ := id hR.1
  have r14 := hR.2
  have hnd := rNd_b k
  have hc6 := RIc hI
  refine x_aload_n dX6_canBegin_0 0 rfl ?_
  refine x_getI fl_X6_18 rfl rfl dX6_canBegin_1 ?_
  refine x_topi (r1) ?_
  refine x_iconst (v := -1) dX6_canBegin_4 (by decide) ?_
  refine x_icmp_ne 18 dX6_canBegin_5 (by decide) (fun c1 => ?_) (fun c1 => ?_)
  · refine x_aload_n dX6_canBegin_18 0 rfl ?_
    refine x_callV (K := jX6_isWhole) [] lk_X6_97 ⟨⟨rfl, rfl⟩, Nat.le_of_ble_eq_true rfl, Nat.le_of_ble_eq_true rfl⟩ rfl rfl (mX6_isWhole hI hi hR) rfl (Nat.le_of_ble_eq_true rfl) rfl dX6_canBegin_19 (kpI ?_)
    refine x_if_eq 41 dX6_canBegin_22 (by decide) (fun c2 => ?_) (fun c2 => ?_)
    · have c2n : ¬ (rWh ((k, sm, ng), (c, v, d, cm), (x, y, sx, sy), X, O)) := bP_0.mp c2
      refine x_iconst (v := 0) dX6_canBegin_41 (by decide) ?_
      refine x_zret dX6_canBegin_42 rfl (by exact nar01 (by first | exact Or.inl rfl | exact Or.inr rfl | grind)) ?_
      rw [hQ]
      refine ⟨rfl, ?_⟩
      rw [bP_f (show ¬ rCb nx ((k, sm, ng), (c, v, d, cm), (x, y, sx, sy), X, O) from fun q => by rcases q with ⟨q1, q2⟩ | ⟨q1, q2, q3⟩ <;> first | exact absurd q1 (by assumption) | exact absurd (by assumption) q1 | exact absurd q2 (by assumption) | (rcases q3 with q3 | q3 <;> first | exact absurd q3 (by assumption) | exact absurd (by assumption) q3))]
    · have c2n : (rWh ((k, sm, ng), (c, v, d, cm), (x, y, sx, sy), X, O)) := Classical.not_not.mp (fun q => c2 (bP_0.mpr q))
      refine x_aload_n dX6_canBegin_25 0 rfl ?_
      refine x_getI fl_X6_18 rfl rfl dX6_canBegin_26 ?_
      refine x_topi (r1) ?_
      refine x_iconst (v := 4) dX6_canBegin_29 (by decide) ?_
      refine x_icmp_ne 37 dX6_canBegin_30 (by decide) (fun c4 => ?_) (fun c4 => ?_)
      · refine x_iconst (v := 1) dX6_canBegin_37 (by decide) ?_
        refine x_goto 42 dX6_canBegin_38 (by decide) ?_
        refine x_zret dX6_canBegin_42 rfl (by exact nar01 (by first | exact Or.inl rfl | exact Or.inr rfl | grind)) ?_
        rw [hQ]
        refine ⟨rfl, ?_⟩
        rw [bP_t (show rCb nx ((k, sm, ng), (c, v, d, cm), (x, y, sx, sy), X, O) from by first | exact Or.inl ⟨by assumption, by assumption⟩ | exact Or.inr ⟨by assumption, by assumption, Or.inl (by assumption)⟩ | exact Or.inr ⟨by assumption, by assumption, Or.inr (by assumption)⟩)]
      · refine x_iload_n dX6_canBegin_33 1 rfl ?_
        refine x_if_ne 41 dX6_canBegin_34 (by decide) (fun c6 => ?_) (fun c6 => ?_)
        · refine x_iconst (v := 0) dX6_canBegin_41 (by decide) ?_
          refine x_zret dX6_canBegin_42 rfl (by exact nar01 (by first | exact Or.inl rfl | exact Or.inr rfl | grind)) ?_
          rw [hQ]
          refine ⟨rfl, ?_⟩
          rw [bP_f (show ¬ rCb nx ((k, sm, ng), (c, v, d, cm), (x, y, sx, sy), X, O) from fun q => by rcases q with ⟨q1, q2⟩ | ⟨q1, q2, q3⟩ <;> first | exact absurd q1 (by assumption) | exact absurd (by assumption) q1 | exact absurd q2 (by assumption) | (rcases q3 with q3 | q3 <;> first | exact absurd q3 (by assumption) | exact absurd (by assumption) q3))]
        · refine x_iconst (v := 1) dX6_canBegin_37 (by decide) ?_
          refine x_goto 42 dX6_canBegin_38 (by decide) ?_
          refine x_zret dX6_canBegin_42 rfl (by exact nar01 (by first | exact Or.inl rfl | exact Or.inr rfl | grind)) ?_
          rw [hQ]
          refine ⟨rfl, ?_⟩
          rw [bP_t (show rCb nx ((k, sm, ng), (c, v, d, cm), (x, y, sx, sy), X, O) from by first | exact Or.inl ⟨by assumption, by assumption⟩ | exact Or.inr ⟨by assumption, by assumption, Or.inl (by assumption)⟩ | exact Or.inr ⟨by assumption, by assumption, Or.inr (by assumption)⟩)]
  · refine x_iload_n dX6_canBegin_8 1 rfl ?_
    refine x_if_ne 16 dX6_canBegin_9 (by decide) (fun c9 => ?_) (fun c9 => ?_)
    · refine x_iconst (v := 0) dX6_canBegin_16 (by decide) ?_
      refine x_zret dX6_canBegin_17 rfl (by exact nar01 (by first | exact Or.inl rfl | exact Or.inr rfl | grind)) ?_
      rw [hQ]
      refine ⟨rfl, ?_⟩
      rw [bP_f (show ¬ rCb nx ((k, sm, ng), (c, v, d, cm), (x, y, sx, sy), X, O) from fun q => by rcases q with ⟨q1, q2⟩ | ⟨q1, q2, q3⟩ <;> first | exact absurd q1 (by assumption) | exact absurd (by assumption) q1 | exact absurd q2 (by assumption) | (rcases q3 with q3 | q3 <;> first | exact absurd q3 (by assumption) | exact absurd (by assumption) q3))]
    · refine x_iconst (v := 1) dX6_canBegin_12 (by decide) ?_
      refine x_goto 17 dX6_canBegin_13 (by decide) ?_
      refine x_zret dX6_canBegin_17 rfl (by exact nar01 (by first | exact Or.inl rfl | exact Or.inr rfl | grind)) ?_
      rw [hQ]
      refine ⟨rfl, ?_⟩
      rw [bP_t (show rCb nx ((k, sm, ng), (c, v, d, cm), (x, y, sx, sy), X, O) from by first | exact Or.inl ⟨by assumption, by assumption⟩ | exact Or.inr ⟨by assumption, by assumption, Or.inl (by assumption)⟩ | exact Or.inr ⟨by assumption, by assumption, Or.inr (by assumption)⟩)]
set_option maxHeartbeats 1000000 in
set_option maxRecDepth 100000 in
theorem mX6_finishNumber {g : gX} {V : vM} {k sm ng : Int32} {c v d cm : Nat} {x y sx sy : Int32} {X O : Nat → Int32} (hR : RCs V ((k, sm, ng), (c, v, d, cm), (x, y, sx, sy), X, O)) (hc : c < 6) : MM g jX6_finishNumber V [.ref (g.2.1 37)] (eV (fun U => RCs U ((k, sm, 0), (c + 1, 0, 0, cm), (x, y, sx, sy), upd X c (rSg v ng), O) ∧ fr37 V U)) := by
  refine MM.of plX6_finishNumber (Nat.le_of_ble_eq_true rfl) ?_
  obtain ⟨Q, hQ⟩ : ∃ Q : Option Value → vM → Prop, Q = (eV (fun U => RCs U ((k, sm, 0), (c + 1, 0, 0, cm), (x, y, sx, sy), upd X c (rSg v ng), O) ∧ fr37 V U)) := ⟨_, rfl⟩
  rw [← hQ]
  show XX g jX6_finishNumber Q V 0 [(0, .ref (g.2.1 37))] []
  obtain ⟨r1, r2, r3, r4, r5, r6, r7, r8, r9, r10, r11, r12, r13⟩ := id hR
  refine x_aload_n dX6_finishNumber_0 0 rfl ?_
  refine x_getI fl_X6_29 rfl rfl dX6_finishNumber_1 ?_
  refine x_topi (r4) ?_
  refine x_bipush (v := 6) dX6_finishNumber_4 (by decide) ?_
  refine x_icmp_ge 47 dX6_finishNumber_6 (by decide) (fun c1 => by exfalso; exact absurd ((nl_le (a := 6) (b := c) rfl rfl (by omega) (by omega)).mp c1) (by omega)) (fun c1 => ?_)
  refine x_aload_n dX6_finishNumber_9 0 rfl ?_
  refine x_getR fl_X6_9 rfl rfl dX6_finishNumber_10 ?_
  refine x_aload_n dX6_finishNumber_13 0 rfl ?_
  refine x_getI fl_X6_29 rfl rfl dX6_finishNumber_14 ?_
  refine x_topi (r4) ?_
  refine x_aload_n dX6_finishNumber_17 0 rfl ?_
  refine x_getI fl_X6_56 rfl rfl dX6_finishNumber_18 ?_
  refine x_topi (r7) ?_
  refine x_if_eq 32 dX6_finishNumber_21 (by decide) (fun c2 => ?_) (fun c2 => ?_)
  · refine x_aload_n dX6_finishNumber_32 0 rfl ?_
    refine x_getI fl_X6_50 rfl rfl dX6_finishNumber_33 ?_
    refine x_topi (r5) ?_
    refine x_topi (y := rSg v ng) (if_pos (by assumption)).symm ?_
    have b3 : vp_in (nI c) 6 := by exact vp_in_nI (by omega) (by decide)
    refine x_iast rfl b3 dX6_finishNumber_36 ?_
    refine YY.V (V' := uM V 41 c (rSg v ng)) (by rw [nI_clamp (by omega)]) ?_
    obtain ⟨U4, eU4⟩ : ∃ v_v : vM, v_v = uM V 41 c (rSg v ng) := ⟨_, rfl⟩
    refine YY.V eU4.symm ?_
    refine x_aload_n dX6_finishNumber_37 0 rfl ?_
    refine x_dup dX6_finishNumber_38 rfl ?_
    refine x_getI fl_X6_29 rfl rfl dX6_finishNumber_39 ?_
    refine x_topi (y := V 37 4) (by rw [eU4, uM_na (by decide)]) ?_
    refine x_topi (r4) ?_
    refine x_iconst (v := 1) dX6_finishNumber_42 (by decide) ?_
    refine x_iadd dX6_finishNumber_43 ?_
    refine x_putI fp_X6_29 rfl rfl dX6_finishNumber_44 ?_
    obtain ⟨U5, eU5⟩ : ∃ v_v : vM, v_v = uM U4 37 4 ((nI c) + 1) := ⟨_, rfl⟩
    refine YY.V eU5.symm ?_
    refine x_aload_n dX6_finishNumber_47 0 rfl ?_
    refine x_callV (K := jX6_beginNumber) [] lk_X6_47 ⟨⟨rfl, rfl⟩, Nat.le_of_ble_eq_true rfl, Nat.le_of_ble_eq_true rfl⟩ rfl rfl (mX6_beginNumber U5) rfl (Nat.le_of_ble_eq_true rfl) rfl dX6_finishNumber_48 (kdV ?_)
    obtain ⟨U6, eU6⟩ : ∃ v_v : vM, v_v = uM (uM (uM U5 37 5 0) 37 6 0) 37 7 0 := ⟨_, rfl⟩
    refine YY.V eU6.symm ?_
    refine x_vret dX6_finishNumber_51 rfl ?_
    rw [hQ]
    refine ⟨rfl, ⟨?_, ?_, ?_, ?_, ?_, ?_, ?_, ?_, ?_, ?_, ?_, ?_, fun j hj => ?_⟩, ?_⟩
    · simp [eU6, eU5, eU4, uM_at, r1]
    · simp [eU6, eU5, eU4, uM_at, r2]
    · simp [eU6, eU5, eU4, uM_at, r3]
    · simp [eU6, eU5, eU4, uM_at, nI_1]
    · simp [eU6, eU5, eU4, uM_at] <;> rfl
    · simp [eU6, eU5, eU4, uM_at] <;> rfl
    · simp [eU6, eU5, eU4, uM_at] <;> rfl
    · simp [eU6, eU5, eU4, uM_at, r8]
    · simp [eU6, eU5, eU4, uM_at, r9]
    · simp [eU6, eU5, eU4, uM_at, r10]
    · simp [eU6, eU5, eU4, uM_at, r11]
    · simp [eU6, eU5, eU4, uM_at, r12]
    · rw [eU6, uM_na (by decide), uM_na (by decide), uM_na (by decide), eU5, uM_na (by decide), eU4]
      unfold upd
      by_cases z : j = c
      · rw [if_pos z, z, uM_hit]
      · rw [if_neg z, uM_ni z]; exact r13 j (by omega)
    · exact fun b j p4 p5 => by rw [eU6, uM_na p4, uM_na p4, uM_na p4, eU5, uM_na p4, eU4, uM_na p5]
  · refine x_aload_n dX6_finishNumber_24 0 rfl ?_
    refine x_getI fl_X6_50 rfl rfl dX6_finishNumber_25 ?_
    refine x_topi (r5) ?_
    refine x_ineg dX6_finishNumber_28 ?_
    refine x_goto 36 dX6_finishNumber_29 (by decide) ?_
    refine x_topi (y := rSg v ng) (if_neg (by assumption)).symm ?_
    have b7 : vp_in (nI c) 6 := by exact vp_in_nI (by omega) (by decide)
    refine x_iast rfl b7 dX6_finishNumber_36 ?_
    refine YY.V (V' := uM V 41 c (rSg v ng)) (by rw [nI_clamp (by omega)]) ?_
    obtain ⟨U8, eU8⟩ : ∃ v_v : vM, v_v = uM V 41 c (rSg v ng) := ⟨_, rfl⟩
    refine YY.V eU8.symm ?_
    refine x_aload_n dX6_finishNumber_37 0 rfl ?_
    refine x_dup dX6_finishNumber_38 rfl ?_
    refine x_getI fl_X6_29 rfl rfl dX6_finishNumber_39 ?_
    refine x_topi (y := V 37 4) (by rw [eU8, uM_na (by decide)]) ?_
    refine x_topi (r4) ?_
    refine x_iconst (v := 1) dX6_finishNumber_42 (by decide) ?_
    refine x_iadd dX6_finishNumber_43 ?_
    refine x_putI fp_X6_29 rfl rfl dX6_finishNumber_44 ?_
    obtain ⟨U9, eU9⟩ : ∃ v_v : vM, v_v = uM U8 37 4 ((nI c) + 1) := ⟨_, rfl⟩
    refine YY.V eU9.symm ?_
    refine x_aload_n dX6_finishNumber_47 0 rfl ?_
    refine x_callV (K := jX6_beginNumber) [] lk_X6_47 ⟨⟨rfl, rfl⟩, Nat.le_of_ble_eq_true rfl, Nat.le_of_ble_eq_true rfl⟩ rfl rfl (mX6_beginNumber U9) rfl (Nat.le_of_ble_eq_true rfl) rfl dX6_finishNumber_48 (kdV ?_)
    obtain ⟨U10, eU10⟩ : ∃ v_v : vM, v_v = uM (uM (uM U9 37 5 0) 37 6 0) 37 7 0 := ⟨_, rfl⟩
    refine YY.V eU10.symm ?_
    refine x_vret dX6_finishNumber_51 rfl ?_
    rw [hQ]
    refine ⟨rfl, ⟨?_, ?_, ?_, ?_, ?_, ?_, ?_, ?_, ?_, ?_, ?_, ?_, fun j hj => ?_⟩, ?_⟩
    · simp [eU10, eU9, eU8, uM_at, r1]
    · simp [eU10, eU9, eU8, uM_at, r2]
    · simp [eU10, eU9, eU8, uM_at, r3]
    · simp [eU10, eU9, eU8, uM_at, nI_1]
    · simp [eU10, eU9, eU8, uM_at] <;> rfl
    · simp [eU10, eU9, eU8, uM_at] <;> rfl
    · simp [eU10, eU9, eU8, uM_at] <;> rfl
    · simp [eU10, eU9, eU8, uM_at, r8]
    · simp [eU10, eU9, eU8, uM_at, r9]
    · simp [eU10, eU9, eU8, uM_at, r10]
    · simp [eU10, eU9, eU8, uM_at, r11]
    · simp [eU10, eU9, eU8, uM_at, r12]
    · rw [eU10, uM_na (by decide), uM_na (by decide), uM_na (by decide), eU9, uM_na (by decide), eU8]
      unfold upd
      by_cases z : j = c
      · rw [if_pos z, z, uM_hit]
      · rw [if_neg z, uM_ni z]; exact r13 j (by omega)
    · exact fun b j p4 p5 => by rw [eU10, uM_na p4, uM_na p4, uM_na p4, eU9, uM_na p4, eU8, uM_na p5]
set_option maxHeartbeats 1000000 in
set_option maxRecDepth 100000 in
theorem mX6_takesDigit {g : gX} {V : vM} {k sm ng : Int32} {c v d cm : Nat} {x y sx sy : Int32} {X O : Nat → Int32} {i : Nat} (hI : RI i ((k, sm, ng), (c, v, d, cm), (x, y, sx, sy), X, O)) (hi : i ≤ 120) (hR : RC V ((k, sm, ng), (c, v, d, cm), (x, y, sx, sy), X, O)) (dv : Nat) (hdv : dv ≤ 9) : MM g jX6_takesDigit V [.ref (g.2.1 37), .int (nI dv)] (eI (TK V (rDg dv ((k, sm, ng), (c, v, d, cm), (x, y, sx, sy), X, O)))) := by
  refine MM.of plX6_takesDigit (Nat.le_of_ble_eq_true rfl) ?_
  obtain ⟨Q, hQ⟩ : ∃ Q : Option Value → vM → Prop, Q = (eI (TK V (rDg dv ((k, sm, ng), (c, v, d, cm), (x, y, sx, sy), X, O)))) := ⟨_, rfl⟩
  rw [← hQ]
  show XX g jX6_takesDigit Q V 0 [(0, .ref (g.2.1 37)), (1, .int (nI dv))] []
  obtain ⟨a1, a2, a3, a4, a5, a6, a7, a8, a9, a10, a11, a12⟩ := id hI
  obtain ⟨r1, r2, r3, r4, r5, r6, r7, r8, r9, r10, r11, r12, r13⟩ := id hR.1
  have r14 := hR.2
  have hnd := rNd_b k
  have hc6 := RIc hI
  refine x_aload_n dX6_takesDigit_0 0 rfl ?_
  refine x_getI fl_X6_53 rfl rfl dX6_takesDigit_1 ?_
  refine x_topi (r6) ?_
  refine x_if_le 18 dX6_takesDigit_4 (by decide) (fun c1 => ?_) (fun c1 => ?_)
  · have c1n : d ≤ 0 := (nl_le (a := d) (b := 0) (rfl) (rfl) (by omega) (by omega)).mp c1
    refine x_iconst (v := 0) dX6_takesDigit_18 (by decide) ?_
    refine x_istore_n 2 [(2, .int 0), (0, .ref (g.2.1 37)), (1, .int (nI dv))] dX6_takesDigit_19 rfl (by decide) rfl ?_
    refine x_bipush (v := 10) dX6_takesDigit_20 (by decide) ?_
    refine x_aload_n dX6_takesDigit_22 1 rfl ?_
    refine x_getI fl_X6_50 rfl rfl dX6_takesDigit_23 ?_
    refine x_topi (r5) ?_
    refine x_imul dX6_takesDigit_26 ?_
    refine x_iload_n dX6_takesDigit_27 2 rfl ?_
    refine x_iadd dX6_takesDigit_28 ?_
    refine x_topi (y := nI (10 * v + dv)) (nadd (nmul rfl rfl) rfl) ?_
    refine x_istore_n 3 [(3, .int (nI (10 * v + dv))), (2, .int 0), (0, .ref (g.2.1 37)), (1, .int (nI dv))] dX6_takesDigit_29 rfl (by decide) rfl ?_
    refine x_aload_n dX6_takesDigit_30 2 rfl ?_
    refine x_getI fl_X6_29 rfl rfl dX6_takesDigit_31 ?_
    refine x_topi (r4) ?_
    refine x_aload_n dX6_takesDigit_34 2 rfl ?_
    refine x_getI fl_X6_26 rfl rfl dX6_takesDigit_35 ?_
    refine x_topi (r3) ?_
    refine x_icmp_ge 52 dX6_takesDigit_38 (by decide) (fun c2 => ?_) (fun c2 => ?_)
    · have c2n : rNd k ≤ c := (nl_le (a := rNd k) (b := c) (rfl) (rfl) (by omega) (by omega)).mp c2
      refine x_iconst (v := 0) dX6_takesDigit_52 (by decide) ?_
      refine x_zret dX6_takesDigit_53 rfl (by exact nar01 (by first | exact Or.inl rfl | exact Or.inr rfl | grind)) ?_
      rw [hQ]
      exact ⟨_, rfl, Or.inl ⟨rfl, if_pos (by omega), rfl⟩⟩
    · have c2n : c < rNd k := Nat.not_le.mp (fun q => c2 ((nl_le (a := rNd k) (b := c) (rfl) (rfl) (by omega) (by omega)).mpr q))
      refine x_iload_n dX6_takesDigit_41 1 rfl ?_
      refine x_if_ne 52 dX6_takesDigit_42 (by decide) (fun c4 => by exfalso; revert c4; decide) (fun c4 => ?_)
      refine x_iload_n dX6_takesDigit_45 0 rfl ?_
      refine x_sipush (v := 4000) dX6_takesDigit_46 (by decide) ?_
      refine x_icmp_le 54 dX6_takesDigit_49 (by decide) (fun c5 => ?_) (fun c5 => ?_)
      · have c5n : 10 * v + dv ≤ 4000 := (nl_le (a := 10 * v + dv) (b := 4000) (rfl) (rfl) (by omega) (by omega)).mp c5
        refine x_aload_n dX6_takesDigit_54 2 rfl ?_
        refine x_iload_n dX6_takesDigit_55 0 rfl ?_
        refine x_putI fp_X6_50 rfl rfl dX6_takesDigit_56 ?_
        obtain ⟨U6, eU6⟩ : ∃ v_v : vM, v_v = uM V 37 5 (nI (10 * v + dv)) := ⟨_, rfl⟩
        refine YY.V eU6.symm ?_
        refine x_aload_n dX6_takesDigit_59 2 rfl ?_
        refine x_dup dX6_takesDigit_60 rfl ?_
        refine x_getI fl_X6_53 rfl rfl dX6_takesDigit_61 ?_
        refine x_topi (y := V 37 6) (by rw [eU6, uM_ni (by decide)]) ?_
        refine x_topi (r6) ?_
        refine x_iconst (v := 1) dX6_takesDigit_64 (by decide) ?_
        refine x_iadd dX6_takesDigit_65 ?_
        refine x_topi (y := nI (d + 1)) (nadd rfl rfl) ?_
        refine x_putI fp_X6_53 rfl rfl dX6_takesDigit_66 ?_
        obtain ⟨U7, eU7⟩ : ∃ v_v : vM, v_v = uM U6 37 6 (nI (d + 1)) := ⟨_, rfl⟩
        refine YY.V eU7.symm ?_
        refine x_iconst (v := 1) dX6_takesDigit_69 (by decide) ?_
        refine x_zret dX6_takesDigit_70 rfl (by exact nar01 (by first | exact Or.inl rfl | exact Or.inr rfl | grind)) ?_
        rw [hQ]
        refine ⟨_, rfl, Or.inr ⟨rfl, ((k, sm, ng), (c, 10 * v + dv, d + 1, cm), (x, y, sx, sy), X, O), if_neg (by omega), ⟨⟨?_, ?_, ?_, ?_, ?_, ?_, ?_, ?_, ?_, ?_, ?_, ?_, fun j hj => ?_⟩, ?_⟩, ?_⟩⟩
        · simp [eU7, eU6, uM_at, r1]
        · simp [eU7, eU6, uM_at, r2]
        · simp [eU7, eU6, uM_at, r3]
        · simp [eU7, eU6, uM_at, r4]
        · simp [eU7, eU6, uM_at]
        · simp [eU7, eU6, uM_at]
        · simp [eU7, eU6, uM_at, r7]
        · simp [eU7, eU6, uM_at, r8]
        · simp [eU7, eU6, uM_at, r9]
        · simp [eU7, eU6, uM_at, r10]
        · simp [eU7, eU6, uM_at, r11]
        · simp [eU7, eU6, uM_at, r12]
        · rw [eU7, uM_na (by decide), eU6, uM_na (by decide)]; exact r13 j hj
        · exact r14.ag (fun b j q => by rw [eU7, uM_na (by omega), eU6, uM_na (by omega)])
        · exact ((frR.refl V).st eU6 (Or.inl rfl)).st eU7 (Or.inl rfl)
      · have c5n : 4000 < 10 * v + dv := Nat.not_le.mp (fun q => c5 ((nl_le (a := 10 * v + dv) (b := 4000) (rfl) (rfl) (by omega) (by omega)).mpr q))
        refine x_iconst (v := 0) dX6_takesDigit_52 (by decide) ?_
        refine x_zret dX6_takesDigit_53 rfl (by exact nar01 (by first | exact Or.inl rfl | exact Or.inr rfl | grind)) ?_
        rw [hQ]
        exact ⟨_, rfl, Or.inl ⟨rfl, if_pos (by omega), rfl⟩⟩
  · have c1n : 0 < d := Nat.not_le.mp (fun q => c1 ((nl_le (a := d) (b := 0) (rfl) (rfl) (by omega) (by omega)).mpr q))
    refine x_aload_n dX6_takesDigit_7 0 rfl ?_
    refine x_getI fl_X6_50 rfl rfl dX6_takesDigit_8 ?_
    refine x_topi (r5) ?_
    refine x_if_ne 18 dX6_takesDigit_11 (by decide) (fun c10 => ?_) (fun c10 => ?_)
    · have c10n : ¬ v = 0 := fun q => c10 ((nl_eq (a := v) (b := 0) (rfl) (rfl) (by omega) (by omega)).mpr q)
      refine x_iconst (v := 0) dX6_takesDigit_18 (by decide) ?_
      refine x_istore_n 2 [(2, .int 0), (0, .ref (g.2.1 37)), (1, .int (nI dv))] dX6_takesDigit_19 rfl (by decide) rfl ?_
      refine x_bipush (v := 10) dX6_takesDigit_20 (by decide) ?_
      refine x_aload_n dX6_takesDigit_22 1 rfl ?_
      refine x_getI fl_X6_50 rfl rfl dX6_takesDigit_23 ?_
      refine x_topi (r5) ?_
      refine x_imul dX6_takesDigit_26 ?_
      refine x_iload_n dX6_takesDigit_27 2 rfl ?_
      refine x_iadd dX6_takesDigit_28 ?_
      refine x_topi (y := nI (10 * v + dv)) (nadd (nmul rfl rfl) rfl) ?_
      refine x_istore_n 3 [(3, .int (nI (10 * v + dv))), (2, .int 0), (0, .ref (g.2.1 37)), (1, .int (nI dv))] dX6_takesDigit_29 rfl (by decide) rfl ?_
      refine x_aload_n dX6_takesDigit_30 2 rfl ?_
      refine x_getI fl_X6_29 rfl rfl dX6_takesDigit_31 ?_
      refine x_topi (r4) ?_
      refine x_aload_n dX6_takesDigit_34 2 rfl ?_
      refine x_getI fl_X6_26 rfl rfl dX6_takesDigit_35 ?_
      refine x_topi (r3) ?_
      refine x_icmp_ge 52 dX6_takesDigit_38 (by decide) (fun c11 => ?_) (fun c11 => ?_)
      · have c11n : rNd k ≤ c := (nl_le (a := rNd k) (b := c) (rfl) (rfl) (by omega) (by omega)).mp c11
        refine x_iconst (v := 0) dX6_takesDigit_52 (by decide) ?_
        refine x_zret dX6_takesDigit_53 rfl (by exact nar01 (by first | exact Or.inl rfl | exact Or.inr rfl | grind)) ?_
        rw [hQ]
        exact ⟨_, rfl, Or.inl ⟨rfl, if_pos (by omega), rfl⟩⟩
      · have c11n : c < rNd k := Nat.not_le.mp (fun q => c11 ((nl_le (a := rNd k) (b := c) (rfl) (rfl) (by omega) (by omega)).mpr q))
        refine x_iload_n dX6_takesDigit_41 1 rfl ?_
        refine x_if_ne 52 dX6_takesDigit_42 (by decide) (fun c13 => by exfalso; revert c13; decide) (fun c13 => ?_)
        refine x_iload_n dX6_takesDigit_45 0 rfl ?_
        refine x_sipush (v := 4000) dX6_takesDigit_46 (by decide) ?_
        refine x_icmp_le 54 dX6_takesDigit_49 (by decide) (fun c14 => ?_) (fun c14 => ?_)
        · have c14n : 10 * v + dv ≤ 4000 := (nl_le (a := 10 * v + dv) (b := 4000) (rfl) (rfl) (by omega) (by omega)).mp c14
          refine x_aload_n dX6_takesDigit_54 2 rfl ?_
          refine x_iload_n dX6_takesDigit_55 0 rfl ?_
          refine x_putI fp_X6_50 rfl rfl dX6_takesDigit_56 ?_
          obtain ⟨U15, eU15⟩ : ∃ v_v : vM, v_v = uM V 37 5 (nI (10 * v + dv)) := ⟨_, rfl⟩
          refine YY.V eU15.symm ?_
          refine x_aload_n dX6_takesDigit_59 2 rfl ?_
          refine x_dup dX6_takesDigit_60 rfl ?_
          refine x_getI fl_X6_53 rfl rfl dX6_takesDigit_61 ?_
          refine x_topi (y := V 37 6) (by rw [eU15, uM_ni (by decide)]) ?_
          refine x_topi (r6) ?_
          refine x_iconst (v := 1) dX6_takesDigit_64 (by decide) ?_
          refine x_iadd dX6_takesDigit_65 ?_
          refine x_topi (y := nI (d + 1)) (nadd rfl rfl) ?_
          refine x_putI fp_X6_53 rfl rfl dX6_takesDigit_66 ?_
          obtain ⟨U16, eU16⟩ : ∃ v_v : vM, v_v = uM U15 37 6 (nI (d + 1)) := ⟨_, rfl⟩
          refine YY.V eU16.symm ?_
          refine x_iconst (v := 1) dX6_takesDigit_69 (by decide) ?_
          refine x_zret dX6_takesDigit_70 rfl (by exact nar01 (by first | exact Or.inl rfl | exact Or.inr rfl | grind)) ?_
          rw [hQ]
          refine ⟨_, rfl, Or.inr ⟨rfl, ((k, sm, ng), (c, 10 * v + dv, d + 1, cm), (x, y, sx, sy), X, O), if_neg (by omega), ⟨⟨?_, ?_, ?_, ?_, ?_, ?_, ?_, ?_, ?_, ?_, ?_, ?_, fun j hj => ?_⟩, ?_⟩, ?_⟩⟩
          · simp [eU16, eU15, uM_at, r1]
          · simp [eU16, eU15, uM_at, r2]
          · simp [eU16, eU15, uM_at, r3]
          · simp [eU16, eU15, uM_at, r4]
          · simp [eU16, eU15, uM_at]
          · simp [eU16, eU15, uM_at]
          · simp [eU16, eU15, uM_at, r7]
          · simp [eU16, eU15, uM_at, r8]
          · simp [eU16, eU15, uM_at, r9]
          · simp [eU16, eU15, uM_at, r10]
          · simp [eU16, eU15, uM_at, r11]
          · simp [eU16, eU15, uM_at, r12]
          · rw [eU16, uM_na (by decide), eU15, uM_na (by decide)]; exact r13 j hj
          · exact r14.ag (fun b j q => by rw [eU16, uM_na (by omega), eU15, uM_na (by omega)])
          · exact ((frR.refl V).st eU15 (Or.inl rfl)).st eU16 (Or.inl rfl)
        · have c14n : 4000 < 10 * v + dv := Nat.not_le.mp (fun q => c14 ((nl_le (a := 10 * v + dv) (b := 4000) (rfl) (rfl) (by omega) (by omega)).mpr q))
          refine x_iconst (v := 0) dX6_takesDigit_52 (by decide) ?_
          refine x_zret dX6_takesDigit_53 rfl (by exact nar01 (by first | exact Or.inl rfl | exact Or.inr rfl | grind)) ?_
          rw [hQ]
          exact ⟨_, rfl, Or.inl ⟨rfl, if_pos (by omega), rfl⟩⟩
    · have c10n : v = 0 := (nl_eq (a := v) (b := 0) (rfl) (rfl) (by omega) (by omega)).mp c10
      refine x_iconst (v := 1) dX6_takesDigit_14 (by decide) ?_
      refine x_goto 19 dX6_takesDigit_15 (by decide) ?_
      refine x_istore_n 2 [(2, .int 1), (0, .ref (g.2.1 37)), (1, .int (nI dv))] dX6_takesDigit_19 rfl (by decide) rfl ?_
      refine x_bipush (v := 10) dX6_takesDigit_20 (by decide) ?_
      refine x_aload_n dX6_takesDigit_22 1 rfl ?_
      refine x_getI fl_X6_50 rfl rfl dX6_takesDigit_23 ?_
      refine x_topi (r5) ?_
      refine x_imul dX6_takesDigit_26 ?_
      refine x_iload_n dX6_takesDigit_27 2 rfl ?_
      refine x_iadd dX6_takesDigit_28 ?_
      refine x_topi (y := nI (10 * v + dv)) (nadd (nmul rfl rfl) rfl) ?_
      refine x_istore_n 3 [(3, .int (nI (10 * v + dv))), (2, .int 1), (0, .ref (g.2.1 37)), (1, .int (nI dv))] dX6_takesDigit_29 rfl (by decide) rfl ?_
      refine x_aload_n dX6_takesDigit_30 2 rfl ?_
      refine x_getI fl_X6_29 rfl rfl dX6_takesDigit_31 ?_
      refine x_topi (r4) ?_
      refine x_aload_n dX6_takesDigit_34 2 rfl ?_
      refine x_getI fl_X6_26 rfl rfl dX6_takesDigit_35 ?_
      refine x_topi (r3) ?_
      refine x_icmp_ge 52 dX6_takesDigit_38 (by decide) (fun c19 => ?_) (fun c19 => ?_)
      · have c19n : rNd k ≤ c := (nl_le (a := rNd k) (b := c) (rfl) (rfl) (by omega) (by omega)).mp c19
        refine x_iconst (v := 0) dX6_takesDigit_52 (by decide) ?_
        refine x_zret dX6_takesDigit_53 rfl (by exact nar01 (by first | exact Or.inl rfl | exact Or.inr rfl | grind)) ?_
        rw [hQ]
        exact ⟨_, rfl, Or.inl ⟨rfl, if_pos (by omega), rfl⟩⟩
      · have c19n : c < rNd k := Nat.not_le.mp (fun q => c19 ((nl_le (a := rNd k) (b := c) (rfl) (rfl) (by omega) (by omega)).mpr q))
        refine x_iload_n dX6_takesDigit_41 1 rfl ?_
        refine x_if_ne 52 dX6_takesDigit_42 (by decide) (fun c21 => ?_) (fun c21 => by exfalso; revert c21; decide)
        refine x_iconst (v := 0) dX6_takesDigit_52 (by decide) ?_
        refine x_zret dX6_takesDigit_53 rfl (by exact nar01 (by first | exact Or.inl rfl | exact Or.inr rfl | grind)) ?_
        rw [hQ]
        exact ⟨_, rfl, Or.inl ⟨rfl, if_pos (by omega), rfl⟩⟩
set_option maxHeartbeats 1000000 in
set_option maxRecDepth 100000 in
theorem mX6_takesMinus {g : gX} {V : vM} {k sm ng : Int32} {c v d cm : Nat} {x y sx sy : Int32} {X O : Nat → Int32} {i : Nat} (hI : RI i ((k, sm, ng), (c, v, d, cm), (x, y, sx, sy), X, O)) (hi : i ≤ 120) (hR : RC V ((k, sm, ng), (c, v, d, cm), (x, y, sx, sy), X, O)) : MM g jX6_takesMinus V [.ref (g.2.1 37)] (eI (TK V (rMi ((k, sm, ng), (c, v, d, cm), (x, y, sx, sy), X, O)))) := by
  refine MM.of plX6_takesMinus (Nat.le_of_ble_eq_true rfl) ?_
  obtain ⟨Q, hQ⟩ : ∃ Q : Option Value → vM → Prop, Q = (eI (TK V (rMi ((k, sm, ng), (c, v, d, cm), (x, y, sx, sy), X, O)))) := ⟨_, rfl⟩
  rw [← hQ]
  show XX g jX6_takesMinus Q V 0 [(0, .ref (g.2.1 37))] []
  obtain ⟨a1, a2, a3, a4, a5, a6, a7, a8, a9, a10, a11, a12⟩ := id hI
  obtain ⟨r1, r2, r3, r4, r5, r6, r7, r8, r9, r10, r11, r12, r13⟩ := id hR.1
  have r14 := hR.2
  have hnd := rNd_b k
  have hc6 := RIc hI
  refine x_aload_n dX6_takesMinus_0 0 rfl ?_
  refine x_getI fl_X6_29 rfl rfl dX6_takesMinus_1 ?_
  refine x_topi (r4) ?_
  refine x_aload_n dX6_takesMinus_4 0 rfl ?_
  refine x_getI fl_X6_26 rfl rfl dX6_takesMinus_5 ?_
  refine x_topi (r3) ?_
  refine x_icmp_ge 25 dX6_takesMinus_8 (by decide) (fun c1 => ?_) (fun c1 => ?_)
  · have c1n : rNd k ≤ c := (nl_le (a := rNd k) (b := c) (rfl) (rfl) (by omega) (by omega)).mp c1
    refine x_iconst (v := 0) dX6_takesMinus_25 (by decide) ?_
    refine x_zret dX6_takesMinus_26 rfl (by exact nar01 (by first | exact Or.inl rfl | exact Or.inr rfl | grind)) ?_
    rw [hQ]
    exact ⟨_, rfl, Or.inl ⟨rfl, if_pos (by first | exact Or.inl (by omega) | exact Or.inr (Or.inl (by assumption)) | exact Or.inr (Or.inr (by omega))), rfl⟩⟩
  · have c1n : c < rNd k := Nat.not_le.mp (fun q => c1 ((nl_le (a := rNd k) (b := c) (rfl) (rfl) (by omega) (by omega)).mpr q))
    refine x_aload_n dX6_takesMinus_11 0 rfl ?_
    refine x_getI fl_X6_56 rfl rfl dX6_takesMinus_12 ?_
    refine x_topi (r7) ?_
    refine x_if_ne 25 dX6_takesMinus_15 (by decide) (fun c3 => ?_) (fun c3 => ?_)
    · refine x_iconst (v := 0) dX6_takesMinus_25 (by decide) ?_
      refine x_zret dX6_takesMinus_26 rfl (by exact nar01 (by first | exact Or.inl rfl | exact Or.inr rfl | grind)) ?_
      rw [hQ]
      exact ⟨_, rfl, Or.inl ⟨rfl, if_pos (by first | exact Or.inl (by omega) | exact Or.inr (Or.inl (by assumption)) | exact Or.inr (Or.inr (by omega))), rfl⟩⟩
    · refine x_aload_n dX6_takesMinus_18 0 rfl ?_
      refine x_getI fl_X6_53 rfl rfl dX6_takesMinus_19 ?_
      refine x_topi (r6) ?_
      refine x_if_le 27 dX6_takesMinus_22 (by decide) (fun c5 => ?_) (fun c5 => ?_)
      · have c5n : d ≤ 0 := (nl_le (a := d) (b := 0) (rfl) (rfl) (by omega) (by omega)).mp c5
        refine x_aload_n dX6_takesMinus_27 0 rfl ?_
        refine x_iconst (v := 1) dX6_takesMinus_28 (by decide) ?_
        have z6 : (1 : Int32) = 0 ∨ (1 : Int32) = 1 := by first | exact Or.inl rfl | exact Or.inr rfl | grind
        refine x_putZ fp_X6_56 rfl rfl z6 dX6_takesMinus_29 ?_
        obtain ⟨U7, eU7⟩ : ∃ v_v : vM, v_v = uM V 37 7 1 := ⟨_, rfl⟩
        refine YY.V eU7.symm ?_
        refine x_iconst (v := 1) dX6_takesMinus_32 (by decide) ?_
        refine x_zret dX6_takesMinus_33 rfl (by exact nar01 (by first | exact Or.inl rfl | exact Or.inr rfl | grind)) ?_
        rw [hQ]
        refine ⟨_, rfl, Or.inr ⟨rfl, ((k, sm, 1), (c, v, d, cm), (x, y, sx, sy), X, O), if_neg (fun q => by rcases q with q | q | q; omega; exact absurd (by assumption) q; omega), ⟨⟨?_, ?_, ?_, ?_, ?_, ?_, ?_, ?_, ?_, ?_, ?_, ?_, fun j hj => ?_⟩, ?_⟩, ?_⟩⟩
        · simp [eU7, uM_at, r1]
        · simp [eU7, uM_at, r2]
        · simp [eU7, uM_at, r3]
        · simp [eU7, uM_at, r4]
        · simp [eU7, uM_at, r5]
        · simp [eU7, uM_at, r6]
        · simp [eU7, uM_at]
        · simp [eU7, uM_at, r8]
        · simp [eU7, uM_at, r9]
        · simp [eU7, uM_at, r10]
        · simp [eU7, uM_at, r11]
        · simp [eU7, uM_at, r12]
        · rw [eU7, uM_na (by decide)]; exact r13 j hj
        · exact r14.ag (fun b j q => by rw [eU7, uM_na (by omega)])
        · exact (frR.refl V).st eU7 (Or.inl rfl)
      · have c5n : 0 < d := Nat.not_le.mp (fun q => c5 ((nl_le (a := d) (b := 0) (rfl) (rfl) (by omega) (by omega)).mpr q))
        refine x_iconst (v := 0) dX6_takesMinus_25 (by decide) ?_
        refine x_zret dX6_takesMinus_26 rfl (by exact nar01 (by first | exact Or.inl rfl | exact Or.inr rfl | grind)) ?_
        rw [hQ]
        exact ⟨_, rfl, Or.inl ⟨rfl, if_pos (by first | exact Or.inl (by omega) | exact Or.inr (Or.inl (by assumption)) | exact Or.inr (Or.inr (by omega))), rfl⟩⟩
set_option maxHeartbeats 1000000 in
set_option maxRecDepth 100000 in
theorem mX6_takesComma {g : gX} {V : vM} {k sm ng : Int32} {c v d cm : Nat} {x y sx sy : Int32} {X O : Nat → Int32} {i : Nat} (hI : RI i ((k, sm, ng), (c, v, d, cm), (x, y, sx, sy), X, O)) (hi : i ≤ 120) (hR : RC V ((k, sm, ng), (c, v, d, cm), (x, y, sx, sy), X, O)) : MM g jX6_takesComma V [.ref (g.2.1 37)] (eI (TK V (rCo ((k, sm, ng), (c, v, d, cm), (x, y, sx, sy), X, O)))) := by
  refine MM.of plX6_takesComma (Nat.le_of_ble_eq_true rfl) ?_
  obtain ⟨Q, hQ⟩ : ∃ Q : Option Value → vM → Prop, Q = (eI (TK V (rCo ((k, sm, ng), (c, v, d, cm), (x, y, sx, sy), X, O)))) := ⟨_, rfl⟩
  rw [← hQ]
  show XX g jX6_takesComma Q V 0 [(0, .ref (g.2.1 37))] []
  obtain ⟨a1, a2, a3, a4, a5, a6, a7, a8, a9, a10, a11, a12⟩ := id hI
  obtain ⟨r1, r2, r3, r4, r5, r6, r7, r8, r9, r10, r11, r12, r13⟩ := id hR.1
  have r14 := hR.2
  have hnd := rNd_b k
  have hc6 := RIc hI
  refine x_aload_n dX6_takesComma_0 0 rfl ?_
  refine x_getI fl_X6_53 rfl rfl dX6_takesComma_1 ?_
  refine x_topi (r6) ?_
  refine x_if_eq 20 dX6_takesComma_4 (by decide) (fun c1 => ?_) (fun c1 => ?_)
  · have c1n : d = 0 := (nl_eq (a := d) (b := 0) (rfl) (rfl) (by omega) (by omega)).mp c1
    refine x_iconst (v := 0) dX6_takesComma_20 (by decide) ?_
    refine x_zret dX6_takesComma_21 rfl (by exact nar01 (by first | exact Or.inl rfl | exact Or.inr rfl | grind)) ?_
    rw [hQ]
    exact ⟨_, rfl, Or.inl ⟨rfl, if_pos (by omega), rfl⟩⟩
  · have c1n : ¬ d = 0 := fun q => c1 ((nl_eq (a := d) (b := 0) (rfl) (rfl) (by omega) (by omega)).mpr q)
    refine x_aload_n dX6_takesComma_7 0 rfl ?_
    refine x_getI fl_X6_29 rfl rfl dX6_takesComma_8 ?_
    refine x_topi (r4) ?_
    refine x_iconst (v := 1) dX6_takesComma_11 (by decide) ?_
    refine x_iadd dX6_takesComma_12 ?_
    refine x_aload_n dX6_takesComma_13 0 rfl ?_
    refine x_getI fl_X6_26 rfl rfl dX6_takesComma_14 ?_
    refine x_topi (r3) ?_
    refine x_icmp_lt 22 dX6_takesComma_17 (by decide) (fun c3 => ?_) (fun c3 => ?_)
    · have c3n : c + 1 < rNd k := (nl_lt (a := c + 1) (b := rNd k) (nadd (rfl) (rfl)) (rfl) (by omega) (by omega)).mp c3
      refine x_aload_n dX6_takesComma_22 0 rfl ?_
      refine x_callV (K := jX6_finishNumber) [] lk_X6_74 ⟨⟨rfl, rfl⟩, Nat.le_of_ble_eq_true rfl, Nat.le_of_ble_eq_true rfl⟩ rfl rfl (mX6_finishNumber hR.1 (by omega)) rfl (Nat.le_of_ble_eq_true rfl) rfl dX6_takesComma_23 (keV fun U4 hU5 => ?_)
      refine x_iconst (v := 1) dX6_takesComma_26 (by decide) ?_
      refine x_zret dX6_takesComma_27 rfl (by exact nar01 (by first | exact Or.inl rfl | exact Or.inr rfl | grind)) ?_
      rw [hQ]
      exact ⟨_, rfl, Or.inr ⟨rfl, ((k, sm, 0), (c + 1, 0, 0, cm), (x, y, sx, sy), upd X c (rSg v ng), O), if_neg (by omega), ⟨hU5.1, r14.ag (fun b j q => hU5.2 b j (by omega) (by omega))⟩, fun a j p1 p2 p3 p4 p5 => hU5.2 a j p4 p5⟩⟩
    · have c3n : rNd k ≤ c + 1 := Nat.not_lt.mp (fun q => c3 ((nl_lt (a := c + 1) (b := rNd k) (nadd (rfl) (rfl)) (rfl) (by omega) (by omega)).mpr q))
      refine x_iconst (v := 0) dX6_takesComma_20 (by decide) ?_
      refine x_zret dX6_takesComma_21 rfl (by exact nar01 (by first | exact Or.inl rfl | exact Or.inr rfl | grind)) ?_
      rw [hQ]
      exact ⟨_, rfl, Or.inl ⟨rfl, if_pos (by omega), rfl⟩⟩
