def winZ (S : FS) (fb : Nat → Nat) (x y : Int32) : Int32 := if (-4000 ≤ x ∧ x ≤ 4000) ∧ (-4000 ≤ y ∧ y ≤ 4000) then wnd S fb x y S.2.1 else -1000002
set_option maxHeartbeats 1000000 in
set_option maxRecDepth 100000 in
theorem mX1_windingAround {g : gX} {V : vM} {S : FS} {fb : Nat → Nat} (hF : FRC V S) (hG : GI S fb) (h24 : S.2.1 ≤ 24) (h15 : S.1 ≤ 1536) (hR : ∀ i, i < S.1 → inR (S.2.2 0 i) ∧ inR (S.2.2 1 i)) (x y : Int32) (hx : inR x) (hy : inR y) : MM g jX1_windingAround V [.ref (g.2.1 6), .int x, .int y] (pI V (wnd S fb x y S.2.1)) := by
  refine MM.of plX1_windingAround (Nat.le_of_ble_eq_true rfl) ?_
  obtain ⟨Q, hQ⟩ : ∃ Q : Option Value → vM → Prop, Q = (pI V (wnd S fb x y S.2.1)) := ⟨_, rfl⟩
  rw [← hQ]
  show XX g jX1_windingAround Q V 0 [(0, .ref (g.2.1 6)), (1, .int x), (2, .int y)] []
  refine x_iconst (v := 0) dX1_windingAround_0 (by decide) ?_
  refine x_istore_n 3 [(3, .int 0), (0, .ref (g.2.1 6)), (1, .int x), (2, .int y)] dX1_windingAround_1 rfl (by decide) rfl ?_
  refine x_iconst (v := 0) dX1_windingAround_2 (by decide) ?_
  refine x_istore 4 [(4, .int 0), (3, .int 0), (0, .ref (g.2.1 6)), (1, .int x), (2, .int y)] dX1_windingAround_3 (by decide) rfl ?_
  have lp1 : ∀ (fu : Nat) (k : Nat), (k ≤ S.2.1) → (S.2.1 - k) < fu → XX g jX1_windingAround Q V 5 [(4, .int (nI k)), (3, .int (wnd S fb x y k)), (0, .ref (g.2.1 6)), (1, .int x), (2, .int y)] [] := by
    intro fu
    induction fu with
    | zero => intro _ _ hmz; exact absurd hmz (Nat.not_lt_zero _)
    | succ fu ih =>
      intro k hk hmz
      refine x_iload dX1_windingAround_5 0 rfl ?_
      refine x_aload_n dX1_windingAround_7 2 rfl ?_
      refine x_getI fl_X1_42 rfl rfl dX1_windingAround_8 ?_
      refine x_topi (hF.2.1) ?_
      refine x_icmp_ge 68 dX1_windingAround_11 (by decide) (fun c2 => ?_) (fun c2 => ?_)
      · have c2n : S.2.1 ≤ k := (nl_le (a := S.2.1) (b := k) (rfl) (rfl) (by omega) (by omega)).mp c2
        refine x_iload_n dX1_windingAround_68 1 rfl ?_
        refine x_iret dX1_windingAround_69 rfl ?_
        rw [hQ]
        refine ⟨rfl, ?_⟩
        rw [show k = S.2.1 by omega]
      · have c2n : k < S.2.1 := Nat.not_le.mp (fun q => c2 ((nl_le (a := S.2.1) (b := k) (rfl) (rfl) (by omega) (by omega)).mpr q))
        have hkS : k < S.2.1 := by omega
        have hkb := hG.bd (j := k + 1) (by omega)
        have hkl := (hG.2.2.2 k hkS).1
        have hV0 : V 24 k = nI (fb k) := by rw [hF.2.2.2.1 k (by omega), hG.2.2.1 k (by omega)]
        have hV1 : V 24 (k + 1) = nI (fb (k + 1)) := by rw [hF.2.2.2.1 (k + 1) (by omega), hG.2.2.1 (k + 1) (by omega)]
        refine x_aload_n dX1_windingAround_14 2 rfl ?_
        refine x_getR fl_X1_24 rfl rfl dX1_windingAround_15 ?_
        refine x_iload dX1_windingAround_18 0 rfl ?_
        have b3 : vp_in (nI k) 25 := by exact vp_in_nI (by omega) (by decide)
        refine x_iald rfl b3 dX1_windingAround_20 ?_
        refine x_topi (y := V 24 k) (by rw [nI_clamp (by omega)]) ?_
        refine x_topi (hV0) ?_
        refine x_istore 5 [(5, .int (nI (fb k))), (4, .int (nI k)), (3, .int (wnd S fb x y k)), (0, .ref (g.2.1 6)), (1, .int x), (2, .int y)] dX1_windingAround_21 (by decide) rfl ?_
        have lp4 : ∀ (fu1 : Nat) (j : Nat), (fb k + j ≤ fb (k + 1)) → (fb (k + 1) - (fb k + j)) < fu1 → XX g jX1_windingAround Q V 23 [(5, .int (nI (fb k + j))), (4, .int (nI k)), (3, .int (ccy (wnd S fb x y k) (crh S x y) (fb k) (fb (k + 1)) j)), (0, .ref (g.2.1 6)), (1, .int x), (2, .int y)] [] := by
          intro fu1
          induction fu1 with
          | zero => intro _ _ hmz; exact absurd hmz (Nat.not_lt_zero _)
          | succ fu1 ih1 =>
            intro j hj hmz
            refine x_iload dX1_windingAround_23 0 rfl ?_
            refine x_aload_n dX1_windingAround_25 3 rfl ?_
            refine x_getR fl_X1_24 rfl rfl dX1_windingAround_26 ?_
            refine x_iload dX1_windingAround_29 1 rfl ?_
            refine x_iconst (v := 1) dX1_windingAround_31 (by decide) ?_
            refine x_iadd dX1_windingAround_32 ?_
            have q5 : ((nI k) + 1 : Int32) = nI (k + 1) := nadd (rfl) (rfl)
            refine YY.S (st' := [.int (nI (k + 1)), .ref (g.2.1 24), .int (nI (fb k + j))]) (by rw [q5]) ?_
            have b6 : vp_in (nI (k + 1)) 25 := by exact vp_in_nI (by omega) (by decide)
            refine x_iald rfl b6 dX1_windingAround_33 ?_
            refine x_topi (y := V 24 (k + 1)) (by rw [nI_clamp (by omega)]) ?_
            refine x_topi (hV1) ?_
            refine x_icmp_ge 62 dX1_windingAround_34 (by decide) (fun c7 => ?_) (fun c7 => ?_)
            · have c7n : fb (k + 1) ≤ fb k + j := (nl_le (a := fb (k + 1)) (b := fb k + j) (rfl) (rfl) (by omega) (by omega)).mp c7
              refine x_iinc 4 (v := (nI k) + 1) 1 [(4, .int ((nI k) + 1)), (5, .int (nI (fb k + j))), (3, .int (ccy (wnd S fb x y k) (crh S x y) (fb k) (fb (k + 1)) j)), (0, .ref (g.2.1 6)), (1, .int x), (2, .int y)] dX1_windingAround_62 rfl (by rfl) (by decide) rfl ?_
              refine x_goto 5 dX1_windingAround_65 (by decide) ?_
              refine x_lv [0, 2, 3, 4, 5] rfl ?_
              refine YY.L (lv' := [(4, .int (nI (k + 1))), (3, .int (wnd S fb x y (k + 1))), (0, .ref (g.2.1 6)), (1, .int x), (2, .int y)]) (by rw [nI_1, show j = fb (k + 1) - fb k by omega]; rfl) ?_
              exact ih (k + 1) (by omega) (by omega)
            · have c7n : fb k + j < fb (k + 1) := Nat.not_le.mp (fun q => c7 ((nl_le (a := fb (k + 1)) (b := fb k + j) (rfl) (rfl) (by omega) (by omega)).mpr q))
              refine x_iload_n dX1_windingAround_37 2 rfl ?_
              refine x_aload_n dX1_windingAround_38 3 rfl ?_
              refine x_aload_n dX1_windingAround_39 3 rfl ?_
              refine x_iload dX1_windingAround_40 0 rfl ?_
              refine x_iload dX1_windingAround_42 1 rfl ?_
              refine x_callV (K := jX1_vertexBefore) [.int (nI (fb k + j)), .int (nI k)] lk_X1_156 ⟨⟨rfl, rfl⟩, Nat.le_of_ble_eq_true rfl, Nat.le_of_ble_eq_true rfl⟩ rfl rfl (mX1_vertexBefore hF hG h24 h15 k (by omega) (fb k + j) ⟨by omega, by omega⟩) rfl (Nat.le_of_ble_eq_true rfl) rfl dX1_windingAround_44 (kpI ?_)
              have hbef : bef (fb k) (fb (k + 1)) (fb k + j) < S.1 := by unfold bef; split <;> omega
              refine x_iload dX1_windingAround_47 0 rfl ?_
              refine x_iload_n dX1_windingAround_49 4 rfl ?_
              refine x_iload_n dX1_windingAround_50 5 rfl ?_
              refine x_callV (K := jX1_crossing) [.int (nI (bef (fb k) (fb (k + 1)) (fb k + j))), .int (nI (fb k + j)), .int x, .int y] lk_X1_159 ⟨⟨rfl, rfl⟩, Nat.le_of_ble_eq_true rfl, Nat.le_of_ble_eq_true rfl⟩ rfl rfl (mX1_crossing hF hG h24 h15 (bef (fb k) (fb (k + 1)) (fb k + j)) (fb k + j) (by omega) (by omega) hR x y hx hy) rfl (Nat.le_of_ble_eq_true rfl) rfl dX1_windingAround_51 (kpI ?_)
              refine x_iadd dX1_windingAround_54 ?_
              refine x_istore_n 3 [(3, .int ((ccy (wnd S fb x y k) (crh S x y) (fb k) (fb (k + 1)) j) + (crh S x y (bef (fb k) (fb (k + 1)) (fb k + j)) (fb k + j)))), (5, .int (nI (fb k + j))), (4, .int (nI k)), (0, .ref (g.2.1 6)), (1, .int x), (2, .int y)] dX1_windingAround_55 rfl (by decide) rfl ?_
              refine x_iinc 5 (v := (nI (fb k + j)) + 1) 1 [(5, .int ((nI (fb k + j)) + 1)), (3, .int ((ccy (wnd S fb x y k) (crh S x y) (fb k) (fb (k + 1)) j) + (crh S x y (bef (fb k) (fb (k + 1)) (fb k + j)) (fb k + j)))), (4, .int (nI k)), (0, .ref (g.2.1 6)), (1, .int x), (2, .int y)] dX1_windingAround_56 rfl (by rfl) (by decide) rfl ?_
              refine x_goto 23 dX1_windingAround_59 (by decide) ?_
              refine x_lv [0, 2, 1, 3, 4, 5] rfl ?_
              refine YY.L (lv' := [(5, .int (nI (fb k + (j + 1)))), (4, .int (nI k)), (3, .int (ccy (wnd S fb x y k) (crh S x y) (fb k) (fb (k + 1)) (j + 1))), (0, .ref (g.2.1 6)), (1, .int x), (2, .int y)]) (by simp only [nI_1]; rfl) ?_
              exact ih1 (j + 1) (by omega) (by omega)
        refine YY.L (lv' := [(5, .int (nI (fb k + 0))), (4, .int (nI k)), (3, .int (ccy (wnd S fb x y k) (crh S x y) (fb k) (fb (k + 1)) 0)), (0, .ref (g.2.1 6)), (1, .int x), (2, .int y)]) (by rfl) ?_
        exact lp4 _ 0 (by omega) (Nat.lt_succ_self _)
  refine YY.L (lv' := [(4, .int (nI 0)), (3, .int (wnd S fb x y 0)), (0, .ref (g.2.1 6)), (1, .int x), (2, .int y)]) (by rfl) ?_
  exact lp1 _ 0 (by omega) (Nat.lt_succ_self _)
set_option maxHeartbeats 1000000 in
set_option maxRecDepth 100000 in
theorem mX9_winding {g : gX} {V : vM} {m : Nat → Int32} {N : Nat} {t : Int32} {S : FS} {fb : Nat → Nat} (hCQ : CQ V m N t S fb) (x y : Int32) : MM g jX9_winding V [.ref (g.2.1 0), .int x, .int y] (eI (fun z U => z = winZ S fb x y ∧ CQ U m N t S fb ∧ frQ V U)) := by
  refine MM.of plX9_winding (Nat.le_of_ble_eq_true rfl) ?_
  obtain ⟨Q, hQ⟩ : ∃ Q : Option Value → vM → Prop, Q = (eI (fun z U => z = winZ S fb x y ∧ CQ U m N t S fb ∧ frQ V U)) := ⟨_, rfl⟩
  rw [← hQ]
  show XX g jX9_winding Q V 0 [(0, .ref (g.2.1 0)), (1, .int x), (2, .int y)] []
  obtain ⟨hC, hS, hG, h24, h15, hcn, hL⟩ := id hCQ
  have hP0 := hC.1
  have hV13 : V 1 3 = nI S.2.1 := by rw [hP0.2.1, hcn]
  have hN24 := hP0.2.2.1.1
  have hcl := cntM_le (kd7 m) N
  refine x_iload_n dX9_winding_0 1 rfl ?_
  refine x_callS (K := jX9_fits) [.int x] lk_X9_79 ⟨⟨rfl, rfl⟩, Nat.le_of_ble_eq_true rfl, Nat.le_of_ble_eq_true rfl⟩ (mX9_fits V x) rfl (Nat.le_of_ble_eq_true rfl) rfl dX9_winding_1 (kpI ?_)
  refine x_if_eq 14 dX9_winding_4 (by decide) (fun c1 => ?_) (fun c1 => ?_)
  · have c1n : ¬ (-4000 ≤ x ∧ x ≤ 4000) := iB_0.mp c1
    refine x_ldc ct_X9_83 dX9_winding_14 ?_
    refine x_iret dX9_winding_16 rfl ?_
    rw [hQ]
    unfold winZ
    first
      | exact ⟨_, rfl, by rw [if_pos ⟨by assumption, by assumption⟩], hCQ2, hFr⟩
      | exact ⟨_, rfl, by rw [if_neg (fun q => by first | exact absurd q.1 (by assumption) | exact absurd q.2 (by assumption))], hCQ, frQ.refl V⟩
  · have c1n : (-4000 ≤ x ∧ x ≤ 4000) := Classical.not_not.mp (fun q => c1 (iB_0.mpr q))
    refine x_iload_n dX9_winding_7 2 rfl ?_
    refine x_callS (K := jX9_fits) [.int y] lk_X9_79 ⟨⟨rfl, rfl⟩, Nat.le_of_ble_eq_true rfl, Nat.le_of_ble_eq_true rfl⟩ (mX9_fits V y) rfl (Nat.le_of_ble_eq_true rfl) rfl dX9_winding_8 (kpI ?_)
    refine x_if_ne 17 dX9_winding_11 (by decide) (fun c2 => ?_) (fun c2 => ?_)
    · have c2n : (-4000 ≤ y ∧ y ≤ 4000) := Classical.not_not.mp (fun q => c2 (iB_0.mpr q))
      refine x_aload_n dX9_winding_17 0 rfl ?_
      refine x_callV (K := jX9_flattened) [] lk_X9_118 ⟨⟨rfl, rfl⟩, Nat.le_of_ble_eq_true rfl, Nat.le_of_ble_eq_true rfl⟩ rfl rfl (mX9_flattened hC) rfl (Nat.le_of_ble_eq_true rfl) rfl dX9_winding_18 (keR fun U3 hU4 => ?_)
      have hCQ2 := hCQ.aft hU4
      have hFr := hU4.2.2
      have hF : FRC U3 S := by rw [← hS]; exact hU4.1
      have hPU := hCQ2.1.1
      have hU13 : U3 1 3 = nI (S.2.1) := by rw [hPU.2.1, hcn]
      refine x_iload_n dX9_winding_21 1 rfl ?_
      refine x_iload_n dX9_winding_22 2 rfl ?_
      refine x_callV (K := jX1_windingAround) [.int x, .int y] lk_X9_207 ⟨⟨rfl, rfl⟩, Nat.le_of_ble_eq_true rfl, Nat.le_of_ble_eq_true rfl⟩ rfl rfl (mX1_windingAround hF hG h24 h15 (fall_inr hP0.2.2.1 hS) x y (by assumption) (by assumption)) rfl (Nat.le_of_ble_eq_true rfl) rfl dX9_winding_23 (kpI ?_)
      refine x_iret dX9_winding_26 rfl ?_
      rw [hQ]
      unfold winZ
      first
        | exact ⟨_, rfl, by rw [if_pos ⟨by assumption, by assumption⟩], hCQ2, hFr⟩
        | exact ⟨_, rfl, by rw [if_neg (fun q => by first | exact absurd q.1 (by assumption) | exact absurd q.2 (by assumption))], hCQ, frQ.refl V⟩
    · have c2n : ¬ (-4000 ≤ y ∧ y ≤ 4000) := iB_0.mp c2
      refine x_ldc ct_X9_83 dX9_winding_14 ?_
      refine x_iret dX9_winding_16 rfl ?_
      rw [hQ]
      unfold winZ
      first
        | exact ⟨_, rfl, by rw [if_pos ⟨by assumption, by assumption⟩], hCQ2, hFr⟩
        | exact ⟨_, rfl, by rw [if_neg (fun q => by first | exact absurd q.1 (by assumption) | exact absurd q.2 (by assumption))], hCQ, frQ.refl V⟩
set_option maxHeartbeats 1000000 in
set_option maxRecDepth 100000 in
theorem mX10_winding {g : gX} {V : vM} {m : Nat → Int32} {N : Nat} {t : Int32} {S : FS} {fb : Nat → Nat} (hMQ : MZ V m N t S fb) (x y : Int32) : MM g jX10_winding V [.ref (g.2.1 49), .int x, .int y] (eI (fun z U => z = winZ S fb x y ∧ MZ U m N t S fb ∧ frM V U)) := by
  refine MM.of plX10_winding (Nat.le_of_ble_eq_true rfl) ?_
  obtain ⟨Q, hQ⟩ : ∃ Q : Option Value → vM → Prop, Q = (eI (fun z U => z = winZ S fb x y ∧ MZ U m N t S fb ∧ frM V U)) := ⟨_, rfl⟩
  rw [← hQ]
  show XX g jX10_winding Q V 0 [(0, .ref (g.2.1 49)), (1, .int x), (2, .int y)] []
  obtain ⟨hw, hm50, hN8, ht9, hS, hG, h24, h15, hcn, hL⟩ := id hMQ
  have hN24 := hw.1
  have hcl := cntM_le (kd7 m) N
  refine x_iload_n dX10_winding_0 1 rfl ?_
  refine x_callS (K := jX10_isPlace) [.int x] lk_X10_84 ⟨⟨rfl, rfl⟩, Nat.le_of_ble_eq_true rfl, Nat.le_of_ble_eq_true rfl⟩ (mX10_isPlace V x) rfl (Nat.le_of_ble_eq_true rfl) rfl dX10_winding_1 (kpI ?_)
  refine x_if_eq 14 dX10_winding_4 (by decide) (fun c1 => ?_) (fun c1 => ?_)
  · have c1n : ¬ (-4000 ≤ x ∧ x ≤ 4000) := iB_0.mp c1
    refine x_ldc ct_X10_88 dX10_winding_14 ?_
    refine x_iret dX10_winding_16 rfl ?_
    rw [hQ]
    unfold winZ
    first
      | exact ⟨_, rfl, by rw [if_pos ⟨by assumption, by assumption⟩, show k = S.2.1 by omega], hMQ2, hFr⟩
      | exact ⟨_, rfl, by rw [if_neg (fun q => by first | exact absurd q.1 (by assumption) | exact absurd q.2 (by assumption))], hMQ, frM.refl V⟩
  · have c1n : (-4000 ≤ x ∧ x ≤ 4000) := Classical.not_not.mp (fun q => c1 (iB_0.mpr q))
    refine x_iload_n dX10_winding_7 2 rfl ?_
    refine x_callS (K := jX10_isPlace) [.int y] lk_X10_84 ⟨⟨rfl, rfl⟩, Nat.le_of_ble_eq_true rfl, Nat.le_of_ble_eq_true rfl⟩ (mX10_isPlace V y) rfl (Nat.le_of_ble_eq_true rfl) rfl dX10_winding_8 (kpI ?_)
    refine x_if_ne 17 dX10_winding_11 (by decide) (fun c2 => ?_) (fun c2 => ?_)
    · have c2n : (-4000 ≤ y ∧ y ≤ 4000) := Classical.not_not.mp (fun q => c2 (iB_0.mpr q))
      refine x_aload_n dX10_winding_17 0 rfl ?_
      refine x_callV (K := jX10_flatten) [] lk_X10_111 ⟨⟨rfl, rfl⟩, Nat.le_of_ble_eq_true rfl, Nat.le_of_ble_eq_true rfl⟩ rfl rfl (mX10_flatten V hw hm50 hN8 t ht9) rfl (Nat.le_of_ble_eq_true rfl) rfl dX10_winding_18 (keV fun U3 hU4 => ?_)
      have hMQ2 := hMQ.aft hU4
      have hFr := hU4.2.2
      have hF : FRM U3 S N := by rw [← hS]; exact hU4.1
      have hE : U3 65 S.2.1 = nI S.1 := by rw [← hS]; exact hU4.2.1
      have hmU := hMQ2.2.1
      have hR := fall_inr hw hS
      refine x_iconst (v := 0) dX10_winding_21 (by decide) ?_
      refine x_istore_n 3 [(3, .int 0), (0, .ref (g.2.1 49)), (1, .int x), (2, .int y)] dX10_winding_22 rfl (by decide) rfl ?_
      refine x_iconst (v := 0) dX10_winding_23 (by decide) ?_
      refine x_istore 4 [(4, .int 0), (3, .int 0), (0, .ref (g.2.1 49)), (1, .int x), (2, .int y)] dX10_winding_24 (by decide) rfl ?_
      have lp5 : ∀ (fu : Nat) (k : Nat), (k ≤ S.2.1) → (S.2.1 - k) < fu → XX g jX10_winding Q U3 26 [(4, .int (nI k)), (3, .int (wnd S fb x y k)), (0, .ref (g.2.1 49)), (1, .int x), (2, .int y)] [] := by
        intro fu
        induction fu with
        | zero => intro _ _ hmz; exact absurd hmz (Nat.not_lt_zero _)
        | succ fu ih =>
          intro k hk hmz
          refine x_iload dX10_winding_26 0 rfl ?_
          refine x_aload_n dX10_winding_28 2 rfl ?_
          refine x_getI fl_X10_211 rfl rfl dX10_winding_29 ?_
          refine x_topi (hF.2.1) ?_
          refine x_icmp_ge 144 dX10_winding_32 (by decide) (fun c6 => ?_) (fun c6 => ?_)
          · have c6n : S.2.1 ≤ k := (nl_le (a := S.2.1) (b := k) (rfl) (rfl) (by omega) (by omega)).mp c6
            refine x_iload_n dX10_winding_144 1 rfl ?_
            refine x_iret dX10_winding_145 rfl ?_
            rw [hQ]
            unfold winZ
            first
              | exact ⟨_, rfl, by rw [if_pos ⟨by assumption, by assumption⟩, show k = S.2.1 by omega], hMQ2, hFr⟩
              | exact ⟨_, rfl, by rw [if_neg (fun q => by first | exact absurd q.1 (by assumption) | exact absurd q.2 (by assumption))], hMQ, frM.refl V⟩
          · have c6n : k < S.2.1 := Nat.not_le.mp (fun q => c6 ((nl_le (a := S.2.1) (b := k) (rfl) (rfl) (by omega) (by omega)).mpr q))
            have hkS : k < S.2.1 := by omega
            have hkb := hG.bd (j := k + 1) (by omega)
            have hkl := (hG.2.2.2 k hkS).1
            have hUk : U3 65 k = nI (fb k) := hF.bo hE hG (by omega)
            have hUk1 : U3 65 (k + 1) = nI (fb (k + 1)) := hF.bo hE hG (by omega)
            refine x_aload_n dX10_winding_35 2 rfl ?_
            refine x_getR fl_X10_56 rfl rfl dX10_winding_36 ?_
            refine x_iload dX10_winding_39 0 rfl ?_
            have b7 : vp_in (nI k) 26 := by exact vp_in_nI (by omega) (by decide)
            refine x_iald rfl b7 dX10_winding_41 ?_
            refine x_topi (y := U3 65 k) (by rw [nI_clamp (by omega)]) ?_
            refine x_topi (hUk) ?_
            refine x_istore 5 [(5, .int (nI (fb k))), (4, .int (nI k)), (3, .int (wnd S fb x y k)), (0, .ref (g.2.1 49)), (1, .int x), (2, .int y)] dX10_winding_42 (by decide) rfl ?_
            have lp8 : ∀ (fu1 : Nat) (j : Nat), (fb k + j ≤ fb (k + 1)) → (fb (k + 1) - (fb k + j)) < fu1 → XX g jX10_winding Q U3 44 [(5, .int (nI (fb k + j))), (4, .int (nI k)), (3, .int (mcy (wnd S fb x y k) (crh S x y) (fb k) (fb (k + 1)) j)), (0, .ref (g.2.1 49)), (1, .int x), (2, .int y)] [] := by
              intro fu1
              induction fu1 with
              | zero => intro _ _ hmz; exact absurd hmz (Nat.not_lt_zero _)
              | succ fu1 ih1 =>
                intro j hj hmz
                refine x_iload dX10_winding_44 0 rfl ?_
                refine x_aload_n dX10_winding_46 3 rfl ?_
                refine x_getR fl_X10_56 rfl rfl dX10_winding_47 ?_
                refine x_iload dX10_winding_50 1 rfl ?_
                refine x_iconst (v := 1) dX10_winding_52 (by decide) ?_
                refine x_iadd dX10_winding_53 ?_
                have q9 : ((nI k) + 1 : Int32) = nI (k + 1) := nadd (rfl) (rfl)
                refine YY.S (st' := [.int (nI (k + 1)), .ref (g.2.1 65), .int (nI (fb k + j))]) (by rw [q9]) ?_
                have b10 : vp_in (nI (k + 1)) 26 := by exact vp_in_nI (by omega) (by decide)
                refine x_iald rfl b10 dX10_winding_54 ?_
                refine x_topi (y := U3 65 (k + 1)) (by rw [nI_clamp (by omega)]) ?_
                refine x_topi (hUk1) ?_
                refine x_icmp_ge 138 dX10_winding_55 (by decide) (fun c11 => ?_) (fun c11 => ?_)
                · have c11n : fb (k + 1) ≤ fb k + j := (nl_le (a := fb (k + 1)) (b := fb k + j) (rfl) (rfl) (by omega) (by omega)).mp c11
                  refine x_iinc 4 (v := (nI k) + 1) 1 [(4, .int ((nI k) + 1)), (5, .int (nI (fb k + j))), (3, .int (mcy (wnd S fb x y k) (crh S x y) (fb k) (fb (k + 1)) j)), (0, .ref (g.2.1 49)), (1, .int x), (2, .int y)] dX10_winding_138 rfl (by rfl) (by decide) rfl ?_
                  refine x_goto 26 dX10_winding_141 (by decide) ?_
                  refine x_lv [0, 2, 3, 4, 5] rfl ?_
                  refine YY.L (lv' := [(4, .int (nI (k + 1))), (3, .int (wnd S fb x y (k + 1))), (0, .ref (g.2.1 49)), (1, .int x), (2, .int y)]) (by rw [nI_1, show j = fb (k + 1) - fb k by omega, ← cyc_eq2 rcI _ _ hkl]; rfl) ?_
                  exact ih (k + 1) (by omega) (by omega)
                · have c11n : fb k + j < fb (k + 1) := Nat.not_le.mp (fun q => c11 ((nl_le (a := fb (k + 1)) (b := fb k + j) (rfl) (rfl) (by omega) (by omega)).mpr q))
                  refine x_iload dX10_winding_58 0 rfl ?_
                  refine x_iconst (v := 1) dX10_winding_60 (by decide) ?_
                  refine x_iadd dX10_winding_61 ?_
                  refine x_aload_n dX10_winding_62 3 rfl ?_
                  refine x_getR fl_X10_56 rfl rfl dX10_winding_63 ?_
                  refine x_iload dX10_winding_66 1 rfl ?_
                  refine x_iconst (v := 1) dX10_winding_68 (by decide) ?_
                  refine x_iadd dX10_winding_69 ?_
                  have q12 : ((nI k) + 1 : Int32) = nI (k + 1) := nadd (rfl) (rfl)
                  refine YY.S (st' := [.int (nI (k + 1)), .ref (g.2.1 65), .int ((nI (fb k + j)) + 1)]) (by rw [q12]) ?_
                  have b13 : vp_in (nI (k + 1)) 26 := by exact vp_in_nI (by omega) (by decide)
                  refine x_iald rfl b13 dX10_winding_70 ?_
                  refine x_topi (y := U3 65 (k + 1)) (by rw [nI_clamp (by omega)]) ?_
                  refine x_topi (hUk1) ?_
                  refine x_icmp_ge 81 dX10_winding_71 (by decide) (fun c14 => ?_) (fun c14 => ?_)
                  · have c14n : fb (k + 1) ≤ (fb k + j) + 1 := (nl_le (a := fb (k + 1)) (b := (fb k + j) + 1) (rfl) (nadd (rfl) (rfl)) (by omega) (by omega)).mp c14
                    refine x_aload_n dX10_winding_81 3 rfl ?_
                    refine x_getR fl_X10_56 rfl rfl dX10_winding_82 ?_
                    refine x_iload dX10_winding_85 1 rfl ?_
                    have b15 : vp_in (nI k) 26 := by exact vp_in_nI (by omega) (by decide)
                    refine x_iald rfl b15 dX10_winding_87 ?_
                    refine x_topi (y := U3 65 k) (by rw [nI_clamp (by omega)]) ?_
                    refine x_topi (hUk) ?_
                    refine x_istore 6 [(6, .int (nI (fb k))), (5, .int (nI (fb k + j))), (4, .int (nI k)), (3, .int (mcy (wnd S fb x y k) (crh S x y) (fb k) (fb (k + 1)) j)), (0, .ref (g.2.1 49)), (1, .int x), (2, .int y)] dX10_winding_88 (by decide) rfl ?_
                    refine x_iload_n dX10_winding_90 3 rfl ?_
                    refine x_aload_n dX10_winding_91 4 rfl ?_
                    refine x_getR fl_X10_47 rfl rfl dX10_winding_92 ?_
                    refine x_iload dX10_winding_95 1 rfl ?_
                    have b16 : vp_in (nI (fb k + j)) 1700 := by exact vp_in_nI (by omega) (by decide)
                    refine x_iald rfl b16 dX10_winding_97 ?_
                    refine x_topi (y := U3 62 (fb k + j)) (by rw [nI_clamp (by omega)]) ?_
                    refine x_topi (show U3 62 (fb k + j) = S.2.2 0 (fb k + j) from (hF.2.2.1 (fb k + j) (by omega)).1) ?_
                    refine x_i2l dX10_winding_98 ?_
                    refine x_aload_n dX10_winding_99 4 rfl ?_
                    refine x_getR fl_X10_50 rfl rfl dX10_winding_100 ?_
                    refine x_iload dX10_winding_103 1 rfl ?_
                    have b17 : vp_in (nI (fb k + j)) 1700 := by exact vp_in_nI (by omega) (by decide)
                    refine x_iald rfl b17 dX10_winding_105 ?_
                    refine x_topi (y := U3 63 (fb k + j)) (by rw [nI_clamp (by omega)]) ?_
                    refine x_topi (show U3 63 (fb k + j) = S.2.2 1 (fb k + j) from (hF.2.2.1 (fb k + j) (by omega)).2.1) ?_
                    refine x_i2l dX10_winding_106 ?_
                    refine x_aload_n dX10_winding_107 4 rfl ?_
                    refine x_getR fl_X10_47 rfl rfl dX10_winding_108 ?_
                    refine x_iload dX10_winding_111 0 rfl ?_
                    have b18 : vp_in (nI (fb k)) 1700 := by exact vp_in_nI (by omega) (by decide)
                    refine x_iald rfl b18 dX10_winding_113 ?_
                    refine x_topi (y := U3 62 (fb k)) (by rw [nI_clamp (by omega)]) ?_
                    refine x_topi (show U3 62 (fb k) = S.2.2 0 (fb k) from (hF.2.2.1 (fb k) (by omega)).1) ?_
                    refine x_i2l dX10_winding_114 ?_
                    refine x_aload_n dX10_winding_115 4 rfl ?_
                    refine x_getR fl_X10_50 rfl rfl dX10_winding_116 ?_
                    refine x_iload dX10_winding_119 0 rfl ?_
                    have b19 : vp_in (nI (fb k)) 1700 := by exact vp_in_nI (by omega) (by decide)
                    refine x_iald rfl b19 dX10_winding_121 ?_
                    refine x_topi (y := U3 63 (fb k)) (by rw [nI_clamp (by omega)]) ?_
                    refine x_topi (show U3 63 (fb k) = S.2.2 1 (fb k) from (hF.2.2.1 (fb k) (by omega)).2.1) ?_
                    refine x_i2l dX10_winding_122 ?_
                    refine x_iload_n dX10_winding_123 5 rfl ?_
                    refine x_i2l dX10_winding_124 ?_
                    refine x_iload_n dX10_winding_125 6 rfl ?_
                    refine x_i2l dX10_winding_126 ?_
                    refine x_callS (K := jX10_turnsRound) [.long ((S.2.2 0 (fb k + j)).toInt64), .long ((S.2.2 1 (fb k + j)).toInt64), .long ((S.2.2 0 (fb k)).toInt64), .long ((S.2.2 1 (fb k)).toInt64), .long x.toInt64, .long y.toInt64] lk_X10_268 ⟨⟨rfl, rfl⟩, Nat.le_of_ble_eq_true rfl, Nat.le_of_ble_eq_true rfl⟩ (mX10_turnsRound U3 (hR (fb k + j) (by omega)) (hR (fb k) (by omega)) (by assumption) (by assumption)) rfl (Nat.le_of_ble_eq_true rfl) rfl dX10_winding_127 (kpI ?_)
                    refine x_iadd dX10_winding_130 ?_
                    refine x_istore_n 3 [(3, .int ((mcy (wnd S fb x y k) (crh S x y) (fb k) (fb (k + 1)) j) + (crh S x y (fb k + j) (fb k)))), (6, .int (nI (fb k))), (5, .int (nI (fb k + j))), (4, .int (nI k)), (0, .ref (g.2.1 49)), (1, .int x), (2, .int y)] dX10_winding_131 rfl (by decide) rfl ?_
                    refine x_iinc 5 (v := (nI (fb k + j)) + 1) 2 [(5, .int ((nI (fb k + j)) + 1)), (3, .int ((mcy (wnd S fb x y k) (crh S x y) (fb k) (fb (k + 1)) j) + (crh S x y (fb k + j) (fb k)))), (6, .int (nI (fb k))), (4, .int (nI k)), (0, .ref (g.2.1 49)), (1, .int x), (2, .int y)] dX10_winding_132 rfl (by rfl) (by decide) rfl ?_
                    refine x_goto 44 dX10_winding_135 (by decide) ?_
                    refine x_lv [0, 3, 1, 4, 5, 6] rfl ?_
                    refine YY.L (lv' := [(5, .int (nI (fb k + (j + 1)))), (4, .int (nI k)), (3, .int (mcy (wnd S fb x y k) (crh S x y) (fb k) (fb (k + 1)) (j + 1))), (0, .ref (g.2.1 49)), (1, .int x), (2, .int y)]) (by first | (rw [← mcy_1 (by omega), nI_1]; rfl) | (rw [← mcy_2 (by omega), nI_1]; rfl)) ?_
                    exact ih1 (j + 1) (by omega) (by omega)
                  · have c14n : (fb k + j) + 1 < fb (k + 1) := Nat.not_le.mp (fun q => c14 ((nl_le (a := fb (k + 1)) (b := (fb k + j) + 1) (rfl) (nadd (rfl) rfl) (by omega) (by omega)).mpr q))
                    refine x_iload dX10_winding_74 0 rfl ?_
                    refine x_iconst (v := 1) dX10_winding_76 (by decide) ?_
                    refine x_iadd dX10_winding_77 ?_
                    refine x_goto 88 dX10_winding_78 (by decide) ?_
                    refine x_istore 6 [(6, .int ((nI (fb k + j)) + 1)), (5, .int (nI (fb k + j))), (4, .int (nI k)), (3, .int (mcy (wnd S fb x y k) (crh S x y) (fb k) (fb (k + 1)) j)), (0, .ref (g.2.1 49)), (1, .int x), (2, .int y)] dX10_winding_88 (by decide) rfl ?_
                    refine x_iload_n dX10_winding_90 3 rfl ?_
                    refine x_aload_n dX10_winding_91 4 rfl ?_
                    refine x_getR fl_X10_47 rfl rfl dX10_winding_92 ?_
                    refine x_iload dX10_winding_95 1 rfl ?_
                    have b20 : vp_in (nI (fb k + j)) 1700 := by exact vp_in_nI (by omega) (by decide)
                    refine x_iald rfl b20 dX10_winding_97 ?_
                    refine x_topi (y := U3 62 (fb k + j)) (by rw [nI_clamp (by omega)]) ?_
                    refine x_topi (show U3 62 (fb k + j) = S.2.2 0 (fb k + j) from (hF.2.2.1 (fb k + j) (by omega)).1) ?_
                    refine x_i2l dX10_winding_98 ?_
                    refine x_aload_n dX10_winding_99 4 rfl ?_
                    refine x_getR fl_X10_50 rfl rfl dX10_winding_100 ?_
                    refine x_iload dX10_winding_103 1 rfl ?_
                    have b21 : vp_in (nI (fb k + j)) 1700 := by exact vp_in_nI (by omega) (by decide)
                    refine x_iald rfl b21 dX10_winding_105 ?_
                    refine x_topi (y := U3 63 (fb k + j)) (by rw [nI_clamp (by omega)]) ?_
                    refine x_topi (show U3 63 (fb k + j) = S.2.2 1 (fb k + j) from (hF.2.2.1 (fb k + j) (by omega)).2.1) ?_
                    refine x_i2l dX10_winding_106 ?_
                    refine x_aload_n dX10_winding_107 4 rfl ?_
                    refine x_getR fl_X10_47 rfl rfl dX10_winding_108 ?_
                    refine x_iload dX10_winding_111 0 rfl ?_
                    have q22 : ((nI (fb k + j)) + 1 : Int32) = nI ((fb k + j) + 1) := nadd (rfl) (rfl)
                    refine YY.S (st' := [.int (nI ((fb k + j) + 1)), .ref (g.2.1 62), .long ((S.2.2 1 (fb k + j)).toInt64), .long ((S.2.2 0 (fb k + j)).toInt64), .int (mcy (wnd S fb x y k) (crh S x y) (fb k) (fb (k + 1)) j)]) (by rw [q22]) ?_
                    have b23 : vp_in (nI ((fb k + j) + 1)) 1700 := by exact vp_in_nI (by omega) (by decide)
                    refine x_iald rfl b23 dX10_winding_113 ?_
                    refine x_topi (y := U3 62 ((fb k + j) + 1)) (by rw [nI_clamp (by omega)]) ?_
                    refine x_topi (show U3 62 ((fb k + j) + 1) = S.2.2 0 ((fb k + j) + 1) from (hF.2.2.1 ((fb k + j) + 1) (by omega)).1) ?_
                    refine x_i2l dX10_winding_114 ?_
                    refine x_aload_n dX10_winding_115 4 rfl ?_
                    refine x_getR fl_X10_50 rfl rfl dX10_winding_116 ?_
                    refine x_iload dX10_winding_119 0 rfl ?_
                    have q24 : ((nI (fb k + j)) + 1 : Int32) = nI ((fb k + j) + 1) := nadd (rfl) (rfl)
                    refine YY.S (st' := [.int (nI ((fb k + j) + 1)), .ref (g.2.1 63), .long ((S.2.2 0 ((fb k + j) + 1)).toInt64), .long ((S.2.2 1 (fb k + j)).toInt64), .long ((S.2.2 0 (fb k + j)).toInt64), .int (mcy (wnd S fb x y k) (crh S x y) (fb k) (fb (k + 1)) j)]) (by rw [q24]) ?_
                    have b25 : vp_in (nI ((fb k + j) + 1)) 1700 := by exact vp_in_nI (by omega) (by decide)
                    refine x_iald rfl b25 dX10_winding_121 ?_
                    refine x_topi (y := U3 63 ((fb k + j) + 1)) (by rw [nI_clamp (by omega)]) ?_
                    refine x_topi (show U3 63 ((fb k + j) + 1) = S.2.2 1 ((fb k + j) + 1) from (hF.2.2.1 ((fb k + j) + 1) (by omega)).2.1) ?_
                    refine x_i2l dX10_winding_122 ?_
                    refine x_iload_n dX10_winding_123 5 rfl ?_
                    refine x_i2l dX10_winding_124 ?_
                    refine x_iload_n dX10_winding_125 6 rfl ?_
                    refine x_i2l dX10_winding_126 ?_
                    refine x_callS (K := jX10_turnsRound) [.long ((S.2.2 0 (fb k + j)).toInt64), .long ((S.2.2 1 (fb k + j)).toInt64), .long ((S.2.2 0 ((fb k + j) + 1)).toInt64), .long ((S.2.2 1 ((fb k + j) + 1)).toInt64), .long x.toInt64, .long y.toInt64] lk_X10_268 ⟨⟨rfl, rfl⟩, Nat.le_of_ble_eq_true rfl, Nat.le_of_ble_eq_true rfl⟩ (mX10_turnsRound U3 (hR (fb k + j) (by omega)) (hR ((fb k + j) + 1) (by omega)) (by assumption) (by assumption)) rfl (Nat.le_of_ble_eq_true rfl) rfl dX10_winding_127 (kpI ?_)
                    refine x_iadd dX10_winding_130 ?_
                    refine x_istore_n 3 [(3, .int ((mcy (wnd S fb x y k) (crh S x y) (fb k) (fb (k + 1)) j) + (crh S x y (fb k + j) ((fb k + j) + 1)))), (6, .int ((nI (fb k + j)) + 1)), (5, .int (nI (fb k + j))), (4, .int (nI k)), (0, .ref (g.2.1 49)), (1, .int x), (2, .int y)] dX10_winding_131 rfl (by decide) rfl ?_
                    refine x_iinc 5 (v := (nI (fb k + j)) + 1) 2 [(5, .int ((nI (fb k + j)) + 1)), (3, .int ((mcy (wnd S fb x y k) (crh S x y) (fb k) (fb (k + 1)) j) + (crh S x y (fb k + j) ((fb k + j) + 1)))), (6, .int ((nI (fb k + j)) + 1)), (4, .int (nI k)), (0, .ref (g.2.1 49)), (1, .int x), (2, .int y)] dX10_winding_132 rfl (by rfl) (by decide) rfl ?_
                    refine x_goto 44 dX10_winding_135 (by decide) ?_
                    refine x_lv [0, 3, 1, 4, 5, 6] rfl ?_
                    refine YY.L (lv' := [(5, .int (nI (fb k + (j + 1)))), (4, .int (nI k)), (3, .int (mcy (wnd S fb x y k) (crh S x y) (fb k) (fb (k + 1)) (j + 1))), (0, .ref (g.2.1 49)), (1, .int x), (2, .int y)]) (by first | (rw [← mcy_1 (by omega), nI_1]; rfl) | (rw [← mcy_2 (by omega), nI_1]; rfl)) ?_
                    exact ih1 (j + 1) (by omega) (by omega)
            refine YY.L (lv' := [(5, .int (nI (fb k + 0))), (4, .int (nI k)), (3, .int (mcy (wnd S fb x y k) (crh S x y) (fb k) (fb (k + 1)) 0)), (0, .ref (g.2.1 49)), (1, .int x), (2, .int y)]) (by rfl) ?_
            exact lp8 _ 0 (by omega) (Nat.lt_succ_self _)
      refine YY.L (lv' := [(4, .int (nI 0)), (3, .int (wnd S fb x y 0)), (0, .ref (g.2.1 49)), (1, .int x), (2, .int y)]) (by rfl) ?_
      exact lp5 _ 0 (by omega) (Nat.lt_succ_self _)
    · have c2n : ¬ (-4000 ≤ y ∧ y ≤ 4000) := iB_0.mp c2
      refine x_ldc ct_X10_88 dX10_winding_14 ?_
      refine x_iret dX10_winding_16 rfl ?_
      rw [hQ]
      unfold winZ
      first
        | exact ⟨_, rfl, by rw [if_pos ⟨by assumption, by assumption⟩, show k = S.2.1 by omega], hMQ2, hFr⟩
        | exact ⟨_, rfl, by rw [if_neg (fun q => by first | exact absurd q.1 (by assumption) | exact absurd q.2 (by assumption))], hMQ, frM.refl V⟩
