set_option maxHeartbeats 1000000 in
set_option maxRecDepth 100000 in
theorem mX9_letter {g : gX} {V : vM} {m : Nat → Int32} {N : Nat} {t : Int32} {S : FS} {fb : Nat → Nat} (hCQ : CQ V m N t S fb) (n : Nat) (W T : Nat → Int32) (o md : Int32) (hLC : LCc V n W T o md) (c x what : Int32) : MM g jX9_letter V [.ref (g.2.1 0), .int c, .int x, .int what] (eI (fun z U => z = leZ S fb n W T o md c x what ∧ CQ U m N t S fb ∧ frK V U)) := by
  refine MM.of plX9_letter (Nat.le_of_ble_eq_true rfl) ?_
  obtain ⟨Q, hQ⟩ : ∃ Q : Option Value → vM → Prop, Q = (eI (fun z U => z = leZ S fb n W T o md c x what ∧ CQ U m N t S fb ∧ frK V U)) := ⟨_, rfl⟩
  rw [← hQ]
  show XX g jX9_letter Q V 0 [(0, .ref (g.2.1 0)), (1, .int c), (2, .int x), (3, .int what)] []
  obtain ⟨hC, hS, hG, h24, h15, hcn, hL⟩ := id hCQ
  have hP0 := hC.1
  have hV13 : V 1 3 = nI S.2.1 := by rw [hP0.2.1, hcn]
  have hN24 := hP0.2.2.1.1
  have hcl := cntM_le (kd7 m) N
  have hLB := hLC.2.2.2.1
  have hn24 := hLB.1
  refine x_aload_n dX9_letter_0 0 rfl ?_
  refine x_iload_n dX9_letter_1 1 rfl ?_
  refine x_callV (K := jX9_isContour) [.int c] lk_X9_133 ⟨⟨rfl, rfl⟩, Nat.le_of_ble_eq_true rfl, Nat.le_of_ble_eq_true rfl⟩ rfl rfl (by have := mX9_isContour (g := g) V c; rw [hV13] at this; exact this) rfl (Nat.le_of_ble_eq_true rfl) rfl dX9_letter_2 (kpI ?_)
  refine x_if_eq 23 dX9_letter_5 (by decide) (fun c1 => ?_) (fun c1 => ?_)
  · have c1n : ¬ (0 ≤ c ∧ c < nI S.2.1) := iB_0.mp c1
    refine x_ldc ct_X9_111 dX9_letter_23 ?_
    refine x_iret dX9_letter_25 rfl ?_
    rw [hQ]
    exact ⟨_, rfl, (leZ_no (fun q => by first | exact absurd q.1 (by assumption) | exact absurd q.2.1 (Int32.not_le.mpr (by assumption)) | exact absurd q.2.2 (by assumption))).symm, hCQ, frK.refl V⟩
  · have c1n : (0 ≤ c ∧ c < nI S.2.1) := Classical.not_not.mp (fun q => c1 (iB_0.mpr q))
    refine x_iload_n dX9_letter_8 2 rfl ?_
    refine x_if_lt 23 dX9_letter_9 (by decide) (fun c2 => ?_) (fun c2 => ?_)
    · refine x_ldc ct_X9_111 dX9_letter_23 ?_
      refine x_iret dX9_letter_25 rfl ?_
      rw [hQ]
      exact ⟨_, rfl, (leZ_no (fun q => by first | exact absurd q.1 (by assumption) | exact absurd q.2.1 (Int32.not_le.mpr (by assumption)) | exact absurd q.2.2 (by assumption))).symm, hCQ, frK.refl V⟩
    · refine x_iload_n dX9_letter_12 2 rfl ?_
      refine x_aload_n dX9_letter_13 0 rfl ?_
      refine x_getR fl_X9_53 rfl rfl dX9_letter_14 ?_
      refine x_getI fl_X9_258 rfl rfl dX9_letter_17 ?_
      refine x_topi (hLC.1) ?_
      refine x_icmp_lt 26 dX9_letter_20 (by decide) (fun c3 => ?_) (fun c3 => ?_)
      · obtain ⟨k, hk0, hkS⟩ := nI_ex (c := c) (n := S.2.1) (by omega) (by assumption)
        refine YY.L (lv' := [(0, .ref (g.2.1 0)), (1, .int (nI k)), (2, .int x), (3, .int what)]) (by rw [hk0]) ?_
        have hkb := hG.bd (j := k + 1) (by omega)
        have hkl := (hG.2.2.2 k hkS).1
        obtain ⟨j, hj0, hjS⟩ := nI_ex (c := x) (n := n) (by omega) (⟨Int32.not_lt.mp (by assumption), by assumption⟩)
        refine YY.L (lv' := [(0, .ref (g.2.1 0)), (1, .int (nI k)), (2, .int (nI j)), (3, .int what)]) (by rw [hj0]) ?_
        refine x_iload_n dX9_letter_26 3 rfl ?_
        refine x_iconst (v := 0) dX9_letter_27 (by decide) ?_
        refine x_iconst (v := 4) dX9_letter_28 (by decide) ?_
        refine x_callS (K := jX9_between) [.int what, .int 0, .int 4] lk_X9_129 ⟨⟨rfl, rfl⟩, Nat.le_of_ble_eq_true rfl, Nat.le_of_ble_eq_true rfl⟩ (mX9_between V what 0 4) rfl (Nat.le_of_ble_eq_true rfl) rfl dX9_letter_29 (kpI ?_)
        refine x_if_ne 38 dX9_letter_32 (by decide) (fun c4 => ?_) (fun c4 => ?_)
        · have c4n : (0 ≤ what ∧ what ≤ 4) := Classical.not_not.mp (fun q => c4 (iB_0.mpr q))
          refine x_aload_n dX9_letter_38 0 rfl ?_
          refine x_callV (K := jX9_flattened) [] lk_X9_118 ⟨⟨rfl, rfl⟩, Nat.le_of_ble_eq_true rfl, Nat.le_of_ble_eq_true rfl⟩ rfl rfl (mX9_flattened hC) rfl (Nat.le_of_ble_eq_true rfl) rfl dX9_letter_39 (keR fun U5 hU6 => ?_)
          have hCQ2 := hCQ.aft hU6
          have hFr := hU6.2.2
          have hF : FRC U5 S := by rw [← hS]; exact hU6.1
          have hPU := hCQ2.1.1
          have hU13 : U5 1 3 = nI (S.2.1) := by rw [hPU.2.1, hcn]
          refine x_astore 4 [(4, .ref (g.2.1 6)), (0, .ref (g.2.1 0)), (1, .int (nI k)), (2, .int (nI j)), (3, .int what)] dX9_letter_42 (by decide) rfl ?_
          refine x_aload_n dX9_letter_44 1 rfl ?_
          refine x_getR fl_X9_53 rfl rfl dX9_letter_45 ?_
          refine x_aload dX9_letter_48 0 rfl ?_
          refine x_iload_n dX9_letter_50 2 rfl ?_
          have hLC2 := hLC.ag (U := U5) (fun a i q => hFr a i (by omega) (by omega) (by omega) (by omega) (by omega))
          refine x_callV (K := jX3_layOn) [.ref (g.2.1 6), .int (nI k)] lk_X9_269 ⟨⟨rfl, rfl⟩, Nat.le_of_ble_eq_true rfl, Nat.le_of_ble_eq_true rfl⟩ rfl rfl (mX3_layOn hF hG h24 h15 n W T o md hLC2 k (by omega) (len_b hL h15 (by omega))) rfl (Nat.le_of_ble_eq_true rfl) rfl dX9_letter_51 (keV fun U7 hU8 => ?_)
          obtain ⟨R, eR⟩ : ∃ R : LRS, R = ltRes S fb n W T o md k := ⟨_, rfl⟩
          rw [← eR] at hU8
          obtain ⟨hf9, hLR⟩ := hU8
          have hCQ3 := hCQ2.ag (fun a i q => hf9 a i (by omega) (by omega))
          have hFr3 := hFr.K.trans hf9.K
          have hF := hF.ag (U := U7) (fun a i q => hf9 a i (by omega) (by omega))
          have hLU := hLC2.ag (U := U7) (fun a i q => hf9 a i (by omega) (by omega))
          have hOK : LOK S fb n R := by rw [eR]; exact ltRes_ok hLB hkS
          refine x_aload_n dX9_letter_54 1 rfl ?_
          refine x_getR fl_X9_53 rfl rfl dX9_letter_55 ?_
          refine x_aload dX9_letter_58 0 rfl ?_
          refine x_iload_n dX9_letter_60 3 rfl ?_
          refine x_iload_n dX9_letter_61 4 rfl ?_
          refine x_callV (K := jX3_placeNumber) [.ref (g.2.1 6), .int (nI j), .int what] lk_X9_273 ⟨⟨rfl, rfl⟩, Nat.le_of_ble_eq_true rfl, Nat.le_of_ble_eq_true rfl⟩ rfl rfl (mX3_placeNumber hF hG h24 h15 (fall_inr hP0.2.2.1 hS) n hn24 hLU.1 R hLR hOK j (by omega) what) rfl (Nat.le_of_ble_eq_true rfl) rfl dX9_letter_62 (kpI ?_)
          refine x_iret dX9_letter_65 rfl ?_
          rw [hQ]
          exact ⟨_, rfl, by rw [leZ_k h24 hn24 hk0 hkS hj0 hjS (by assumption), eR], hCQ3, hFr3⟩
        · have c4n : ¬ (0 ≤ what ∧ what ≤ 4) := iB_0.mp c4
          refine x_ldc ct_X9_83 dX9_letter_35 ?_
          refine x_iret dX9_letter_37 rfl ?_
          rw [hQ]
          exact ⟨_, rfl, (leZ_w ⟨by rw [hk0]; exact nI_bt (by omega) hkS, by rw [hj0]; exact nI_bt (by omega) hjS⟩ (by assumption)).symm, hCQ, frK.refl V⟩
      · refine x_ldc ct_X9_111 dX9_letter_23 ?_
        refine x_iret dX9_letter_25 rfl ?_
        rw [hQ]
        exact ⟨_, rfl, (leZ_no (fun q => by first | exact absurd q.1 (by assumption) | exact absurd q.2.1 (Int32.not_le.mpr (by assumption)) | exact absurd q.2.2 (by assumption))).symm, hCQ, frK.refl V⟩
set_option maxHeartbeats 1000000 in
set_option maxRecDepth 100000 in
theorem mX9_placed {g : gX} {V : vM} {m : Nat → Int32} {N : Nat} {t : Int32} {S : FS} {fb : Nat → Nat} (hCQ : CQ V m N t S fb) (n : Nat) (W T : Nat → Int32) (o md : Int32) (hLC : LCc V n W T o md) (c what : Int32) : MM g jX9_placed V [.ref (g.2.1 0), .int c, .int what] (eI (fun z U => z = pcZ S fb n W T o md c what ∧ CQ U m N t S fb ∧ frK V U)) := by
  refine MM.of plX9_placed (Nat.le_of_ble_eq_true rfl) ?_
  obtain ⟨Q, hQ⟩ : ∃ Q : Option Value → vM → Prop, Q = (eI (fun z U => z = pcZ S fb n W T o md c what ∧ CQ U m N t S fb ∧ frK V U)) := ⟨_, rfl⟩
  rw [← hQ]
  show XX g jX9_placed Q V 0 [(0, .ref (g.2.1 0)), (1, .int c), (2, .int what)] []
  obtain ⟨hC, hS, hG, h24, h15, hcn, hL⟩ := id hCQ
  have hP0 := hC.1
  have hV13 : V 1 3 = nI S.2.1 := by rw [hP0.2.1, hcn]
  have hN24 := hP0.2.2.1.1
  have hcl := cntM_le (kd7 m) N
  have hLB := hLC.2.2.2.1
  have hn24 := hLB.1
  refine x_aload_n dX9_placed_0 0 rfl ?_
  refine x_iload_n dX9_placed_1 1 rfl ?_
  refine x_callV (K := jX9_isContour) [.int c] lk_X9_133 ⟨⟨rfl, rfl⟩, Nat.le_of_ble_eq_true rfl, Nat.le_of_ble_eq_true rfl⟩ rfl rfl (by have := mX9_isContour (g := g) V c; rw [hV13] at this; exact this) rfl (Nat.le_of_ble_eq_true rfl) rfl dX9_placed_2 (kpI ?_)
  refine x_if_ne 11 dX9_placed_5 (by decide) (fun c1 => ?_) (fun c1 => ?_)
  · have c1n : (0 ≤ c ∧ c < nI S.2.1) := Classical.not_not.mp (fun q => c1 (iB_0.mpr q))
    obtain ⟨k, hk0, hkS⟩ := nI_ex (c := c) (n := S.2.1) (by omega) (by assumption)
    refine YY.L (lv' := [(0, .ref (g.2.1 0)), (1, .int (nI k)), (2, .int what)]) (by rw [hk0]) ?_
    have hkb := hG.bd (j := k + 1) (by omega)
    have hkl := (hG.2.2.2 k hkS).1
    refine x_iload_n dX9_placed_11 2 rfl ?_
    refine x_iconst (v := 0) dX9_placed_12 (by decide) ?_
    refine x_iconst (v := 1) dX9_placed_13 (by decide) ?_
    refine x_callS (K := jX9_between) [.int what, .int 0, .int 1] lk_X9_129 ⟨⟨rfl, rfl⟩, Nat.le_of_ble_eq_true rfl, Nat.le_of_ble_eq_true rfl⟩ (mX9_between V what 0 1) rfl (Nat.le_of_ble_eq_true rfl) rfl dX9_placed_14 (kpI ?_)
    refine x_if_ne 23 dX9_placed_17 (by decide) (fun c2 => ?_) (fun c2 => ?_)
    · have c2n : (0 ≤ what ∧ what ≤ 1) := Classical.not_not.mp (fun q => c2 (iB_0.mpr q))
      refine x_aload_n dX9_placed_23 0 rfl ?_
      refine x_callV (K := jX9_flattened) [] lk_X9_118 ⟨⟨rfl, rfl⟩, Nat.le_of_ble_eq_true rfl, Nat.le_of_ble_eq_true rfl⟩ rfl rfl (mX9_flattened hC) rfl (Nat.le_of_ble_eq_true rfl) rfl dX9_placed_24 (keR fun U3 hU4 => ?_)
      have hCQ2 := hCQ.aft hU4
      have hFr := hU4.2.2
      have hF : FRC U3 S := by rw [← hS]; exact hU4.1
      have hPU := hCQ2.1.1
      have hU13 : U3 1 3 = nI (S.2.1) := by rw [hPU.2.1, hcn]
      refine x_astore_n 3 [(3, .ref (g.2.1 6)), (0, .ref (g.2.1 0)), (1, .int (nI k)), (2, .int what)] dX9_placed_27 rfl (by decide) rfl ?_
      refine x_aload_n dX9_placed_28 1 rfl ?_
      refine x_getR fl_X9_53 rfl rfl dX9_placed_29 ?_
      refine x_aload_n dX9_placed_32 0 rfl ?_
      refine x_iload_n dX9_placed_33 2 rfl ?_
      have hLC2 := hLC.ag (U := U3) (fun a i q => hFr a i (by omega) (by omega) (by omega) (by omega) (by omega))
      refine x_callV (K := jX3_layOn) [.ref (g.2.1 6), .int (nI k)] lk_X9_269 ⟨⟨rfl, rfl⟩, Nat.le_of_ble_eq_true rfl, Nat.le_of_ble_eq_true rfl⟩ rfl rfl (mX3_layOn hF hG h24 h15 n W T o md hLC2 k (by omega) (len_b hL h15 (by omega))) rfl (Nat.le_of_ble_eq_true rfl) rfl dX9_placed_34 (keV fun U5 hU6 => ?_)
      obtain ⟨R, eR⟩ : ∃ R : LRS, R = ltRes S fb n W T o md k := ⟨_, rfl⟩
      rw [← eR] at hU6
      obtain ⟨hf9, hLR⟩ := hU6
      have hCQ3 := hCQ2.ag (fun a i q => hf9 a i (by omega) (by omega))
      have hFr3 := hFr.K.trans hf9.K
      have hF := hF.ag (U := U5) (fun a i q => hf9 a i (by omega) (by omega))
      have hLU := hLC2.ag (U := U5) (fun a i q => hf9 a i (by omega) (by omega))
      have hOK : LOK S fb n R := by rw [eR]; exact ltRes_ok hLB hkS
      refine x_iload_n dX9_placed_37 3 rfl ?_
      refine x_if_ne 51 dX9_placed_38 (by decide) (fun c7 => ?_) (fun c7 => ?_)
      · refine x_aload_n dX9_placed_51 1 rfl ?_
        refine x_getR fl_X9_53 rfl rfl dX9_placed_52 ?_
        refine x_aload_n dX9_placed_55 0 rfl ?_
        refine x_callV (K := jX3_turnsBackward) [.ref (g.2.1 6)] lk_X9_280 ⟨⟨rfl, rfl⟩, Nat.le_of_ble_eq_true rfl, Nat.le_of_ble_eq_true rfl⟩ rfl rfl (mX3_turnsBackward hF hG h24 h15 n hn24 hLU.1 R hLR hOK) rfl (Nat.le_of_ble_eq_true rfl) rfl dX9_placed_56 (kpI ?_)
        refine x_iret dX9_placed_59 rfl ?_
        rw [hQ]
        first
          | exact ⟨_, rfl, by rw [pcZ_k h24 hk0 hkS (by assumption), if_pos (by assumption), eR], hCQ3, hFr3⟩
          | exact ⟨_, rfl, by rw [pcZ_k h24 hk0 hkS (by assumption), if_neg (by assumption), eR], hCQ3, hFr3⟩
      · refine x_aload_n dX9_placed_41 1 rfl ?_
        refine x_getR fl_X9_53 rfl rfl dX9_placed_42 ?_
        refine x_callV (K := jX3_lettersPlaced) [] lk_X9_277 ⟨⟨rfl, rfl⟩, Nat.le_of_ble_eq_true rfl, Nat.le_of_ble_eq_true rfl⟩ rfl rfl (by have := mX3_lettersPlaced (g := g) U5 n hn24 hLU.1; rw [cpl_c hLR (fun i hi h e => by have := (hOK i hi h e).1; omega) n (Nat.le_refl _)] at this; exact this) rfl (Nat.le_of_ble_eq_true rfl) rfl dX9_placed_45 (kpI ?_)
        refine x_goto 59 dX9_placed_48 (by decide) ?_
        refine x_iret dX9_placed_59 rfl ?_
        rw [hQ]
        first
          | exact ⟨_, rfl, by rw [pcZ_k h24 hk0 hkS (by assumption), if_pos (by assumption), eR], hCQ3, hFr3⟩
          | exact ⟨_, rfl, by rw [pcZ_k h24 hk0 hkS (by assumption), if_neg (by assumption), eR], hCQ3, hFr3⟩
    · have c2n : ¬ (0 ≤ what ∧ what ≤ 1) := iB_0.mp c2
      refine x_ldc ct_X9_83 dX9_placed_20 ?_
      refine x_iret dX9_placed_22 rfl ?_
      rw [hQ]
      exact ⟨_, rfl, (pcZ_w (by rw [hk0]; exact nI_bt (by omega) hkS) (by assumption)).symm, hCQ, frK.refl V⟩
  · have c1n : ¬ (0 ≤ c ∧ c < nI S.2.1) := iB_0.mp c1
    refine x_ldc ct_X9_111 dX9_placed_8 ?_
    refine x_iret dX9_placed_10 rfl ?_
    rw [hQ]
    exact ⟨_, rfl, (pcZ_no (by assumption)).symm, hCQ, frK.refl V⟩
