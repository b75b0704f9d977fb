set_option maxHeartbeats 1000000 in
set_option maxRecDepth 100000 in
theorem mX10_letter {g : gX} {V : vM} {m : Nat → Int32} {N : Nat} {t : Int32} {S : FS} {fb : Nat → Nat} (hMQ : MZ V m N t S fb) (n : Nat) (W T : Nat → Int32) (o md : Int32) (hLC : LCm V n W T o md) (c x what : Int32) : MM g jX10_letter V [.ref (g.2.1 49), .int c, .int x, .int what] (eI (fun z U => z = leZ S fb n W T o md c x what ∧ MZ U m N t S fb ∧ frN V U)) := by
  refine MM.of plX10_letter (Nat.le_of_ble_eq_true rfl) ?_
  obtain ⟨Q, hQ⟩ : ∃ Q : Option Value → vM → Prop, Q = (eI (fun z U => z = leZ S fb n W T o md c x what ∧ MZ U m N t S fb ∧ frN V U)) := ⟨_, rfl⟩
  rw [← hQ]
  show XX g jX10_letter Q V 0 [(0, .ref (g.2.1 49)), (1, .int c), (2, .int x), (3, .int what)] []
  obtain ⟨hw, hm50, hN8, ht9, hS, hG, h24, h15, hcn, hL⟩ := id hMQ
  have hN24 := hw.1
  have hcl := cntM_le (kd7 m) N
  have hLB := hLC.2.2.2.1
  have hn24 := hLB.1
  refine x_aload_n dX10_letter_0 0 rfl ?_
  refine x_iload_n dX10_letter_1 1 rfl ?_
  refine x_callV (K := jX10_isContour) [.int c] lk_X10_123 ⟨⟨rfl, rfl⟩, Nat.le_of_ble_eq_true rfl, Nat.le_of_ble_eq_true rfl⟩ rfl rfl (by have := mX10_isContour (g := g) V N hw.1 (by rw [hm50]; exact hN8) (by rw [hm50]; exact hw) c; rw [hm50, ← hcn] at this; exact this) rfl (Nat.le_of_ble_eq_true rfl) rfl dX10_letter_2 (kpI ?_)
  refine x_if_eq 22 dX10_letter_5 (by decide) (fun c1 => ?_) (fun c1 => ?_)
  · have c1n : ¬ (0 ≤ c ∧ c < nI S.2.1) := iB_0.mp c1
    refine x_ldc ct_X10_107 dX10_letter_22 ?_
    refine x_iret dX10_letter_24 rfl ?_
    rw [hQ]
    exact ⟨_, rfl, (leZ_no (fun q => by first | exact absurd q.1 (by assumption) | exact absurd ((bt_pred (by omega)).mpr q.2) (by assumption))).symm, hMQ, frN.refl V⟩
  · have c1n : (0 ≤ c ∧ c < nI S.2.1) := Classical.not_not.mp (fun q => c1 (iB_0.mpr q))
    refine x_iload_n dX10_letter_8 2 rfl ?_
    refine x_iconst (v := 0) dX10_letter_9 (by decide) ?_
    refine x_aload_n dX10_letter_10 0 rfl ?_
    refine x_getI fl_X10_293 rfl rfl dX10_letter_11 ?_
    refine x_topi (hLC.1) ?_
    refine x_iconst (v := 1) dX10_letter_14 (by decide) ?_
    refine x_isub dX10_letter_15 ?_
    refine x_callS (K := jX10_in) [.int x, .int 0, .int ((nI n) - 1)] lk_X10_80 ⟨⟨rfl, rfl⟩, Nat.le_of_ble_eq_true rfl, Nat.le_of_ble_eq_true rfl⟩ (mX10_in V x 0 ((nI n) - 1)) rfl (Nat.le_of_ble_eq_true rfl) rfl dX10_letter_16 (kpI ?_)
    refine x_if_ne 25 dX10_letter_19 (by decide) (fun c2 => ?_) (fun c2 => ?_)
    · have c2n : (0 ≤ x ∧ x ≤ ((nI n) - 1)) := Classical.not_not.mp (fun q => c2 (iB_0.mpr q))
      obtain ⟨k, hk0, hkS⟩ := nI_ex (c := c) (n := S.2.1) (by omega) (by assumption)
      refine YY.L (lv' := [(0, .ref (g.2.1 49)), (1, .int (nI k)), (2, .int x), (3, .int what)]) (by rw [hk0]) ?_
      have hkb := hG.bd (j := k + 1) (by omega)
      have hkl := (hG.2.2.2 k hkS).1
      obtain ⟨j, hj0, hjS⟩ := nI_ex (c := x) (n := n) (by omega) ((bt_pred (by omega)).mp (by assumption))
      refine YY.L (lv' := [(0, .ref (g.2.1 49)), (1, .int (nI k)), (2, .int (nI j)), (3, .int what)]) (by rw [hj0]) ?_
      refine x_iload_n dX10_letter_25 3 rfl ?_
      refine x_iconst (v := 0) dX10_letter_26 (by decide) ?_
      refine x_iconst (v := 4) dX10_letter_27 (by decide) ?_
      refine x_callS (K := jX10_in) [.int what, .int 0, .int 4] lk_X10_80 ⟨⟨rfl, rfl⟩, Nat.le_of_ble_eq_true rfl, Nat.le_of_ble_eq_true rfl⟩ (mX10_in V what 0 4) rfl (Nat.le_of_ble_eq_true rfl) rfl dX10_letter_28 (kpI ?_)
      refine x_if_ne 37 dX10_letter_31 (by decide) (fun c3 => ?_) (fun c3 => ?_)
      · have c3n : (0 ≤ what ∧ what ≤ 4) := Classical.not_not.mp (fun q => c3 (iB_0.mpr q))
        refine x_aload_n dX10_letter_37 0 rfl ?_
        refine x_iload_n dX10_letter_38 1 rfl ?_
        refine x_callV (K := jX10_layLetters) [.int (nI k)] lk_X10_320 ⟨⟨rfl, rfl⟩, Nat.le_of_ble_eq_true rfl, Nat.le_of_ble_eq_true rfl⟩ rfl rfl (mX10_layLetters hMQ n W T o md hLC k hkS) rfl (Nat.le_of_ble_eq_true rfl) rfl dX10_letter_39 (keV fun U4 hU5 => ?_)
        obtain ⟨R, eR⟩ : ∃ R : LRS, R = ltRes S fb n W T o md k := ⟨_, rfl⟩
        rw [← eR] at hU5
        obtain ⟨hF, hE, hMQ3, hFr3, hLR⟩ := hU5
        have hOK : LOK S fb n R := by rw [eR]; exact ltRes_ok hLB hkS
        have hLU := hLC.ag hFr3
        have hR := fall_inr hw hS
        rcases hRi : (R j).1 with _ | h
        · -- none
          refine x_aload_n dX10_letter_42 0 rfl ?_
          refine x_getR fl_X10_74 rfl rfl dX10_letter_43 ?_
          refine x_iload_n dX10_letter_46 2 rfl ?_
          have b6 : vp_in (nI j) 24 := by exact vp_in_nI (by omega) (by decide)
          refine x_iald rfl b6 dX10_letter_47 ?_
          refine x_topi (y := U4 71 j) (by rw [nI_clamp (by omega)]) ?_
          refine x_topi (((hLR j (by omega)).2.trans (congrArg hmM hRi) : U4 71 j = -1000006)) ?_
          refine x_istore 4 [(4, .int (-1000006)), (0, .ref (g.2.1 49)), (1, .int (nI k)), (2, .int (nI j)), (3, .int what)] dX10_letter_48 (by decide) rfl ?_
          refine x_iload dX10_letter_50 0 rfl ?_
          refine x_if_ge 58 dX10_letter_52 (by decide) (fun c7 => by exfalso; revert c7; decide) (fun c7 => ?_)
          refine x_ldc ct_X10_103 dX10_letter_55 ?_
          refine x_iret dX10_letter_57 rfl ?_
          rw [hQ]
          exact ⟨_, rfl, by rw [leZ_k h24 hn24 hk0 hkS hj0 hjS (by assumption), ← eR, plN_n hRi], hMQ3, hFr3⟩
        · -- some
          obtain ⟨hk1, hk2, hk3, hk4⟩ := hOK j (by omega) h hRi
          have hbh := hG.bd (j := h + 1) (by omega)
          refine x_aload_n dX10_letter_42 0 rfl ?_
          refine x_getR fl_X10_74 rfl rfl dX10_letter_43 ?_
          refine x_iload_n dX10_letter_46 2 rfl ?_
          have b8 : vp_in (nI j) 24 := by exact vp_in_nI (by omega) (by decide)
          refine x_iald rfl b8 dX10_letter_47 ?_
          refine x_topi (y := U4 71 j) (by rw [nI_clamp (by omega)]) ?_
          refine x_topi (((hLR j (by omega)).2.trans (congrArg hmM hRi) : U4 71 j = nI h)) ?_
          refine x_istore 4 [(4, .int (nI h)), (0, .ref (g.2.1 49)), (1, .int (nI k)), (2, .int (nI j)), (3, .int what)] dX10_letter_48 (by decide) rfl ?_
          refine x_iload dX10_letter_50 0 rfl ?_
          refine x_if_ge 58 dX10_letter_52 (by decide) (fun c9 => ?_) (fun c9 => by exfalso; exact c9 (nI_pos' (by omega)))
          refine x_iload_n dX10_letter_58 4 rfl ?_
          refine x_if_ne 67 dX10_letter_59 (by decide) (fun c10 => ?_) (fun c10 => ?_)
          · refine x_iload_n dX10_letter_67 4 rfl ?_
            refine x_iconst (v := 1) dX10_letter_68 (by decide) ?_
            refine x_icmp_ne 81 dX10_letter_69 (by decide) (fun c11 => ?_) (fun c11 => ?_)
            · refine x_aload_n dX10_letter_81 1 rfl ?_
              refine x_iload dX10_letter_82 0 rfl ?_
              refine x_aload_n dX10_letter_84 1 rfl ?_
              refine x_getR fl_X10_77 rfl rfl dX10_letter_85 ?_
              refine x_iload_n dX10_letter_88 3 rfl ?_
              have b12 : vp_in (nI j) 24 := by exact vp_in_nI (by omega) (by decide)
              refine x_iald rfl b12 dX10_letter_89 ?_
              refine x_topi (y := U4 72 j) (by rw [nI_clamp (by omega)]) ?_
              refine x_topi ((hLR j (by omega)).1) ?_
              refine x_iload_n dX10_letter_90 4 rfl ?_
              refine x_iconst (v := 2) dX10_letter_91 (by decide) ?_
              refine x_isub dX10_letter_92 ?_
              refine x_callV (K := jX10_placeAt) [.int (nI h), .int ((R j).2), .int (what - 2)] lk_X10_263 ⟨⟨rfl, rfl⟩, Nat.le_of_ble_eq_true rfl, Nat.le_of_ble_eq_true rfl⟩ rfl rfl (mX10_placeAt hF hE hG h24 h15 hR h (by omega) (by omega) ((R j).2) (by assumption) (what - 2)) rfl (Nat.le_of_ble_eq_true rfl) rfl dX10_letter_93 (kpI ?_)
              refine x_iret dX10_letter_96 rfl ?_
              rw [hQ]
              refine ⟨_, rfl, ?_, hMQ3, hFr3⟩
              rw [leZ_k h24 hn24 hk0 hkS hj0 hjS (by assumption), ← eR, plN_s hRi]
              rw [if_neg (by assumption), if_neg (by assumption)]
            · refine x_aload_n dX10_letter_72 1 rfl ?_
              refine x_getR fl_X10_77 rfl rfl dX10_letter_73 ?_
              refine x_iload_n dX10_letter_76 3 rfl ?_
              have b13 : vp_in (nI j) 24 := by exact vp_in_nI (by omega) (by decide)
              refine x_iald rfl b13 dX10_letter_77 ?_
              refine x_topi (y := U4 72 j) (by rw [nI_clamp (by omega)]) ?_
              refine x_topi ((hLR j (by omega)).1) ?_
              refine x_goto 96 dX10_letter_78 (by decide) ?_
              refine x_iret dX10_letter_96 rfl ?_
              rw [hQ]
              refine ⟨_, rfl, ?_, hMQ3, hFr3⟩
              rw [leZ_k h24 hn24 hk0 hkS hj0 hjS (by assumption), ← eR, plN_s hRi]
              rw [if_neg (by assumption), if_pos (by assumption)]
          · refine x_iload dX10_letter_62 0 rfl ?_
            refine x_goto 96 dX10_letter_64 (by decide) ?_
            refine x_iret dX10_letter_96 rfl ?_
            rw [hQ]
            refine ⟨_, rfl, ?_, hMQ3, hFr3⟩
            rw [leZ_k h24 hn24 hk0 hkS hj0 hjS (by assumption), ← eR, plN_s hRi]
            rw [if_pos (by assumption)]
      · have c3n : ¬ (0 ≤ what ∧ what ≤ 4) := iB_0.mp c3
        refine x_ldc ct_X10_88 dX10_letter_34 ?_
        refine x_iret dX10_letter_36 rfl ?_
        rw [hQ]
        exact ⟨_, rfl, (leZ_w ⟨by rw [hk0]; exact nI_bt (by omega) hkS, by rw [hj0]; exact nI_bt (by omega) hjS⟩ (by assumption)).symm, hMQ, frN.refl V⟩
    · have c2n : ¬ (0 ≤ x ∧ x ≤ ((nI n) - 1)) := iB_0.mp c2
      refine x_ldc ct_X10_107 dX10_letter_22 ?_
      refine x_iret dX10_letter_24 rfl ?_
      rw [hQ]
      exact ⟨_, rfl, (leZ_no (fun q => by first | exact absurd q.1 (by assumption) | exact absurd ((bt_pred (by omega)).mpr q.2) (by assumption))).symm, hMQ, frN.refl V⟩
set_option maxHeartbeats 2000000 in
set_option maxRecDepth 100000 in
theorem mX10_placed {g : gX} {V : vM} {m : Nat → Int32} {N : Nat} {t : Int32} {S : FS} {fb : Nat → Nat} (hMQ : MZ V m N t S fb) (n : Nat) (W T : Nat → Int32) (o md : Int32) (hLC : LCm V n W T o md) (c what : Int32) : MM g jX10_placed V [.ref (g.2.1 49), .int c, .int what] (eI (fun z U => z = pcZ S fb n W T o md c what ∧ MZ U m N t S fb ∧ frN V U)) := by
  refine MM.of plX10_placed (Nat.le_of_ble_eq_true rfl) ?_
  obtain ⟨Q, hQ⟩ : ∃ Q : Option Value → vM → Prop, Q = (eI (fun z U => z = pcZ S fb n W T o md c what ∧ MZ U m N t S fb ∧ frN V U)) := ⟨_, rfl⟩
  rw [← hQ]
  show XX g jX10_placed Q V 0 [(0, .ref (g.2.1 49)), (1, .int c), (2, .int what)] []
  obtain ⟨hw, hm50, hN8, ht9, hS, hG, h24, h15, hcn, hL⟩ := id hMQ
  have hN24 := hw.1
  have hcl := cntM_le (kd7 m) N
  have hLB := hLC.2.2.2.1
  have hn24 := hLB.1
  refine x_aload_n dX10_placed_0 0 rfl ?_
  refine x_iload_n dX10_placed_1 1 rfl ?_
  refine x_callV (K := jX10_isContour) [.int c] lk_X10_123 ⟨⟨rfl, rfl⟩, Nat.le_of_ble_eq_true rfl, Nat.le_of_ble_eq_true rfl⟩ rfl rfl (by have := mX10_isContour (g := g) V N hw.1 (by rw [hm50]; exact hN8) (by rw [hm50]; exact hw) c; rw [hm50, ← hcn] at this; exact this) rfl (Nat.le_of_ble_eq_true rfl) rfl dX10_placed_2 (kpI ?_)
  refine x_if_ne 11 dX10_placed_5 (by decide) (fun c1 => ?_) (fun c1 => ?_)
  · have c1n : (0 ≤ c ∧ c < nI S.2.1) := Classical.not_not.mp (fun q => c1 (iB_0.mpr q))
    obtain ⟨k, hk0, hkS⟩ := nI_ex (c := c) (n := S.2.1) (by omega) (by assumption)
    refine YY.L (lv' := [(0, .ref (g.2.1 49)), (1, .int (nI k)), (2, .int what)]) (by rw [hk0]) ?_
    have hkb := hG.bd (j := k + 1) (by omega)
    have hkl := (hG.2.2.2 k hkS).1
    refine x_iload_n dX10_placed_11 2 rfl ?_
    refine x_iconst (v := 0) dX10_placed_12 (by decide) ?_
    refine x_iconst (v := 1) dX10_placed_13 (by decide) ?_
    refine x_callS (K := jX10_in) [.int what, .int 0, .int 1] lk_X10_80 ⟨⟨rfl, rfl⟩, Nat.le_of_ble_eq_true rfl, Nat.le_of_ble_eq_true rfl⟩ (mX10_in V what 0 1) rfl (Nat.le_of_ble_eq_true rfl) rfl dX10_placed_14 (kpI ?_)
    refine x_if_ne 23 dX10_placed_17 (by decide) (fun c2 => ?_) (fun c2 => ?_)
    · have c2n : (0 ≤ what ∧ what ≤ 1) := Classical.not_not.mp (fun q => c2 (iB_0.mpr q))
      refine x_aload_n dX10_placed_23 0 rfl ?_
      refine x_iload_n dX10_placed_24 1 rfl ?_
      refine x_callV (K := jX10_layLetters) [.int (nI k)] lk_X10_320 ⟨⟨rfl, rfl⟩, Nat.le_of_ble_eq_true rfl, Nat.le_of_ble_eq_true rfl⟩ rfl rfl (mX10_layLetters hMQ n W T o md hLC k hkS) rfl (Nat.le_of_ble_eq_true rfl) rfl dX10_placed_25 (keV fun U3 hU4 => ?_)
      obtain ⟨R, eR⟩ : ∃ R : LRS, R = ltRes S fb n W T o md k := ⟨_, rfl⟩
      rw [← eR] at hU4
      obtain ⟨hF, hE, hMQ3, hFr3, hLR⟩ := hU4
      have hOK : LOK S fb n R := by rw [eR]; exact ltRes_ok hLB hkS
      have hLU := hLC.ag hFr3
      have hR := fall_inr hw hS
      refine x_iconst (v := 0) dX10_placed_28 (by decide) ?_
      refine x_istore_n 3 [(3, .int 0), (0, .ref (g.2.1 49)), (1, .int (nI k)), (2, .int what)] dX10_placed_29 rfl (by decide) rfl ?_
      refine x_ldc ct_X10_103 dX10_placed_30 ?_
      refine x_istore 4 [(4, .int (-1000006)), (3, .int 0), (0, .ref (g.2.1 49)), (1, .int (nI k)), (2, .int what)] dX10_placed_32 (by decide) rfl ?_
      refine x_iconst (v := 0) dX10_placed_34 (by decide) ?_
      refine x_istore 5 [(5, .int 0), (4, .int (-1000006)), (3, .int 0), (0, .ref (g.2.1 49)), (1, .int (nI k)), (2, .int what)] dX10_placed_35 (by decide) rfl ?_
      have lp5 : ∀ (fu : Nat) (i : Nat) (cn : Nat) (la : Option Nat), (i ≤ n) → (cn = if what = 0 then cpl R i else (trn S fb R i).1) → (la = lsp R i) → (n - i) < fu → XX g jX10_placed Q U3 37 [(5, .int (nI i)), (4, .int (lpm la)), (3, .int (nI cn)), (0, .ref (g.2.1 49)), (1, .int (nI k)), (2, .int what)] [] := by
        intro fu
        induction fu with
        | zero => intro _ _ _ _ _ _ hmz; exact absurd hmz (Nat.not_lt_zero _)
        | succ fu ih =>
          intro i cn la hi hT hla hmz
          have hcb : cn ≤ i := by rw [hT]; split; exact cpl_le R i; exact trn_le S fb R i
          have htl := trn_l S fb R i
          rw [← hla] at htl
          refine x_iload dX10_placed_37 0 rfl ?_
          refine x_aload_n dX10_placed_39 3 rfl ?_
          refine x_getI fl_X10_293 rfl rfl dX10_placed_40 ?_
          refine x_topi (hLU.1) ?_
          refine x_icmp_ge 123 dX10_placed_43 (by decide) (fun c6 => ?_) (fun c6 => ?_)
          · have c6n : n ≤ i := (nl_le (a := n) (b := i) (rfl) (rfl) (by omega) (by omega)).mp c6
            refine x_iload_n dX10_placed_123 2 rfl ?_
            refine x_iret dX10_placed_124 rfl ?_
            rw [hQ]
            have ei : i = n := by omega
            rw [ei] at hT
            refine ⟨_, rfl, ?_, hMQ3, hFr3⟩
            rw [pcZ_k h24 hk0 hkS (by assumption), ← eR, hT]
            split <;> rfl
          · have c6n : i < n := Nat.not_le.mp (fun q => c6 ((nl_le (a := n) (b := i) (rfl) (rfl) (by omega) (by omega)).mpr q))
            rcases hRi : (R i).1 with _ | h
            · -- none
              refine x_aload_n dX10_placed_46 3 rfl ?_
              refine x_getR fl_X10_74 rfl rfl dX10_placed_47 ?_
              refine x_iload dX10_placed_50 0 rfl ?_
              have b7 : vp_in (nI i) 24 := by exact vp_in_nI (by omega) (by decide)
              refine x_iald rfl b7 dX10_placed_52 ?_
              refine x_topi (y := U3 71 i) (by rw [nI_clamp (by omega)]) ?_
              refine x_topi (((hLR i (by omega)).2.trans (congrArg hmM hRi) : U3 71 i = -1000006)) ?_
              refine x_if_lt 117 dX10_placed_53 (by decide) (fun c8 => ?_) (fun c8 => by exfalso; revert c8; decide)
              refine x_iinc 5 (v := (nI i) + 1) 0 [(5, .int ((nI i) + 1)), (4, .int (lpm la)), (3, .int (nI cn)), (0, .ref (g.2.1 49)), (1, .int (nI k)), (2, .int what)] dX10_placed_117 rfl (by rfl) (by decide) rfl ?_
              refine x_goto 37 dX10_placed_120 (by decide) ?_
              refine YY.L (lv' := [(5, .int (nI (i + 1))), (4, .int (lpm la)), (3, .int (nI cn)), (0, .ref (g.2.1 49)), (1, .int (nI k)), (2, .int what)]) (by first | (rw [nI_1, nI_1] <;> rfl) | (rw [nI_1, Int32.add_zero] <;> rfl) | (rw [nI_1] <;> rfl)) ?_
              exact ih (i + 1) cn la (by omega) (by rw [hT]; split; rw [cpl, if_pos hRi]; rw [trn, hRi]) (by rw [lsp, if_pos hRi]; exact hla) (by omega)
            · -- some
              obtain ⟨hk1, hk2, hk3, hk4⟩ := hOK i (by omega) h hRi
              have hbh := hG.bd (j := h + 1) (by omega)
              refine x_aload_n dX10_placed_46 3 rfl ?_
              refine x_getR fl_X10_74 rfl rfl dX10_placed_47 ?_
              refine x_iload dX10_placed_50 0 rfl ?_
              have b9 : vp_in (nI i) 24 := by exact vp_in_nI (by omega) (by decide)
              refine x_iald rfl b9 dX10_placed_52 ?_
              refine x_topi (y := U3 71 i) (by rw [nI_clamp (by omega)]) ?_
              refine x_topi (((hLR i (by omega)).2.trans (congrArg hmM hRi) : U3 71 i = nI h)) ?_
              refine x_if_lt 117 dX10_placed_53 (by decide) (fun c10 => by exfalso; exact absurd c10 (nI_pos (by omega))) (fun c10 => ?_)
              refine x_iload_n dX10_placed_56 5 rfl ?_
              refine x_if_eq 93 dX10_placed_57 (by decide) (fun c11 => ?_) (fun c11 => ?_)
              · refine x_iconst (v := 1) dX10_placed_93 (by decide) ?_
                refine x_goto 98 dX10_placed_94 (by decide) ?_
                refine x_istore 6 [(6, .int 1), (5, .int (nI i)), (4, .int (lpm la)), (3, .int (nI cn)), (0, .ref (g.2.1 49)), (1, .int (nI k)), (2, .int what)] dX10_placed_98 (by decide) rfl ?_
                refine x_iload_n dX10_placed_100 3 rfl ?_
                refine x_iload dX10_placed_101 0 rfl ?_
                refine x_if_eq 110 dX10_placed_103 (by decide) (fun c12 => by exfalso; revert c12; decide) (fun c12 => ?_)
                refine x_iconst (v := 1) dX10_placed_106 (by decide) ?_
                refine x_goto 111 dX10_placed_107 (by decide) ?_
                refine x_iadd dX10_placed_111 ?_
                refine x_istore_n 3 [(3, .int ((nI cn) + 1)), (6, .int 1), (5, .int (nI i)), (4, .int (lpm la)), (0, .ref (g.2.1 49)), (1, .int (nI k)), (2, .int what)] dX10_placed_112 rfl (by decide) rfl ?_
                refine x_iload dX10_placed_113 2 rfl ?_
                refine x_istore 4 [(4, .int (nI i)), (3, .int ((nI cn) + 1)), (6, .int 1), (5, .int (nI i)), (0, .ref (g.2.1 49)), (1, .int (nI k)), (2, .int what)] dX10_placed_115 (by decide) rfl ?_
                refine x_iinc 5 (v := (nI i) + 1) 3 [(5, .int ((nI i) + 1)), (4, .int (nI i)), (3, .int ((nI cn) + 1)), (6, .int 1), (0, .ref (g.2.1 49)), (1, .int (nI k)), (2, .int what)] dX10_placed_117 rfl (by rfl) (by decide) rfl ?_
                refine x_goto 37 dX10_placed_120 (by decide) ?_
                refine x_lv [0, 1, 2, 4, 5, 6] rfl ?_
                refine YY.L (lv' := [(5, .int (nI (i + 1))), (4, .int (lpm (some i))), (3, .int (nI (cn + 1))), (0, .ref (g.2.1 49)), (1, .int (nI k)), (2, .int what)]) (by first | (rw [nI_1, nI_1] <;> rfl) | (rw [nI_1, Int32.add_zero] <;> rfl) | (rw [nI_1] <;> rfl)) ?_
                exact ih (i + 1) (cn + 1) (some i) (by omega) (by rw [hT, if_pos (by assumption), if_pos (by assumption), cpl, if_neg (by rw [hRi]; intro z; cases z)]) (by rw [lsp, if_neg (by rw [hRi]; intro z; cases z)]) (by omega)
              · rcases hla2 : la with _ | j
                · -- last 0
                  rw [hla2] at htl
                  refine YY.L (lv' := [(5, .int (nI i)), (4, .int (-1000006)), (3, .int (nI cn)), (0, .ref (g.2.1 49)), (1, .int (nI k)), (2, .int what)]) (by rfl) ?_
                  refine x_iload dX10_placed_60 1 rfl ?_
                  refine x_if_lt 97 dX10_placed_62 (by decide) (fun c13 => ?_) (fun c13 => by exfalso; revert c13; decide)
                  refine x_iconst (v := 0) dX10_placed_97 (by decide) ?_
                  refine x_istore 6 [(6, .int 0), (5, .int (nI i)), (4, .int (-1000006)), (3, .int (nI cn)), (0, .ref (g.2.1 49)), (1, .int (nI k)), (2, .int what)] dX10_placed_98 (by decide) rfl ?_
                  refine x_iload_n dX10_placed_100 3 rfl ?_
                  refine x_iload dX10_placed_101 0 rfl ?_
                  refine x_if_eq 110 dX10_placed_103 (by decide) (fun c14 => ?_) (fun c14 => by exfalso; revert c14; decide)
                  refine x_iconst (v := 0) dX10_placed_110 (by decide) ?_
                  refine x_iadd dX10_placed_111 ?_
                  refine x_istore_n 3 [(3, .int ((nI cn) + 0)), (6, .int 0), (5, .int (nI i)), (4, .int (-1000006)), (0, .ref (g.2.1 49)), (1, .int (nI k)), (2, .int what)] dX10_placed_112 rfl (by decide) rfl ?_
                  refine x_iload dX10_placed_113 2 rfl ?_
                  refine x_istore 4 [(4, .int (nI i)), (3, .int ((nI cn) + 0)), (6, .int 0), (5, .int (nI i)), (0, .ref (g.2.1 49)), (1, .int (nI k)), (2, .int what)] dX10_placed_115 (by decide) rfl ?_
                  refine x_iinc 5 (v := (nI i) + 1) 3 [(5, .int ((nI i) + 1)), (4, .int (nI i)), (3, .int ((nI cn) + 0)), (6, .int 0), (0, .ref (g.2.1 49)), (1, .int (nI k)), (2, .int what)] dX10_placed_117 rfl (by rfl) (by decide) rfl ?_
                  refine x_goto 37 dX10_placed_120 (by decide) ?_
                  refine x_lv [0, 1, 2, 4, 5, 6] rfl ?_
                  refine YY.L (lv' := [(5, .int (nI (i + 1))), (4, .int (lpm (some i))), (3, .int (nI cn)), (0, .ref (g.2.1 49)), (1, .int (nI k)), (2, .int what)]) (by first | (rw [nI_1, nI_1] <;> rfl) | (rw [nI_1, Int32.add_zero] <;> rfl) | (rw [nI_1] <;> rfl)) ?_
                  exact ih (i + 1) cn (some i) (by omega) (by rw [if_neg (by assumption)] at hT ⊢; have tt : trn S fb R i = (cn, (trn S fb R i).2) := (by rw [hT]); rw [htl.1] at tt; rw [trn_0 hRi tt]) (by rw [lsp, if_neg (by rw [hRi]; intro z; cases z)]) (by omega)
                · -- last 1
                  rw [hla2] at htl
                  obtain ⟨hji, h2, ej⟩ := htl.2 j rfl
                  obtain ⟨hj1, hj2, hj3, hj4⟩ := hOK j (by omega) h2 ej
                  refine YY.L (lv' := [(5, .int (nI i)), (4, .int (nI j)), (3, .int (nI cn)), (0, .ref (g.2.1 49)), (1, .int (nI k)), (2, .int what)]) (by rfl) ?_
                  refine x_iload dX10_placed_60 1 rfl ?_
                  refine x_if_lt 97 dX10_placed_62 (by decide) (fun c15 => by exfalso; exact absurd c15 (nI_pos (by omega))) (fun c15 => ?_)
                  refine x_aload_n dX10_placed_65 3 rfl ?_
                  refine x_getR fl_X10_74 rfl rfl dX10_placed_66 ?_
                  refine x_iload dX10_placed_69 1 rfl ?_
                  have b16 : vp_in (nI j) 24 := by exact vp_in_nI (by omega) (by decide)
                  refine x_iald rfl b16 dX10_placed_71 ?_
                  refine x_topi (y := U3 71 j) (by rw [nI_clamp (by omega)]) ?_
                  refine x_topi (((hLR j (by omega)).2.trans (congrArg hmM ej) : U3 71 j = nI h2)) ?_
                  refine x_aload_n dX10_placed_72 3 rfl ?_
                  refine x_getR fl_X10_74 rfl rfl dX10_placed_73 ?_
                  refine x_iload dX10_placed_76 0 rfl ?_
                  have b17 : vp_in (nI i) 24 := by exact vp_in_nI (by omega) (by decide)
                  refine x_iald rfl b17 dX10_placed_78 ?_
                  refine x_topi (y := U3 71 i) (by rw [nI_clamp (by omega)]) ?_
                  refine x_topi (((hLR i (by omega)).2.trans (congrArg hmM hRi) : U3 71 i = nI h)) ?_
                  refine x_icmp_ne 97 dX10_placed_79 (by decide) (fun c18 => ?_) (fun c18 => ?_)
                  · have c18n : ¬ h2 = h := fun q => c18 ((nl_eq (a := h2) (b := h) (rfl) (rfl) (by omega) (by omega)).mpr q)
                    refine x_iconst (v := 0) dX10_placed_97 (by decide) ?_
                    refine x_istore 6 [(6, .int 0), (5, .int (nI i)), (4, .int (nI j)), (3, .int (nI cn)), (0, .ref (g.2.1 49)), (1, .int (nI k)), (2, .int what)] dX10_placed_98 (by decide) rfl ?_
                    refine x_iload_n dX10_placed_100 3 rfl ?_
                    refine x_iload dX10_placed_101 0 rfl ?_
                    refine x_if_eq 110 dX10_placed_103 (by decide) (fun c19 => ?_) (fun c19 => by exfalso; revert c19; decide)
                    refine x_iconst (v := 0) dX10_placed_110 (by decide) ?_
                    refine x_iadd dX10_placed_111 ?_
                    refine x_istore_n 3 [(3, .int ((nI cn) + 0)), (6, .int 0), (5, .int (nI i)), (4, .int (nI j)), (0, .ref (g.2.1 49)), (1, .int (nI k)), (2, .int what)] dX10_placed_112 rfl (by decide) rfl ?_
                    refine x_iload dX10_placed_113 2 rfl ?_
                    refine x_istore 4 [(4, .int (nI i)), (3, .int ((nI cn) + 0)), (6, .int 0), (5, .int (nI i)), (0, .ref (g.2.1 49)), (1, .int (nI k)), (2, .int what)] dX10_placed_115 (by decide) rfl ?_
                    refine x_iinc 5 (v := (nI i) + 1) 3 [(5, .int ((nI i) + 1)), (4, .int (nI i)), (3, .int ((nI cn) + 0)), (6, .int 0), (0, .ref (g.2.1 49)), (1, .int (nI k)), (2, .int what)] dX10_placed_117 rfl (by rfl) (by decide) rfl ?_
                    refine x_goto 37 dX10_placed_120 (by decide) ?_
                    refine x_lv [0, 1, 2, 4, 5, 6] rfl ?_
                    refine YY.L (lv' := [(5, .int (nI (i + 1))), (4, .int (lpm (some i))), (3, .int (nI cn)), (0, .ref (g.2.1 49)), (1, .int (nI k)), (2, .int what)]) (by first | (rw [nI_1, nI_1] <;> rfl) | (rw [nI_1, Int32.add_zero] <;> rfl) | (rw [nI_1] <;> rfl)) ?_
                    exact ih (i + 1) cn (some i) (by omega) (by rw [if_neg (by assumption)] at hT ⊢; have tt : trn S fb R i = (cn, (trn S fb R i).2) := (by rw [hT]); rw [htl.1] at tt; have tq : lsq S fb R (some j) = some (h2, sg S fb (R j).2 h2) := (by show (R j).1.map _ = _; rw [ej] <;> rfl); rw [tq] at tt; rw [trn_f hRi tt (fun z => by have z1 := z.1; dsimp only at z1; omega)]) (by rw [lsp, if_neg (by rw [hRi]; intro z; cases z)]) (by omega)
                  · have c18n : h2 = h := (nl_eq (a := h2) (b := h) (rfl) (rfl) (by omega) (by omega)).mp c18
                    have hh2 : h2 = h := by omega
                    refine x_aload_n dX10_placed_82 3 rfl ?_
                    refine x_iload dX10_placed_83 0 rfl ?_
                    refine x_iload dX10_placed_85 1 rfl ?_
                    refine x_callV (K := jX10_turnsBack) [.int (nI i), .int (nI j)] lk_X10_323 ⟨⟨rfl, rfl⟩, Nat.le_of_ble_eq_true rfl, Nat.le_of_ble_eq_true rfl⟩ rfl rfl (mX10_turnsBack hF hE hG h24 h15 hR n hn24 R hLR i j h (by omega) (by omega) hRi (by omega) (by omega) hk4 (by rw [hh2] at hj4; exact hj4)) rfl (Nat.le_of_ble_eq_true rfl) rfl dX10_placed_87 (kpI ?_)
                    refine x_if_eq 97 dX10_placed_90 (by decide) (fun c20 => ?_) (fun c20 => ?_)
                    · have c20n : ¬ (bk S (sg S fb (R i).2 h) (sg S fb (R j).2 h)) := bP_0.mp c20
                      refine x_iconst (v := 0) dX10_placed_97 (by decide) ?_
                      refine x_istore 6 [(6, .int 0), (5, .int (nI i)), (4, .int (nI j)), (3, .int (nI cn)), (0, .ref (g.2.1 49)), (1, .int (nI k)), (2, .int what)] dX10_placed_98 (by decide) rfl ?_
                      refine x_iload_n dX10_placed_100 3 rfl ?_
                      refine x_iload dX10_placed_101 0 rfl ?_
                      refine x_if_eq 110 dX10_placed_103 (by decide) (fun c21 => ?_) (fun c21 => by exfalso; revert c21; decide)
                      refine x_iconst (v := 0) dX10_placed_110 (by decide) ?_
                      refine x_iadd dX10_placed_111 ?_
                      refine x_istore_n 3 [(3, .int ((nI cn) + 0)), (6, .int 0), (5, .int (nI i)), (4, .int (nI j)), (0, .ref (g.2.1 49)), (1, .int (nI k)), (2, .int what)] dX10_placed_112 rfl (by decide) rfl ?_
                      refine x_iload dX10_placed_113 2 rfl ?_
                      refine x_istore 4 [(4, .int (nI i)), (3, .int ((nI cn) + 0)), (6, .int 0), (5, .int (nI i)), (0, .ref (g.2.1 49)), (1, .int (nI k)), (2, .int what)] dX10_placed_115 (by decide) rfl ?_
                      refine x_iinc 5 (v := (nI i) + 1) 3 [(5, .int ((nI i) + 1)), (4, .int (nI i)), (3, .int ((nI cn) + 0)), (6, .int 0), (0, .ref (g.2.1 49)), (1, .int (nI k)), (2, .int what)] dX10_placed_117 rfl (by rfl) (by decide) rfl ?_
                      refine x_goto 37 dX10_placed_120 (by decide) ?_
                      refine x_lv [0, 1, 2, 4, 5, 6] rfl ?_
                      refine YY.L (lv' := [(5, .int (nI (i + 1))), (4, .int (lpm (some i))), (3, .int (nI cn)), (0, .ref (g.2.1 49)), (1, .int (nI k)), (2, .int what)]) (by first | (rw [nI_1, nI_1] <;> rfl) | (rw [nI_1, Int32.add_zero] <;> rfl) | (rw [nI_1] <;> rfl)) ?_
                      exact ih (i + 1) cn (some i) (by omega) (by rw [if_neg (by assumption)] at hT ⊢; have tt : trn S fb R i = (cn, (trn S fb R i).2) := (by rw [hT]); rw [htl.1] at tt; have tq : lsq S fb R (some j) = some (h2, sg S fb (R j).2 h2) := (by show (R j).1.map _ = _; rw [ej] <;> rfl); rw [tq] at tt; rw [hh2] at tt; rw [trn_f hRi tt (fun z => absurd z.2 (by assumption))]) (by rw [lsp, if_neg (by rw [hRi]; intro z; cases z)]) (by omega)
                    · have c20n : (bk S (sg S fb (R i).2 h) (sg S fb (R j).2 h)) := Classical.not_not.mp (fun q => c20 (bP_0.mpr q))
                      refine x_iconst (v := 1) dX10_placed_93 (by decide) ?_
                      refine x_goto 98 dX10_placed_94 (by decide) ?_
                      refine x_istore 6 [(6, .int 1), (5, .int (nI i)), (4, .int (nI j)), (3, .int (nI cn)), (0, .ref (g.2.1 49)), (1, .int (nI k)), (2, .int what)] dX10_placed_98 (by decide) rfl ?_
                      refine x_iload_n dX10_placed_100 3 rfl ?_
                      refine x_iload dX10_placed_101 0 rfl ?_
                      refine x_if_eq 110 dX10_placed_103 (by decide) (fun c22 => by exfalso; revert c22; decide) (fun c22 => ?_)
                      refine x_iconst (v := 1) dX10_placed_106 (by decide) ?_
                      refine x_goto 111 dX10_placed_107 (by decide) ?_
                      refine x_iadd dX10_placed_111 ?_
                      refine x_istore_n 3 [(3, .int ((nI cn) + 1)), (6, .int 1), (5, .int (nI i)), (4, .int (nI j)), (0, .ref (g.2.1 49)), (1, .int (nI k)), (2, .int what)] dX10_placed_112 rfl (by decide) rfl ?_
                      refine x_iload dX10_placed_113 2 rfl ?_
                      refine x_istore 4 [(4, .int (nI i)), (3, .int ((nI cn) + 1)), (6, .int 1), (5, .int (nI i)), (0, .ref (g.2.1 49)), (1, .int (nI k)), (2, .int what)] dX10_placed_115 (by decide) rfl ?_
                      refine x_iinc 5 (v := (nI i) + 1) 3 [(5, .int ((nI i) + 1)), (4, .int (nI i)), (3, .int ((nI cn) + 1)), (6, .int 1), (0, .ref (g.2.1 49)), (1, .int (nI k)), (2, .int what)] dX10_placed_117 rfl (by rfl) (by decide) rfl ?_
                      refine x_goto 37 dX10_placed_120 (by decide) ?_
                      refine x_lv [0, 1, 2, 4, 5, 6] rfl ?_
                      refine YY.L (lv' := [(5, .int (nI (i + 1))), (4, .int (lpm (some i))), (3, .int (nI (cn + 1))), (0, .ref (g.2.1 49)), (1, .int (nI k)), (2, .int what)]) (by first | (rw [nI_1, nI_1] <;> rfl) | (rw [nI_1, Int32.add_zero] <;> rfl) | (rw [nI_1] <;> rfl)) ?_
                      exact ih (i + 1) (cn + 1) (some i) (by omega) (by rw [if_neg (by assumption)] at hT ⊢; have tt : trn S fb R i = (cn, (trn S fb R i).2) := (by rw [hT]); rw [htl.1] at tt; have tq : lsq S fb R (some j) = some (h2, sg S fb (R j).2 h2) := (by show (R j).1.map _ = _; rw [ej] <;> rfl); rw [tq] at tt; rw [hh2] at tt; rw [trn_t hRi tt ⟨rfl, by assumption⟩]) (by rw [lsp, if_neg (by rw [hRi]; intro z; cases z)]) (by omega)
      refine YY.L (lv' := [(5, .int (nI 0)), (4, .int (lpm none)), (3, .int (nI 0)), (0, .ref (g.2.1 49)), (1, .int (nI k)), (2, .int what)]) (by rfl) ?_
      exact lp5 _ 0 0 none (by omega) (by unfold cpl trn; split <;> rfl) (by rfl) (Nat.lt_succ_self _)
    · have c2n : ¬ (0 ≤ what ∧ what ≤ 1) := iB_0.mp c2
      refine x_ldc ct_X10_88 dX10_placed_20 ?_
      refine x_iret dX10_placed_22 rfl ?_
      rw [hQ]
      exact ⟨_, rfl, (pcZ_w (by rw [hk0]; exact nI_bt (by omega) hkS) (by assumption)).symm, hMQ, frN.refl V⟩
  · have c1n : ¬ (0 ≤ c ∧ c < nI S.2.1) := iB_0.mp c1
    refine x_ldc ct_X10_107 dX10_placed_8 ?_
    refine x_iret dX10_placed_10 rfl ?_
    rw [hQ]
    exact ⟨_, rfl, (pcZ_no (by assumption)).symm, hMQ, frN.refl V⟩
