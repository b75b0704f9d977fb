theorem mX1_hasn {g : gX} {V : vM} {S : FS} {fb : Nat → Nat} (hF : FRC V S) (hG : GI S fb) (h24 : S.2.1 ≤ 24) (h15 : S.1 ≤ 1536) (h : Nat) (hh : h ≤ S.2.1) : MM g jX1_has V [.ref (g.2.1 6), .int (nI h)] (pI V (iB (h < S.2.1))) := by
  have e := has_n (h := h) (s := S.2.1) (by omega) (by omega)
  have := mX1_has (g := g) hF hG h24 h15 (nI h)
  rw [e] at this
  exact this
set_option maxHeartbeats 1000000 in
set_option maxRecDepth 100000 in
theorem mX3_layMovingOn {g : gX} {V : vM} {S : FS} {fb : Nat → Nat} (hF : FRC V S) (hG : GI S fb) (h24 : S.2.1 ≤ 24) (h15 : S.1 ≤ 1536) (n : Nat) (W T : Nat → Int32) (o md : Int32) (hL : LCc V n W T o md) (c : Nat) (hc : c ≤ S.2.1) : MM g jX3_layMovingOn V [.ref (g.2.1 9), .ref (g.2.1 6), .int (nI c)] (eV (fun U => fr9 V U ∧ LRc U n (ltMov S fb W T o c))) := by
  refine MM.of plX3_layMovingOn (Nat.le_of_ble_eq_true rfl) ?_
  obtain ⟨Q, hQ⟩ : ∃ Q : Option Value → vM → Prop, Q = (eV (fun U => fr9 V U ∧ LRc U n (ltMov S fb W T o c))) := ⟨_, rfl⟩
  rw [← hQ]
  show XX g jX3_layMovingOn Q V 0 [(0, .ref (g.2.1 9)), (1, .ref (g.2.1 6)), (2, .int (nI c))] []
  have hLB := hL.2.2.2.1
  have hn24 := hLB.1
  have hFV := hF
  refine x_iload_n dX3_layMovingOn_0 2 rfl ?_
  refine x_istore_n 3 [(3, .int (nI c)), (0, .ref (g.2.1 9)), (1, .ref (g.2.1 6)), (2, .int (nI c))] dX3_layMovingOn_1 rfl (by decide) rfl ?_
  refine x_aload_n dX3_layMovingOn_2 1 rfl ?_
  refine x_getI fl_X3_34 rfl rfl dX3_layMovingOn_3 ?_
  refine x_topi (hL.2.1) ?_
  refine x_istore 4 [(4, .int o), (3, .int (nI c)), (0, .ref (g.2.1 9)), (1, .ref (g.2.1 6)), (2, .int (nI c))] dX3_layMovingOn_6 (by decide) rfl ?_
  refine x_iconst (v := 0) dX3_layMovingOn_8 (by decide) ?_
  refine x_istore 5 [(5, .int 0), (4, .int o), (3, .int (nI c)), (0, .ref (g.2.1 9)), (1, .ref (g.2.1 6)), (2, .int (nI c))] dX3_layMovingOn_9 (by decide) rfl ?_
  have lp1 : ∀ (fu : Nat) (i : Nat) (h : Nat) (b : Int32) (U : vM), (i ≤ n) → (h ≤ S.2.1) → (ltM S fb W T o c i = (h, b)) → (fr9 V U) → (LRc U i (ltMov S fb W T o c)) → (n - i) < fu → XX g jX3_layMovingOn Q U 11 [(5, .int (nI i)), (4, .int b), (3, .int (nI h)), (0, .ref (g.2.1 9)), (1, .ref (g.2.1 6)), (2, .int (nI c))] [] := by
    intro fu
    induction fu with
    | zero => intro _ _ _ _ _ _ _ _ _ hmz; exact absurd hmz (Nat.not_lt_zero _)
    | succ fu ih =>
      intro i h b U hi hh hM hfU hR hmz
      have hLU := hL.ag (fun a j q => hfU a j (by omega) (by omega))
      have hF := hFV.ag (fun a j q => hfU a j (by omega) (by omega))
      refine x_iload dX3_layMovingOn_11 0 rfl ?_
      refine x_aload_n dX3_layMovingOn_13 3 rfl ?_
      refine x_getI fl_X3_27 rfl rfl dX3_layMovingOn_14 ?_
      refine x_topi (hLU.1) ?_
      refine x_icmp_ge 126 dX3_layMovingOn_17 (by decide) (fun c2 => ?_) (fun c2 => ?_)
      · have c2n : n ≤ i := (nl_le (a := n) (b := i) (rfl) (rfl) (by omega) (by omega)).mp c2
        refine x_vret dX3_layMovingOn_126 rfl ?_
        rw [hQ]
        have ei : i = n := by omega
        subst ei
        exact ⟨rfl, hfU, hR⟩
      · have c2n : i < n := Nat.not_le.mp (fun q => c2 ((nl_le (a := n) (b := i) (rfl) (rfl) (by omega) (by omega)).mpr q))
        refine x_aload_n dX3_layMovingOn_20 3 rfl ?_
        refine x_iload dX3_layMovingOn_21 0 rfl ?_
        refine x_callV (K := jX3_widthAt) [.int (nI i)] lk_X3_59 ⟨⟨rfl, rfl⟩, Nat.le_of_ble_eq_true rfl, Nat.le_of_ble_eq_true rfl⟩ rfl rfl (by have := mX3_widthAt (g := g) U i n (by omega) (by omega) hLU.1 hLU.2.2.2.2.1; rw [hLU.2.2.2.2.2.1 i (by omega)] at this; exact this) rfl (Nat.le_of_ble_eq_true rfl) rfl dX3_layMovingOn_23 (kpI ?_)
        refine x_istore 6 [(6, .int (W i)), (5, .int (nI i)), (4, .int b), (3, .int (nI h)), (0, .ref (g.2.1 9)), (1, .ref (g.2.1 6)), (2, .int (nI c))] dX3_layMovingOn_26 (by decide) rfl ?_
        have lp3 : ∀ (fu1 : Nat) (h2 : Nat) (b2 : Int32), (h2 ≤ S.2.1) → (skN S fb (W i) (S.2.1 - h2) h2 b2 = ltK S fb W T o c i) → (S.2.1 - h2) < fu1 → XX g jX3_layMovingOn Q U 28 [(6, .int (W i)), (5, .int (nI i)), (4, .int b2), (3, .int (nI h2)), (0, .ref (g.2.1 9)), (1, .ref (g.2.1 6)), (2, .int (nI c))] [] := by
          intro fu1
          induction fu1 with
          | zero => intro _ _ _ _ hmz; exact absurd hmz (Nat.not_lt_zero _)
          | succ fu1 ih1 =>
            intro h2 b2 hh2 hK hmz
            refine x_iload_n dX3_layMovingOn_28 3 rfl ?_
            refine x_aload_n dX3_layMovingOn_29 5 rfl ?_
            refine x_getI fl_X3_100 rfl rfl dX3_layMovingOn_30 ?_
            refine x_topi (hF.2.1) ?_
            refine x_icmp_ge 66 dX3_layMovingOn_33 (by decide) (fun c4 => ?_) (fun c4 => ?_)
            · have c4n : S.2.1 ≤ h2 := (nl_le (a := S.2.1) (b := h2) (rfl) (rfl) (by omega) (by omega)).mp c4
              have hKe : ltK S fb W T o c i = (h2, b2) := by rw [← hK, show S.2.1 - h2 = 0 by omega]; rfl
              refine x_iload dX3_layMovingOn_66 2 rfl ?_
              refine x_iload dX3_layMovingOn_68 0 rfl ?_
              refine x_iconst (v := 2) dX3_layMovingOn_70 (by decide) ?_
              have nz5 : ¬ (2 : Int32) = 0 := by decide
              refine x_idiv dX3_layMovingOn_71 nz5 ?_
              refine x_iadd dX3_layMovingOn_72 ?_
              refine x_istore 7 [(7, .int (b2 + ((W i) / 2))), (6, .int (W i)), (5, .int (nI i)), (4, .int b2), (3, .int (nI h2)), (0, .ref (g.2.1 9)), (1, .ref (g.2.1 6)), (2, .int (nI c))] dX3_layMovingOn_73 (by decide) rfl ?_
              refine x_aload_n dX3_layMovingOn_75 5 rfl ?_
              refine x_getR fl_X3_21 rfl rfl dX3_layMovingOn_76 ?_
              refine x_iload dX3_layMovingOn_79 2 rfl ?_
              refine x_iload dX3_layMovingOn_81 0 rfl ?_
              have b6 : vp_in (nI i) 24 := by exact vp_in_nI (by omega) (by decide)
              refine x_iast rfl b6 dX3_layMovingOn_83 ?_
              refine YY.V (V' := uM U 34 i (b2 + ((W i) / 2))) (by rw [nI_clamp (by omega)]) ?_
              obtain ⟨U7, eU7⟩ : ∃ v_v : vM, v_v = uM U 34 i (b2 + ((W i) / 2)) := ⟨_, rfl⟩
              refine YY.V eU7.symm ?_
              have hF := hF.ag (U := U7) (fun a j q => by rw [eU7, uM_na (by omega)])
              refine x_aload_n dX3_layMovingOn_84 5 rfl ?_
              refine x_getR fl_X3_24 rfl rfl dX3_layMovingOn_85 ?_
              refine x_iload dX3_layMovingOn_88 2 rfl ?_
              refine x_aload_n dX3_layMovingOn_90 6 rfl ?_
              refine x_iload_n dX3_layMovingOn_91 4 rfl ?_
              refine x_callV (K := jX1_has) [.int (nI h2)] lk_X3_103 ⟨⟨rfl, rfl⟩, Nat.le_of_ble_eq_true rfl, Nat.le_of_ble_eq_true rfl⟩ rfl rfl (mX1_hasn hF hG h24 h15 h2 (by omega)) rfl (Nat.le_of_ble_eq_true rfl) rfl dX3_layMovingOn_92 (kpI ?_)
              refine x_if_eq 107 dX3_layMovingOn_95 (by decide) (fun c8 => ?_) (fun c8 => ?_)
              · have c8n : ¬ (h2 < S.2.1) := iB_0.mp c8
                refine x_iconst (v := -1) dX3_layMovingOn_107 (by decide) ?_
                have b9 : vp_in (nI i) 24 := by exact vp_in_nI (by omega) (by decide)
                refine x_iast rfl b9 dX3_layMovingOn_108 ?_
                refine YY.V (V' := uM U7 35 i (-1)) (by rw [nI_clamp (by omega)]) ?_
                obtain ⟨U10, eU10⟩ : ∃ v_v : vM, v_v = uM U7 35 i (-1) := ⟨_, rfl⟩
                refine YY.V eU10.symm ?_
                have hf2 := hfU.st (show U10 = uM (uM U 34 i _) 35 i _ by rw [eU10, eU7])
                have hL2 := hL.ag (fun a j q => hf2 a j (by omega) (by omega))
                refine x_iload dX3_layMovingOn_109 3 rfl ?_
                refine x_aload_n dX3_layMovingOn_111 5 rfl ?_
                refine x_iload dX3_layMovingOn_112 2 rfl ?_
                refine x_callV (K := jX3_stepAfter) [.int (nI i)] lk_X3_97 ⟨⟨rfl, rfl⟩, Nat.le_of_ble_eq_true rfl, Nat.le_of_ble_eq_true rfl⟩ rfl rfl ((show pI U10 (stpA U10 n i) = pI U10 (T i) by rw [hL2.2.2.2.2.2.2 i (by omega)]) ▸ (mX3_stepAfter (g := g) U10 i n (by omega) (by omega) hL2.1 hL2.2.2.2.2.1 : MM g jX3_stepAfter U10 _ (pI U10 (stpA U10 n i)))) rfl (Nat.le_of_ble_eq_true rfl) rfl dX3_layMovingOn_114 (kpI ?_)
                refine x_iadd dX3_layMovingOn_117 ?_
                refine x_istore 4 [(4, .int (b2 + (T i))), (7, .int (b2 + ((W i) / 2))), (6, .int (W i)), (5, .int (nI i)), (3, .int (nI h2)), (0, .ref (g.2.1 9)), (1, .ref (g.2.1 6)), (2, .int (nI c))] dX3_layMovingOn_118 (by decide) rfl ?_
                refine x_iinc 5 (v := (nI i) + 1) 3 [(5, .int ((nI i) + 1)), (4, .int (b2 + (T i))), (7, .int (b2 + ((W i) / 2))), (6, .int (W i)), (3, .int (nI h2)), (0, .ref (g.2.1 9)), (1, .ref (g.2.1 6)), (2, .int (nI c))] dX3_layMovingOn_120 rfl (by rfl) (by decide) rfl ?_
                refine x_goto 11 dX3_layMovingOn_123 (by decide) ?_
                refine x_lv [0, 1, 4, 5, 6, 7] rfl ?_
                refine YY.L (lv' := [(5, .int (nI (i + 1))), (4, .int (b2 + T i)), (3, .int (nI h2)), (0, .ref (g.2.1 9)), (1, .ref (g.2.1 6)), (2, .int (nI c))]) (by rw [nI_1] <;> rfl) ?_
                exact ih (i + 1) h2 (b2 + T i) U10 (by omega) (by omega) (by rw [ltM_s, hKe]) (by exact hfU.st (show U10 = uM (uM U 34 i _) 35 i _ by rw [eU10, eU7])) (by exact hR.put (show U10 = uM (uM U 34 i _) 35 i _ by rw [eU10, eU7]) (ltMov_2 hKe) (by rw [ltMov_n hKe (by first | exact Or.inl (by assumption) | exact Or.inr (Int32.not_le.mpr (by assumption)))]; rfl)) (by omega)
              · have c8n : (h2 < S.2.1) := Classical.not_not.mp (fun q => c8 (iB_0.mpr q))
                refine x_iload dX3_layMovingOn_98 0 rfl ?_
                refine x_if_lt 107 dX3_layMovingOn_100 (by decide) (fun c11 => ?_) (fun c11 => ?_)
                · refine x_iconst (v := -1) dX3_layMovingOn_107 (by decide) ?_
                  have b12 : vp_in (nI i) 24 := by exact vp_in_nI (by omega) (by decide)
                  refine x_iast rfl b12 dX3_layMovingOn_108 ?_
                  refine YY.V (V' := uM U7 35 i (-1)) (by rw [nI_clamp (by omega)]) ?_
                  obtain ⟨U13, eU13⟩ : ∃ v_v : vM, v_v = uM U7 35 i (-1) := ⟨_, rfl⟩
                  refine YY.V eU13.symm ?_
                  have hf2 := hfU.st (show U13 = uM (uM U 34 i _) 35 i _ by rw [eU13, eU7])
                  have hL2 := hL.ag (fun a j q => hf2 a j (by omega) (by omega))
                  refine x_iload dX3_layMovingOn_109 3 rfl ?_
                  refine x_aload_n dX3_layMovingOn_111 5 rfl ?_
                  refine x_iload dX3_layMovingOn_112 2 rfl ?_
                  refine x_callV (K := jX3_stepAfter) [.int (nI i)] lk_X3_97 ⟨⟨rfl, rfl⟩, Nat.le_of_ble_eq_true rfl, Nat.le_of_ble_eq_true rfl⟩ rfl rfl ((show pI U13 (stpA U13 n i) = pI U13 (T i) by rw [hL2.2.2.2.2.2.2 i (by omega)]) ▸ (mX3_stepAfter (g := g) U13 i n (by omega) (by omega) hL2.1 hL2.2.2.2.2.1 : MM g jX3_stepAfter U13 _ (pI U13 (stpA U13 n i)))) rfl (Nat.le_of_ble_eq_true rfl) rfl dX3_layMovingOn_114 (kpI ?_)
                  refine x_iadd dX3_layMovingOn_117 ?_
                  refine x_istore 4 [(4, .int (b2 + (T i))), (7, .int (b2 + ((W i) / 2))), (6, .int (W i)), (5, .int (nI i)), (3, .int (nI h2)), (0, .ref (g.2.1 9)), (1, .ref (g.2.1 6)), (2, .int (nI c))] dX3_layMovingOn_118 (by decide) rfl ?_
                  refine x_iinc 5 (v := (nI i) + 1) 3 [(5, .int ((nI i) + 1)), (4, .int (b2 + (T i))), (7, .int (b2 + ((W i) / 2))), (6, .int (W i)), (3, .int (nI h2)), (0, .ref (g.2.1 9)), (1, .ref (g.2.1 6)), (2, .int (nI c))] dX3_layMovingOn_120 rfl (by rfl) (by decide) rfl ?_
                  refine x_goto 11 dX3_layMovingOn_123 (by decide) ?_
                  refine x_lv [0, 1, 4, 5, 6, 7] rfl ?_
                  refine YY.L (lv' := [(5, .int (nI (i + 1))), (4, .int (b2 + T i)), (3, .int (nI h2)), (0, .ref (g.2.1 9)), (1, .ref (g.2.1 6)), (2, .int (nI c))]) (by rw [nI_1] <;> rfl) ?_
                  exact ih (i + 1) h2 (b2 + T i) U13 (by omega) (by omega) (by rw [ltM_s, hKe]) (by exact hfU.st (show U13 = uM (uM U 34 i _) 35 i _ by rw [eU13, eU7])) (by exact hR.put (show U13 = uM (uM U 34 i _) 35 i _ by rw [eU13, eU7]) (ltMov_2 hKe) (by rw [ltMov_n hKe (by first | exact Or.inl (by assumption) | exact Or.inr (Int32.not_le.mpr (by assumption)))]; rfl)) (by omega)
                · refine x_iload_n dX3_layMovingOn_103 4 rfl ?_
                  refine x_goto 108 dX3_layMovingOn_104 (by decide) ?_
                  have b14 : vp_in (nI i) 24 := by exact vp_in_nI (by omega) (by decide)
                  refine x_iast rfl b14 dX3_layMovingOn_108 ?_
                  refine YY.V (V' := uM U7 35 i (nI h2)) (by rw [nI_clamp (by omega)]) ?_
                  obtain ⟨U15, eU15⟩ : ∃ v_v : vM, v_v = uM U7 35 i (nI h2) := ⟨_, rfl⟩
                  refine YY.V eU15.symm ?_
                  have hf2 := hfU.st (show U15 = uM (uM U 34 i _) 35 i _ by rw [eU15, eU7])
                  have hL2 := hL.ag (fun a j q => hf2 a j (by omega) (by omega))
                  refine x_iload dX3_layMovingOn_109 3 rfl ?_
                  refine x_aload_n dX3_layMovingOn_111 5 rfl ?_
                  refine x_iload dX3_layMovingOn_112 2 rfl ?_
                  refine x_callV (K := jX3_stepAfter) [.int (nI i)] lk_X3_97 ⟨⟨rfl, rfl⟩, Nat.le_of_ble_eq_true rfl, Nat.le_of_ble_eq_true rfl⟩ rfl rfl ((show pI U15 (stpA U15 n i) = pI U15 (T i) by rw [hL2.2.2.2.2.2.2 i (by omega)]) ▸ (mX3_stepAfter (g := g) U15 i n (by omega) (by omega) hL2.1 hL2.2.2.2.2.1 : MM g jX3_stepAfter U15 _ (pI U15 (stpA U15 n i)))) rfl (Nat.le_of_ble_eq_true rfl) rfl dX3_layMovingOn_114 (kpI ?_)
                  refine x_iadd dX3_layMovingOn_117 ?_
                  refine x_istore 4 [(4, .int (b2 + (T i))), (7, .int (b2 + ((W i) / 2))), (6, .int (W i)), (5, .int (nI i)), (3, .int (nI h2)), (0, .ref (g.2.1 9)), (1, .ref (g.2.1 6)), (2, .int (nI c))] dX3_layMovingOn_118 (by decide) rfl ?_
                  refine x_iinc 5 (v := (nI i) + 1) 3 [(5, .int ((nI i) + 1)), (4, .int (b2 + (T i))), (7, .int (b2 + ((W i) / 2))), (6, .int (W i)), (3, .int (nI h2)), (0, .ref (g.2.1 9)), (1, .ref (g.2.1 6)), (2, .int (nI c))] dX3_layMovingOn_120 rfl (by rfl) (by decide) rfl ?_
                  refine x_goto 11 dX3_layMovingOn_123 (by decide) ?_
                  refine x_lv [0, 1, 4, 5, 6, 7] rfl ?_
                  refine YY.L (lv' := [(5, .int (nI (i + 1))), (4, .int (b2 + T i)), (3, .int (nI h2)), (0, .ref (g.2.1 9)), (1, .ref (g.2.1 6)), (2, .int (nI c))]) (by rw [nI_1] <;> rfl) ?_
                  exact ih (i + 1) h2 (b2 + T i) U15 (by omega) (by omega) (by rw [ltM_s, hKe]) (by exact hfU.st (show U15 = uM (uM U 34 i _) 35 i _ by rw [eU15, eU7])) (by exact hR.put (show U15 = uM (uM U 34 i _) 35 i _ by rw [eU15, eU7]) (ltMov_2 hKe) (by rw [ltMov_y hKe (by assumption) (Int32.not_lt.mp (by assumption))]; rfl)) (by omega)
            · have c4n : h2 < S.2.1 := Nat.not_le.mp (fun q => c4 ((nl_le (a := S.2.1) (b := h2) (rfl) (rfl) (by omega) (by omega)).mpr q))
              refine x_aload_n dX3_layMovingOn_36 5 rfl ?_
              refine x_iload_n dX3_layMovingOn_37 3 rfl ?_
              refine x_callV (K := jX1_hasSegments) [.int (nI h2)] lk_X3_90 ⟨⟨rfl, rfl⟩, Nat.le_of_ble_eq_true rfl, Nat.le_of_ble_eq_true rfl⟩ rfl rfl (mX1_hasSegments hF hG h24 h15 h2 (by omega)) rfl (Nat.le_of_ble_eq_true rfl) rfl dX3_layMovingOn_38 (kpI ?_)
              refine x_if_eq 57 dX3_layMovingOn_41 (by decide) (fun c16 => ?_) (fun c16 => ?_)
              · have c16n : ¬ (1 < fb (h2 + 1) - fb h2) := iB_0.mp c16
                refine x_iinc 3 (v := (nI h2) + 1) 3 [(3, .int ((nI h2) + 1)), (6, .int (W i)), (5, .int (nI i)), (4, .int b2), (0, .ref (g.2.1 9)), (1, .ref (g.2.1 6)), (2, .int (nI c))] dX3_layMovingOn_57 rfl (by rfl) (by decide) rfl ?_
                refine x_iconst (v := 0) dX3_layMovingOn_60 (by decide) ?_
                refine x_istore 4 [(4, .int 0), (3, .int ((nI h2) + 1)), (6, .int (W i)), (5, .int (nI i)), (0, .ref (g.2.1 9)), (1, .ref (g.2.1 6)), (2, .int (nI c))] dX3_layMovingOn_61 (by decide) rfl ?_
                refine x_goto 28 dX3_layMovingOn_63 (by decide) ?_
                refine x_lv [2, 3, 0, 1, 4, 5, 6] rfl ?_
                refine YY.L (lv' := [(6, .int (W i)), (5, .int (nI i)), (4, .int 0), (3, .int (nI (h2 + 1))), (0, .ref (g.2.1 9)), (1, .ref (g.2.1 6)), (2, .int (nI c))]) (by rw [nI_1] <;> rfl) ?_
                exact ih1 (h2 + 1) 0 (by omega) (by rw [← hK, show S.2.1 - h2 = (S.2.1 - (h2 + 1)) + 1 by omega, skN_miss (fun q => by first | exact absurd q.1 (by assumption) | exact absurd q.2 (by assumption))]) (by omega)
              · have c16n : (1 < fb (h2 + 1) - fb h2) := Classical.not_not.mp (fun q => c16 (iB_0.mpr q))
                refine x_iload dX3_layMovingOn_44 2 rfl ?_
                refine x_iload dX3_layMovingOn_46 0 rfl ?_
                refine x_iadd dX3_layMovingOn_48 ?_
                refine x_aload_n dX3_layMovingOn_49 5 rfl ?_
                refine x_iload_n dX3_layMovingOn_50 3 rfl ?_
                refine x_callV (K := jX1_lengthOf) [.int (nI h2)] lk_X3_69 ⟨⟨rfl, rfl⟩, Nat.le_of_ble_eq_true rfl, Nat.le_of_ble_eq_true rfl⟩ rfl rfl (mX1_lengthOf hF hG h24 h15 h2 (by omega)) rfl (Nat.le_of_ble_eq_true rfl) rfl dX3_layMovingOn_51 (kpI ?_)
                refine x_icmp_le 66 dX3_layMovingOn_54 (by decide) (fun c17 => ?_) (fun c17 => ?_)
                · have hKe : ltK S fb W T o c i = (h2, b2) := by rw [← hK, skN_hit ⟨by assumption, by assumption⟩]
                  refine x_iload dX3_layMovingOn_66 2 rfl ?_
                  refine x_iload dX3_layMovingOn_68 0 rfl ?_
                  refine x_iconst (v := 2) dX3_layMovingOn_70 (by decide) ?_
                  have nz18 : ¬ (2 : Int32) = 0 := by decide
                  refine x_idiv dX3_layMovingOn_71 nz18 ?_
                  refine x_iadd dX3_layMovingOn_72 ?_
                  refine x_istore 7 [(7, .int (b2 + ((W i) / 2))), (6, .int (W i)), (5, .int (nI i)), (4, .int b2), (3, .int (nI h2)), (0, .ref (g.2.1 9)), (1, .ref (g.2.1 6)), (2, .int (nI c))] dX3_layMovingOn_73 (by decide) rfl ?_
                  refine x_aload_n dX3_layMovingOn_75 5 rfl ?_
                  refine x_getR fl_X3_21 rfl rfl dX3_layMovingOn_76 ?_
                  refine x_iload dX3_layMovingOn_79 2 rfl ?_
                  refine x_iload dX3_layMovingOn_81 0 rfl ?_
                  have b19 : vp_in (nI i) 24 := by exact vp_in_nI (by omega) (by decide)
                  refine x_iast rfl b19 dX3_layMovingOn_83 ?_
                  refine YY.V (V' := uM U 34 i (b2 + ((W i) / 2))) (by rw [nI_clamp (by omega)]) ?_
                  obtain ⟨U20, eU20⟩ : ∃ v_v : vM, v_v = uM U 34 i (b2 + ((W i) / 2)) := ⟨_, rfl⟩
                  refine YY.V eU20.symm ?_
                  have hF := hF.ag (U := U20) (fun a j q => by rw [eU20, uM_na (by omega)])
                  refine x_aload_n dX3_layMovingOn_84 5 rfl ?_
                  refine x_getR fl_X3_24 rfl rfl dX3_layMovingOn_85 ?_
                  refine x_iload dX3_layMovingOn_88 2 rfl ?_
                  refine x_aload_n dX3_layMovingOn_90 6 rfl ?_
                  refine x_iload_n dX3_layMovingOn_91 4 rfl ?_
                  refine x_callV (K := jX1_has) [.int (nI h2)] lk_X3_103 ⟨⟨rfl, rfl⟩, Nat.le_of_ble_eq_true rfl, Nat.le_of_ble_eq_true rfl⟩ rfl rfl (mX1_hasn hF hG h24 h15 h2 (by omega)) rfl (Nat.le_of_ble_eq_true rfl) rfl dX3_layMovingOn_92 (kpI ?_)
                  refine x_if_eq 107 dX3_layMovingOn_95 (by decide) (fun c21 => ?_) (fun c21 => ?_)
                  · have c21n : ¬ (h2 < S.2.1) := iB_0.mp c21
                    refine x_iconst (v := -1) dX3_layMovingOn_107 (by decide) ?_
                    have b22 : vp_in (nI i) 24 := by exact vp_in_nI (by omega) (by decide)
                    refine x_iast rfl b22 dX3_layMovingOn_108 ?_
                    refine YY.V (V' := uM U20 35 i (-1)) (by rw [nI_clamp (by omega)]) ?_
                    obtain ⟨U23, eU23⟩ : ∃ v_v : vM, v_v = uM U20 35 i (-1) := ⟨_, rfl⟩
                    refine YY.V eU23.symm ?_
                    have hf2 := hfU.st (show U23 = uM (uM U 34 i _) 35 i _ by rw [eU23, eU20])
                    have hL2 := hL.ag (fun a j q => hf2 a j (by omega) (by omega))
                    refine x_iload dX3_layMovingOn_109 3 rfl ?_
                    refine x_aload_n dX3_layMovingOn_111 5 rfl ?_
                    refine x_iload dX3_layMovingOn_112 2 rfl ?_
                    refine x_callV (K := jX3_stepAfter) [.int (nI i)] lk_X3_97 ⟨⟨rfl, rfl⟩, Nat.le_of_ble_eq_true rfl, Nat.le_of_ble_eq_true rfl⟩ rfl rfl ((show pI U23 (stpA U23 n i) = pI U23 (T i) by rw [hL2.2.2.2.2.2.2 i (by omega)]) ▸ (mX3_stepAfter (g := g) U23 i n (by omega) (by omega) hL2.1 hL2.2.2.2.2.1 : MM g jX3_stepAfter U23 _ (pI U23 (stpA U23 n i)))) rfl (Nat.le_of_ble_eq_true rfl) rfl dX3_layMovingOn_114 (kpI ?_)
                    refine x_iadd dX3_layMovingOn_117 ?_
                    refine x_istore 4 [(4, .int (b2 + (T i))), (7, .int (b2 + ((W i) / 2))), (6, .int (W i)), (5, .int (nI i)), (3, .int (nI h2)), (0, .ref (g.2.1 9)), (1, .ref (g.2.1 6)), (2, .int (nI c))] dX3_layMovingOn_118 (by decide) rfl ?_
                    refine x_iinc 5 (v := (nI i) + 1) 3 [(5, .int ((nI i) + 1)), (4, .int (b2 + (T i))), (7, .int (b2 + ((W i) / 2))), (6, .int (W i)), (3, .int (nI h2)), (0, .ref (g.2.1 9)), (1, .ref (g.2.1 6)), (2, .int (nI c))] dX3_layMovingOn_120 rfl (by rfl) (by decide) rfl ?_
                    refine x_goto 11 dX3_layMovingOn_123 (by decide) ?_
                    refine x_lv [0, 1, 4, 5, 6, 7] rfl ?_
                    refine YY.L (lv' := [(5, .int (nI (i + 1))), (4, .int (b2 + T i)), (3, .int (nI h2)), (0, .ref (g.2.1 9)), (1, .ref (g.2.1 6)), (2, .int (nI c))]) (by rw [nI_1] <;> rfl) ?_
                    exact ih (i + 1) h2 (b2 + T i) U23 (by omega) (by omega) (by rw [ltM_s, hKe]) (by exact hfU.st (show U23 = uM (uM U 34 i _) 35 i _ by rw [eU23, eU20])) (by exact hR.put (show U23 = uM (uM U 34 i _) 35 i _ by rw [eU23, eU20]) (ltMov_2 hKe) (by rw [ltMov_n hKe (by first | exact Or.inl (by assumption) | exact Or.inr (Int32.not_le.mpr (by assumption)))]; rfl)) (by omega)
                  · have c21n : (h2 < S.2.1) := Classical.not_not.mp (fun q => c21 (iB_0.mpr q))
                    refine x_iload dX3_layMovingOn_98 0 rfl ?_
                    refine x_if_lt 107 dX3_layMovingOn_100 (by decide) (fun c24 => ?_) (fun c24 => ?_)
                    · refine x_iconst (v := -1) dX3_layMovingOn_107 (by decide) ?_
                      have b25 : vp_in (nI i) 24 := by exact vp_in_nI (by omega) (by decide)
                      refine x_iast rfl b25 dX3_layMovingOn_108 ?_
                      refine YY.V (V' := uM U20 35 i (-1)) (by rw [nI_clamp (by omega)]) ?_
                      obtain ⟨U26, eU26⟩ : ∃ v_v : vM, v_v = uM U20 35 i (-1) := ⟨_, rfl⟩
                      refine YY.V eU26.symm ?_
                      have hf2 := hfU.st (show U26 = uM (uM U 34 i _) 35 i _ by rw [eU26, eU20])
                      have hL2 := hL.ag (fun a j q => hf2 a j (by omega) (by omega))
                      refine x_iload dX3_layMovingOn_109 3 rfl ?_
                      refine x_aload_n dX3_layMovingOn_111 5 rfl ?_
                      refine x_iload dX3_layMovingOn_112 2 rfl ?_
                      refine x_callV (K := jX3_stepAfter) [.int (nI i)] lk_X3_97 ⟨⟨rfl, rfl⟩, Nat.le_of_ble_eq_true rfl, Nat.le_of_ble_eq_true rfl⟩ rfl rfl ((show pI U26 (stpA U26 n i) = pI U26 (T i) by rw [hL2.2.2.2.2.2.2 i (by omega)]) ▸ (mX3_stepAfter (g := g) U26 i n (by omega) (by omega) hL2.1 hL2.2.2.2.2.1 : MM g jX3_stepAfter U26 _ (pI U26 (stpA U26 n i)))) rfl (Nat.le_of_ble_eq_true rfl) rfl dX3_layMovingOn_114 (kpI ?_)
                      refine x_iadd dX3_layMovingOn_117 ?_
                      refine x_istore 4 [(4, .int (b2 + (T i))), (7, .int (b2 + ((W i) / 2))), (6, .int (W i)), (5, .int (nI i)), (3, .int (nI h2)), (0, .ref (g.2.1 9)), (1, .ref (g.2.1 6)), (2, .int (nI c))] dX3_layMovingOn_118 (by decide) rfl ?_
                      refine x_iinc 5 (v := (nI i) + 1) 3 [(5, .int ((nI i) + 1)), (4, .int (b2 + (T i))), (7, .int (b2 + ((W i) / 2))), (6, .int (W i)), (3, .int (nI h2)), (0, .ref (g.2.1 9)), (1, .ref (g.2.1 6)), (2, .int (nI c))] dX3_layMovingOn_120 rfl (by rfl) (by decide) rfl ?_
                      refine x_goto 11 dX3_layMovingOn_123 (by decide) ?_
                      refine x_lv [0, 1, 4, 5, 6, 7] rfl ?_
                      refine YY.L (lv' := [(5, .int (nI (i + 1))), (4, .int (b2 + T i)), (3, .int (nI h2)), (0, .ref (g.2.1 9)), (1, .ref (g.2.1 6)), (2, .int (nI c))]) (by rw [nI_1] <;> rfl) ?_
                      exact ih (i + 1) h2 (b2 + T i) U26 (by omega) (by omega) (by rw [ltM_s, hKe]) (by exact hfU.st (show U26 = uM (uM U 34 i _) 35 i _ by rw [eU26, eU20])) (by exact hR.put (show U26 = uM (uM U 34 i _) 35 i _ by rw [eU26, eU20]) (ltMov_2 hKe) (by rw [ltMov_n hKe (by first | exact Or.inl (by assumption) | exact Or.inr (Int32.not_le.mpr (by assumption)))]; rfl)) (by omega)
                    · refine x_iload_n dX3_layMovingOn_103 4 rfl ?_
                      refine x_goto 108 dX3_layMovingOn_104 (by decide) ?_
                      have b27 : vp_in (nI i) 24 := by exact vp_in_nI (by omega) (by decide)
                      refine x_iast rfl b27 dX3_layMovingOn_108 ?_
                      refine YY.V (V' := uM U20 35 i (nI h2)) (by rw [nI_clamp (by omega)]) ?_
                      obtain ⟨U28, eU28⟩ : ∃ v_v : vM, v_v = uM U20 35 i (nI h2) := ⟨_, rfl⟩
                      refine YY.V eU28.symm ?_
                      have hf2 := hfU.st (show U28 = uM (uM U 34 i _) 35 i _ by rw [eU28, eU20])
                      have hL2 := hL.ag (fun a j q => hf2 a j (by omega) (by omega))
                      refine x_iload dX3_layMovingOn_109 3 rfl ?_
                      refine x_aload_n dX3_layMovingOn_111 5 rfl ?_
                      refine x_iload dX3_layMovingOn_112 2 rfl ?_
                      refine x_callV (K := jX3_stepAfter) [.int (nI i)] lk_X3_97 ⟨⟨rfl, rfl⟩, Nat.le_of_ble_eq_true rfl, Nat.le_of_ble_eq_true rfl⟩ rfl rfl ((show pI U28 (stpA U28 n i) = pI U28 (T i) by rw [hL2.2.2.2.2.2.2 i (by omega)]) ▸ (mX3_stepAfter (g := g) U28 i n (by omega) (by omega) hL2.1 hL2.2.2.2.2.1 : MM g jX3_stepAfter U28 _ (pI U28 (stpA U28 n i)))) rfl (Nat.le_of_ble_eq_true rfl) rfl dX3_layMovingOn_114 (kpI ?_)
                      refine x_iadd dX3_layMovingOn_117 ?_
                      refine x_istore 4 [(4, .int (b2 + (T i))), (7, .int (b2 + ((W i) / 2))), (6, .int (W i)), (5, .int (nI i)), (3, .int (nI h2)), (0, .ref (g.2.1 9)), (1, .ref (g.2.1 6)), (2, .int (nI c))] dX3_layMovingOn_118 (by decide) rfl ?_
                      refine x_iinc 5 (v := (nI i) + 1) 3 [(5, .int ((nI i) + 1)), (4, .int (b2 + (T i))), (7, .int (b2 + ((W i) / 2))), (6, .int (W i)), (3, .int (nI h2)), (0, .ref (g.2.1 9)), (1, .ref (g.2.1 6)), (2, .int (nI c))] dX3_layMovingOn_120 rfl (by rfl) (by decide) rfl ?_
                      refine x_goto 11 dX3_layMovingOn_123 (by decide) ?_
                      refine x_lv [0, 1, 4, 5, 6, 7] rfl ?_
                      refine YY.L (lv' := [(5, .int (nI (i + 1))), (4, .int (b2 + T i)), (3, .int (nI h2)), (0, .ref (g.2.1 9)), (1, .ref (g.2.1 6)), (2, .int (nI c))]) (by rw [nI_1] <;> rfl) ?_
                      exact ih (i + 1) h2 (b2 + T i) U28 (by omega) (by omega) (by rw [ltM_s, hKe]) (by exact hfU.st (show U28 = uM (uM U 34 i _) 35 i _ by rw [eU28, eU20])) (by exact hR.put (show U28 = uM (uM U 34 i _) 35 i _ by rw [eU28, eU20]) (ltMov_2 hKe) (by rw [ltMov_y hKe (by assumption) (Int32.not_lt.mp (by assumption))]; rfl)) (by omega)
                · refine x_iinc 3 (v := (nI h2) + 1) 3 [(3, .int ((nI h2) + 1)), (6, .int (W i)), (5, .int (nI i)), (4, .int b2), (0, .ref (g.2.1 9)), (1, .ref (g.2.1 6)), (2, .int (nI c))] dX3_layMovingOn_57 rfl (by rfl) (by decide) rfl ?_
                  refine x_iconst (v := 0) dX3_layMovingOn_60 (by decide) ?_
                  refine x_istore 4 [(4, .int 0), (3, .int ((nI h2) + 1)), (6, .int (W i)), (5, .int (nI i)), (0, .ref (g.2.1 9)), (1, .ref (g.2.1 6)), (2, .int (nI c))] dX3_layMovingOn_61 (by decide) rfl ?_
                  refine x_goto 28 dX3_layMovingOn_63 (by decide) ?_
                  refine x_lv [2, 3, 0, 1, 4, 5, 6] rfl ?_
                  refine YY.L (lv' := [(6, .int (W i)), (5, .int (nI i)), (4, .int 0), (3, .int (nI (h2 + 1))), (0, .ref (g.2.1 9)), (1, .ref (g.2.1 6)), (2, .int (nI c))]) (by rw [nI_1] <;> rfl) ?_
                  exact ih1 (h2 + 1) 0 (by omega) (by rw [← hK, show S.2.1 - h2 = (S.2.1 - (h2 + 1)) + 1 by omega, skN_miss (fun q => by first | exact absurd q.1 (by assumption) | exact absurd q.2 (by assumption))]) (by omega)
        exact lp3 _ h b (by omega) (by unfold ltK; rw [hM]) (Nat.lt_succ_self _)
  refine YY.L (lv' := [(5, .int (nI 0)), (4, .int o), (3, .int (nI c)), (0, .ref (g.2.1 9)), (1, .ref (g.2.1 6)), (2, .int (nI c))]) (by rfl) ?_
  exact lp1 _ 0 c o V (by omega) (by omega) (by rfl) (by exact fr9.refl V) (by exact fun i q => absurd q (Nat.not_lt_zero _)) (Nat.lt_succ_self _)
set_option maxHeartbeats 1000000 in
set_option maxRecDepth 100000 in
theorem mX3_layOn {g : gX} {V : vM} {S : FS} {fb : Nat → Nat} (hF : FRC V S) (hG : GI S fb) (h24 : S.2.1 ≤ 24) (h15 : S.1 ≤ 1536) (n : Nat) (W T : Nat → Int32) (o md : Int32) (hL : LCc V n W T o md) (c : Nat) (hc : c < S.2.1) (hlb : 0 ≤ (lnC S fb c).toInt ∧ (lnC S fb c).toInt ≤ 300000000) : MM g jX3_layOn V [.ref (g.2.1 9), .ref (g.2.1 6), .int (nI c)] (eV (fun U => fr9 V U ∧ LRc U n (ltRes S fb n W T o md c))) := by
  refine MM.of plX3_layOn (Nat.le_of_ble_eq_true rfl) ?_
  obtain ⟨Q, hQ⟩ : ∃ Q : Option Value → vM → Prop, Q = (eV (fun U => fr9 V U ∧ LRc U n (ltRes S fb n W T o md c))) := ⟨_, rfl⟩
  rw [← hQ]
  show XX g jX3_layOn Q V 0 [(0, .ref (g.2.1 9)), (1, .ref (g.2.1 6)), (2, .int (nI c))] []
  refine x_aload_n dX3_layOn_0 0 rfl ?_
  refine x_getI fl_X3_40 rfl rfl dX3_layOn_1 ?_
  refine x_topi (hL.2.2.1) ?_
  refine x_iconst (v := 3) dX3_layOn_4 (by decide) ?_
  refine x_icmp_ne 17 dX3_layOn_5 (by decide) (fun c1 => ?_) (fun c1 => ?_)
  · refine x_aload_n dX3_layOn_17 0 rfl ?_
    refine x_aload_n dX3_layOn_18 1 rfl ?_
    refine x_iload_n dX3_layOn_19 2 rfl ?_
    refine x_callV (K := jX3_layOnOne) [.ref (g.2.1 6), .int (nI c)] lk_X3_66 ⟨⟨rfl, rfl⟩, Nat.le_of_ble_eq_true rfl, Nat.le_of_ble_eq_true rfl⟩ rfl rfl (mX3_layOnOne hF hG h24 h15 n W T o md hL c (by omega) hlb) rfl (Nat.le_of_ble_eq_true rfl) rfl dX3_layOn_20 (keV fun U2 hU3 => ?_)
    refine x_vret dX3_layOn_23 rfl ?_
    rw [hQ]
    exact ⟨rfl, hU3.1, by unfold ltRes; rw [if_neg (by assumption)]; exact hU3.2⟩
  · refine x_aload_n dX3_layOn_8 0 rfl ?_
    refine x_aload_n dX3_layOn_9 1 rfl ?_
    refine x_iload_n dX3_layOn_10 2 rfl ?_
    refine x_callV (K := jX3_layMovingOn) [.ref (g.2.1 6), .int (nI c)] lk_X3_62 ⟨⟨rfl, rfl⟩, Nat.le_of_ble_eq_true rfl, Nat.le_of_ble_eq_true rfl⟩ rfl rfl (mX3_layMovingOn hF hG h24 h15 n W T o md hL c (by omega)) rfl (Nat.le_of_ble_eq_true rfl) rfl dX3_layOn_11 (keV fun U4 hU5 => ?_)
    refine x_goto 23 dX3_layOn_14 (by decide) ?_
    refine x_vret dX3_layOn_23 rfl ?_
    rw [hQ]
    exact ⟨rfl, hU5.1, by unfold ltRes; rw [if_pos (by assumption)]; exact hU5.2⟩
