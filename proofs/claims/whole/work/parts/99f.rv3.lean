theorem nI_m1 {a : Nat} (h : 0 < a) : nI a + (-1) = nI (a - 1) := by
  obtain ⟨j, rfl⟩ : ∃ j, a = j + 1 := ⟨a - 1, by omega⟩
  rw [Nat.add_sub_cancel]
  exact pk_m1 j
set_option maxHeartbeats 1000000 in
set_option maxRecDepth 100000 in
theorem mX5_becomeReversed {g : gX} {V : vM} {N : Nat} {m : Nat → Int32} (hP : PR V 1 12 13 N m) {k f b l : Nat} (hCT : CT m N k f b l) : MM g jX5_becomeReversed V [.ref (g.2.1 2), .ref (g.2.1 1), .int (nI k)] (eV (fun U => PPr U 2 14 15 N (rvF m f l) ∧ fr2 V U)) := by
  refine MM.of plX5_becomeReversed (Nat.le_of_ble_eq_true rfl) ?_
  obtain ⟨Q, hQ⟩ : ∃ Q : Option Value → vM → Prop, Q = (eV (fun U => PPr U 2 14 15 N (rvF m f l) ∧ fr2 V U)) := ⟨_, rfl⟩
  rw [← hQ]
  show XX g jX5_becomeReversed Q V 0 [(0, .ref (g.2.1 2)), (1, .ref (g.2.1 1)), (2, .int (nI k))] []
  have hw := hP.2.2.1
  have hN := hw.1
  have hcb := hCT.2.2.1
  have hcl := hCT.2.2.2.2.2.2.2.2.1
  refine x_aload_n dX5_becomeReversed_0 0 rfl ?_
  refine x_callV (K := jX5_clear) [] lk_X5_63 ⟨⟨rfl, rfl⟩, Nat.le_of_ble_eq_true rfl, Nat.le_of_ble_eq_true rfl⟩ rfl rfl (mX5_clear V isP2) rfl (Nat.le_of_ble_eq_true rfl) rfl dX5_becomeReversed_1 (kdV ?_)
  obtain ⟨U1, eU1⟩ : ∃ v_v : vM, v_v = uM (uM V 2 2 0) 2 3 0 := ⟨_, rfl⟩
  refine YY.V eU1.symm ?_
  have hPP : PPr U1 2 14 15 0 (rvF m f l) := ⟨by rw [eU1, uM_ni (by decide), uM_hit]; rfl, by rw [eU1, uM_hit]; rfl, fun i q => absurd q (Nat.not_lt_zero _)⟩
  have hfU : fr2 V U1 := fun a i p q r => by rw [eU1, uM_na p, uM_na p]
  have hPU := hP.f2 hfU
  refine x_aload_n dX5_becomeReversed_4 1 rfl ?_
  refine x_iload_n dX5_becomeReversed_5 2 rfl ?_
  refine x_callV (K := jX5_firstOf) [.int (nI k)] lk_X5_50 ⟨⟨rfl, rfl⟩, Nat.le_of_ble_eq_true rfl, Nat.le_of_ble_eq_true rfl⟩ rfl rfl (by have := mX5_firstOf (g := g) U1 isP1 hN hPU.1 (nI k); rw [fo_cong (K2 := kd7 m) _ (fun i hi => (hPU.2.2.2 i hi).1), hCT.1] at this; exact this) rfl (Nat.le_of_ble_eq_true rfl) rfl dX5_becomeReversed_6 (kpI ?_)
  refine x_istore_n 3 [(3, .int (nI f)), (0, .ref (g.2.1 2)), (1, .ref (g.2.1 1)), (2, .int (nI k))] dX5_becomeReversed_9 rfl (by decide) rfl ?_
  refine x_aload_n dX5_becomeReversed_10 2 rfl ?_
  refine x_iload_n dX5_becomeReversed_11 3 rfl ?_
  refine x_callV (K := jX5_behind) [.int (nI k)] lk_X5_53 ⟨⟨rfl, rfl⟩, Nat.le_of_ble_eq_true rfl, Nat.le_of_ble_eq_true rfl⟩ rfl rfl (by have := mX5_behind (g := g) U1 isP1 hN hPU.1 (nI k); rw [nI_1, fo_cong (K2 := kd7 m) _ (fun i hi => (hPU.2.2.2 i hi).1), hCT.2.1] at this; exact this) rfl (Nat.le_of_ble_eq_true rfl) rfl dX5_becomeReversed_12 (kpI ?_)
  refine x_istore 4 [(4, .int (nI b)), (3, .int (nI f)), (0, .ref (g.2.1 2)), (1, .ref (g.2.1 1)), (2, .int (nI k))] dX5_becomeReversed_15 (by decide) rfl ?_
  refine x_aload_n dX5_becomeReversed_17 3 rfl ?_
  refine x_iload dX5_becomeReversed_18 0 rfl ?_
  refine x_iconst (v := 1) dX5_becomeReversed_20 (by decide) ?_
  refine x_isub dX5_becomeReversed_21 ?_
  have q2 : ((nI b) - 1 : Int32) = nI (b - 1) := nsub (by omega) (rfl) (rfl)
  refine YY.S (st' := [.int (nI (b - 1)), .ref (g.2.1 1)]) (by rw [q2]) ?_
  refine x_callV (K := jX5_kindOf) [.int (nI (b - 1))] lk_X5_38 ⟨⟨rfl, rfl⟩, Nat.le_of_ble_eq_true rfl, Nat.le_of_ble_eq_true rfl⟩ rfl rfl (by have := mX5_kindOf (g := g) U1 isP1 hPU.kok.1 (nI (b - 1)); rw [hPU.ki (i := (b - 1)) (by omega)] at this; exact this) rfl (Nat.le_of_ble_eq_true rfl) rfl dX5_becomeReversed_22 (kpI ?_)
  by_cases h4 : m ((b - 1) * 7) = 4
  · -- end 0
    obtain ⟨el, eb⟩ := hCT.2.2.2.2.2.2.1 h4
    refine x_topi (y := 4) h4 ?_
    refine x_iconst (v := 4) dX5_becomeReversed_25 (by decide) ?_
    refine x_icmp_ne 33 dX5_becomeReversed_26 (by decide) (fun c3 => by exfalso; revert c3; decide) (fun c3 => ?_)
    refine x_iconst (v := 1) dX5_becomeReversed_29 (by decide) ?_
    refine x_goto 34 dX5_becomeReversed_30 (by decide) ?_
    refine x_istore 5 [(5, .int 1), (4, .int (nI b)), (3, .int (nI f)), (0, .ref (g.2.1 2)), (1, .ref (g.2.1 1)), (2, .int (nI k))] dX5_becomeReversed_34 (by decide) rfl ?_
    refine x_iload dX5_becomeReversed_36 0 rfl ?_
    refine x_if_eq 48 dX5_becomeReversed_38 (by decide) (fun c4 => by exfalso; revert c4; decide) (fun c4 => ?_)
    refine x_iload dX5_becomeReversed_41 1 rfl ?_
    refine x_iconst (v := 2) dX5_becomeReversed_43 (by decide) ?_
    refine x_isub dX5_becomeReversed_44 ?_
    refine x_goto 52 dX5_becomeReversed_45 (by decide) ?_
    refine x_topi (y := nI l) (by rw [el]; exact nsub (a := b) (b := 2) (by omega) rfl rfl) ?_
    refine x_istore 6 [(6, .int (nI l)), (5, .int 1), (4, .int (nI b)), (3, .int (nI f)), (0, .ref (g.2.1 2)), (1, .ref (g.2.1 1)), (2, .int (nI k))] dX5_becomeReversed_52 (by decide) rfl ?_
    refine x_aload_n dX5_becomeReversed_54 4 rfl ?_
    refine x_aload_n dX5_becomeReversed_55 5 rfl ?_
    refine x_iconst (v := 0) dX5_becomeReversed_56 (by decide) ?_
    refine x_iload_n dX5_becomeReversed_57 3 rfl ?_
    have q5 : (0 : Int32) = nI 0 := rfl
    refine YY.S (st' := [.int (nI f), .int (nI 0), .ref (g.2.1 1), .ref (g.2.1 2)]) (by rw [q5]) ?_
    refine x_callV (K := jX5_addCopies) [.ref (g.2.1 1), .int (nI 0), .int (nI f)] lk_X5_66 ⟨⟨rfl, rfl⟩, Nat.le_of_ble_eq_true rfl, Nat.le_of_ble_eq_true rfl⟩ rfl rfl (mX5_addCopies hPU 0 f (by omega) (by omega) hPP (fun i i1 i2 => hCT.row hw (by omega) (by omega))) rfl (Nat.le_of_ble_eq_true rfl) rfl dX5_becomeReversed_58 (keV fun U6 hU7 => ?_)
    obtain ⟨hPP, hfq⟩ := hU7
    have hfU := hfU.trans hfq
    have hPU := hP.f2 hfU
    refine x_aload_n dX5_becomeReversed_61 4 rfl ?_
    refine x_iconst (v := 0) dX5_becomeReversed_62 (by decide) ?_
    refine x_aload_n dX5_becomeReversed_63 5 rfl ?_
    refine x_iload dX5_becomeReversed_64 0 rfl ?_
    refine x_callV (K := jX5_endX) [.int (nI l)] lk_X5_70 ⟨⟨rfl, rfl⟩, Nat.le_of_ble_eq_true rfl, Nat.le_of_ble_eq_true rfl⟩ rfl rfl (by have := mX5_endX (g := g) U6 isP1 hPU.kok (nI l); rw [(hPU.exy (i := l) (by omega)).1] at this; exact this) rfl (Nat.le_of_ble_eq_true rfl) rfl dX5_becomeReversed_66 (kpI ?_)
    refine x_aload_n dX5_becomeReversed_69 5 rfl ?_
    refine x_iload dX5_becomeReversed_70 0 rfl ?_
    refine x_callV (K := jX5_endY) [.int (nI l)] lk_X5_73 ⟨⟨rfl, rfl⟩, Nat.le_of_ble_eq_true rfl, Nat.le_of_ble_eq_true rfl⟩ rfl rfl (by have := mX5_endY (g := g) U6 isP1 hPU.kok (nI l); rw [(hPU.exy (i := l) (by omega)).2] at this; exact this) rfl (Nat.le_of_ble_eq_true rfl) rfl dX5_becomeReversed_72 (kpI ?_)
    refine x_iconst (v := 0) dX5_becomeReversed_75 (by decide) ?_
    refine x_iconst (v := 0) dX5_becomeReversed_76 (by decide) ?_
    refine x_iconst (v := 0) dX5_becomeReversed_77 (by decide) ?_
    refine x_iconst (v := 0) dX5_becomeReversed_78 (by decide) ?_
    refine x_callV (K := jX5_add) [.int 0, .int (ex7 m l), .int (ey7 m l), .int 0, .int 0, .int 0, .int 0] lk_X5_76 ⟨⟨rfl, rfl⟩, Nat.le_of_ble_eq_true rfl, Nat.le_of_ble_eq_true rfl⟩ rfl rfl (mX5_add U6 isP2 (f) (by omega) hPP.1 0 (ex7 m l) (ey7 m l) 0 0 0 0) rfl (Nat.le_of_ble_eq_true rfl) rfl dX5_becomeReversed_79 (kdV ?_)
    obtain ⟨U8, eU8⟩ : ∃ v_v : vM, v_v = ad U6 2 14 15 (f) 0 (ex7 m l) (ey7 m l) 0 0 0 0 := ⟨_, rfl⟩
    refine YY.V eU8.symm ?_
    have hPP := hPP.add isP2 (by omega) (kd := 0) hCT.nx0.1.symm (hCT.nx0.2)
    rw [← eU8] at hPP
    have hfU := hfU.ad eU8
    have hPU := hP.f2 hfU
    refine x_iload dX5_becomeReversed_82 0 rfl ?_
    refine x_istore 7 [(7, .int (nI l)), (6, .int (nI l)), (5, .int 1), (4, .int (nI b)), (3, .int (nI f)), (0, .ref (g.2.1 2)), (1, .ref (g.2.1 1)), (2, .int (nI k))] dX5_becomeReversed_84 (by decide) rfl ?_
    have lp9 : ∀ (fu : Nat) (c : Nat) (U : vM), (f ≤ c ∧ c ≤ l) → (PPr U 2 14 15 (f + (l - c + 1)) (rvF m f l)) → (fr2 V U) → (c) < fu → XX g jX5_becomeReversed Q U 86 [(7, .int (nI c)), (6, .int (nI l)), (5, .int 1), (4, .int (nI b)), (3, .int (nI f)), (0, .ref (g.2.1 2)), (1, .ref (g.2.1 1)), (2, .int (nI k))] [] := by
      intro fu
      induction fu with
      | zero => intro _ _ _ _ _ hmz; exact absurd hmz (Nat.not_lt_zero _)
      | succ fu ih =>
        intro c U hc hPP hfU hmz
        have hPU := hP.f2 hfU
        refine x_iload dX5_becomeReversed_86 0 rfl ?_
        refine x_iload_n dX5_becomeReversed_88 4 rfl ?_
        refine x_icmp_le 105 dX5_becomeReversed_89 (by decide) (fun c10 => ?_) (fun c10 => ?_)
        · have c10n : c ≤ f := (nl_le (a := c) (b := f) (rfl) (rfl) (by omega) (by omega)).mp c10
          refine x_iload dX5_becomeReversed_105 2 rfl ?_
          refine x_if_eq 131 dX5_becomeReversed_107 (by decide) (fun c11 => by exfalso; revert c11; decide) (fun c11 => ?_)
          refine x_aload_n dX5_becomeReversed_110 5 rfl ?_
          refine x_iconst (v := 4) dX5_becomeReversed_111 (by decide) ?_
          refine x_aload_n dX5_becomeReversed_112 6 rfl ?_
          refine x_iload dX5_becomeReversed_113 1 rfl ?_
          refine x_callV (K := jX5_endX) [.int (nI l)] lk_X5_70 ⟨⟨rfl, rfl⟩, Nat.le_of_ble_eq_true rfl, Nat.le_of_ble_eq_true rfl⟩ rfl rfl (by have := mX5_endX (g := g) U isP1 hPU.kok (nI l); rw [(hPU.exy (i := l) (by omega)).1] at this; exact this) rfl (Nat.le_of_ble_eq_true rfl) rfl dX5_becomeReversed_115 (kpI ?_)
          refine x_aload_n dX5_becomeReversed_118 6 rfl ?_
          refine x_iload dX5_becomeReversed_119 1 rfl ?_
          refine x_callV (K := jX5_endY) [.int (nI l)] lk_X5_73 ⟨⟨rfl, rfl⟩, Nat.le_of_ble_eq_true rfl, Nat.le_of_ble_eq_true rfl⟩ rfl rfl (by have := mX5_endY (g := g) U isP1 hPU.kok (nI l); rw [(hPU.exy (i := l) (by omega)).2] at this; exact this) rfl (Nat.le_of_ble_eq_true rfl) rfl dX5_becomeReversed_121 (kpI ?_)
          refine x_iconst (v := 0) dX5_becomeReversed_124 (by decide) ?_
          refine x_iconst (v := 0) dX5_becomeReversed_125 (by decide) ?_
          refine x_iconst (v := 0) dX5_becomeReversed_126 (by decide) ?_
          refine x_iconst (v := 0) dX5_becomeReversed_127 (by decide) ?_
          have hPP : PPr U 2 14 15 (b - 1) (rvF m f l) := by rw [show b - 1 = f + (l - c + 1) by omega]; exact hPP
          refine x_callV (K := jX5_add) [.int 4, .int (ex7 m l), .int (ey7 m l), .int 0, .int 0, .int 0, .int 0] lk_X5_76 ⟨⟨rfl, rfl⟩, Nat.le_of_ble_eq_true rfl, Nat.le_of_ble_eq_true rfl⟩ rfl rfl (mX5_add U isP2 (b - 1) (by omega) hPP.1 4 (ex7 m l) (ey7 m l) 0 0 0 0) rfl (Nat.le_of_ble_eq_true rfl) rfl dX5_becomeReversed_128 (kdV ?_)
          obtain ⟨U12, eU12⟩ : ∃ v_v : vM, v_v = ad U 2 14 15 (b - 1) 4 (ex7 m l) (ey7 m l) 0 0 0 0 := ⟨_, rfl⟩
          refine YY.V eU12.symm ?_
          have hPP := hPP.add isP2 (by omega) (kd := 4) (hCT.nx4 h4).1.symm ((hCT.nx4 h4).2)
          rw [← eU12] at hPP
          have hfU := hfU.ad eU12
          have hPU := hP.f2 hfU
          rw [show b - 1 + 1 = b by omega] at hPP
          refine x_aload_n dX5_becomeReversed_131 5 rfl ?_
          refine x_aload_n dX5_becomeReversed_132 6 rfl ?_
          refine x_iload dX5_becomeReversed_133 3 rfl ?_
          refine x_aload_n dX5_becomeReversed_135 6 rfl ?_
          refine x_getI fl_X5_18 rfl rfl dX5_becomeReversed_136 ?_
          refine x_topi (hPU.1) ?_
          refine x_callV (K := jX5_addCopies) [.ref (g.2.1 1), .int (nI b), .int (nI N)] lk_X5_66 ⟨⟨rfl, rfl⟩, Nat.le_of_ble_eq_true rfl, Nat.le_of_ble_eq_true rfl⟩ rfl rfl (mX5_addCopies hPU b N (by omega) (Nat.le_refl _) hPP (fun i i1 i2 => hCT.row hw (by omega) (by omega))) rfl (Nat.le_of_ble_eq_true rfl) rfl dX5_becomeReversed_139 (keV fun U13 hU14 => ?_)
          obtain ⟨hPP, hfq⟩ := hU14
          have hfU := hfU.trans hfq
          have hPU := hP.f2 hfU
          refine x_vret dX5_becomeReversed_142 rfl ?_
          rw [hQ]
          exact ⟨rfl, hPP, hfU⟩
        · have c10n : f < c := Nat.not_le.mp (fun q => c10 ((nl_le (a := c) (b := f) (rfl) (rfl) (by omega) (by omega)).mpr q))
          refine x_aload_n dX5_becomeReversed_92 5 rfl ?_
          refine x_aload_n dX5_becomeReversed_93 6 rfl ?_
          refine x_iload dX5_becomeReversed_94 0 rfl ?_
          refine x_callV (K := jX5_addBackward) [.ref (g.2.1 1), .int (nI c)] lk_X5_80 ⟨⟨rfl, rfl⟩, Nat.le_of_ble_eq_true rfl, Nat.le_of_ble_eq_true rfl⟩ rfl rfl (mX5_addBackward hPU c (f + (l - c + 1)) (by omega) (by omega) (by omega) hPP (hCT.bw (by omega) (by omega))) rfl (Nat.le_of_ble_eq_true rfl) rfl dX5_becomeReversed_96 (keV fun U15 hU16 => ?_)
          obtain ⟨hPP2, hfq⟩ := hU16
          have hf2 := hfU.trans hfq
          refine x_iinc 7 (v := (nI c) + (-1)) 0 [(7, .int ((nI c) + (-1))), (6, .int (nI l)), (5, .int 1), (4, .int (nI b)), (3, .int (nI f)), (0, .ref (g.2.1 2)), (1, .ref (g.2.1 1)), (2, .int (nI k))] dX5_becomeReversed_99 rfl (by rfl) (by decide) rfl ?_
          refine x_goto 86 dX5_becomeReversed_102 (by decide) ?_
          refine YY.L (lv' := [(7, .int (nI (c - 1))), (6, .int (nI l)), (5, .int 1), (4, .int (nI b)), (3, .int (nI f)), (0, .ref (g.2.1 2)), (1, .ref (g.2.1 1)), (2, .int (nI k))]) (by rw [nI_m1 (by omega)] <;> rfl) ?_
          exact ih (c - 1) U15 (by omega) (by rw [show f + (l - (c - 1) + 1) = f + (l - c + 1) + 1 by omega]; exact hPP2) (by exact hf2) (by omega)
    exact lp9 _ l U8 (by omega) (by rw [show f + (l - l + 1) = f + 1 by omega]; exact hPP) (by exact hfU) (Nat.lt_succ_self _)
  · -- end 1
    have el := hCT.2.2.2.2.2.2.2.1 h4
    refine x_iconst (v := 4) dX5_becomeReversed_25 (by decide) ?_
    refine x_icmp_ne 33 dX5_becomeReversed_26 (by decide) (fun c17 => ?_) (fun c17 => by exfalso; exact h4 c17)
    refine x_iconst (v := 0) dX5_becomeReversed_33 (by decide) ?_
    refine x_istore 5 [(5, .int 0), (4, .int (nI b)), (3, .int (nI f)), (0, .ref (g.2.1 2)), (1, .ref (g.2.1 1)), (2, .int (nI k))] dX5_becomeReversed_34 (by decide) rfl ?_
    refine x_iload dX5_becomeReversed_36 0 rfl ?_
    refine x_if_eq 48 dX5_becomeReversed_38 (by decide) (fun c18 => ?_) (fun c18 => by exfalso; revert c18; decide)
    refine x_iload dX5_becomeReversed_48 1 rfl ?_
    refine x_iconst (v := 1) dX5_becomeReversed_50 (by decide) ?_
    refine x_isub dX5_becomeReversed_51 ?_
    refine x_topi (y := nI l) (by rw [el]; exact nsub (a := b) (b := 1) (by omega) rfl rfl) ?_
    refine x_istore 6 [(6, .int (nI l)), (5, .int 0), (4, .int (nI b)), (3, .int (nI f)), (0, .ref (g.2.1 2)), (1, .ref (g.2.1 1)), (2, .int (nI k))] dX5_becomeReversed_52 (by decide) rfl ?_
    refine x_aload_n dX5_becomeReversed_54 4 rfl ?_
    refine x_aload_n dX5_becomeReversed_55 5 rfl ?_
    refine x_iconst (v := 0) dX5_becomeReversed_56 (by decide) ?_
    refine x_iload_n dX5_becomeReversed_57 3 rfl ?_
    have q19 : (0 : Int32) = nI 0 := rfl
    refine YY.S (st' := [.int (nI f), .int (nI 0), .ref (g.2.1 1), .ref (g.2.1 2)]) (by rw [q19]) ?_
    refine x_callV (K := jX5_addCopies) [.ref (g.2.1 1), .int (nI 0), .int (nI f)] lk_X5_66 ⟨⟨rfl, rfl⟩, Nat.le_of_ble_eq_true rfl, Nat.le_of_ble_eq_true rfl⟩ rfl rfl (mX5_addCopies hPU 0 f (by omega) (by omega) hPP (fun i i1 i2 => hCT.row hw (by omega) (by omega))) rfl (Nat.le_of_ble_eq_true rfl) rfl dX5_becomeReversed_58 (keV fun U20 hU21 => ?_)
    obtain ⟨hPP, hfq⟩ := hU21
    have hfU := hfU.trans hfq
    have hPU := hP.f2 hfU
    refine x_aload_n dX5_becomeReversed_61 4 rfl ?_
    refine x_iconst (v := 0) dX5_becomeReversed_62 (by decide) ?_
    refine x_aload_n dX5_becomeReversed_63 5 rfl ?_
    refine x_iload dX5_becomeReversed_64 0 rfl ?_
    refine x_callV (K := jX5_endX) [.int (nI l)] lk_X5_70 ⟨⟨rfl, rfl⟩, Nat.le_of_ble_eq_true rfl, Nat.le_of_ble_eq_true rfl⟩ rfl rfl (by have := mX5_endX (g := g) U20 isP1 hPU.kok (nI l); rw [(hPU.exy (i := l) (by omega)).1] at this; exact this) rfl (Nat.le_of_ble_eq_true rfl) rfl dX5_becomeReversed_66 (kpI ?_)
    refine x_aload_n dX5_becomeReversed_69 5 rfl ?_
    refine x_iload dX5_becomeReversed_70 0 rfl ?_
    refine x_callV (K := jX5_endY) [.int (nI l)] lk_X5_73 ⟨⟨rfl, rfl⟩, Nat.le_of_ble_eq_true rfl, Nat.le_of_ble_eq_true rfl⟩ rfl rfl (by have := mX5_endY (g := g) U20 isP1 hPU.kok (nI l); rw [(hPU.exy (i := l) (by omega)).2] at this; exact this) rfl (Nat.le_of_ble_eq_true rfl) rfl dX5_becomeReversed_72 (kpI ?_)
    refine x_iconst (v := 0) dX5_becomeReversed_75 (by decide) ?_
    refine x_iconst (v := 0) dX5_becomeReversed_76 (by decide) ?_
    refine x_iconst (v := 0) dX5_becomeReversed_77 (by decide) ?_
    refine x_iconst (v := 0) dX5_becomeReversed_78 (by decide) ?_
    refine x_callV (K := jX5_add) [.int 0, .int (ex7 m l), .int (ey7 m l), .int 0, .int 0, .int 0, .int 0] lk_X5_76 ⟨⟨rfl, rfl⟩, Nat.le_of_ble_eq_true rfl, Nat.le_of_ble_eq_true rfl⟩ rfl rfl (mX5_add U20 isP2 (f) (by omega) hPP.1 0 (ex7 m l) (ey7 m l) 0 0 0 0) rfl (Nat.le_of_ble_eq_true rfl) rfl dX5_becomeReversed_79 (kdV ?_)
    obtain ⟨U22, eU22⟩ : ∃ v_v : vM, v_v = ad U20 2 14 15 (f) 0 (ex7 m l) (ey7 m l) 0 0 0 0 := ⟨_, rfl⟩
    refine YY.V eU22.symm ?_
    have hPP := hPP.add isP2 (by omega) (kd := 0) hCT.nx0.1.symm (hCT.nx0.2)
    rw [← eU22] at hPP
    have hfU := hfU.ad eU22
    have hPU := hP.f2 hfU
    refine x_iload dX5_becomeReversed_82 0 rfl ?_
    refine x_istore 7 [(7, .int (nI l)), (6, .int (nI l)), (5, .int 0), (4, .int (nI b)), (3, .int (nI f)), (0, .ref (g.2.1 2)), (1, .ref (g.2.1 1)), (2, .int (nI k))] dX5_becomeReversed_84 (by decide) rfl ?_
    have lp23 : ∀ (fu : Nat) (c : Nat) (U : vM), (f ≤ c ∧ c ≤ l) → (PPr U 2 14 15 (f + (l - c + 1)) (rvF m f l)) → (fr2 V U) → (c) < fu → XX g jX5_becomeReversed Q U 86 [(7, .int (nI c)), (6, .int (nI l)), (5, .int 0), (4, .int (nI b)), (3, .int (nI f)), (0, .ref (g.2.1 2)), (1, .ref (g.2.1 1)), (2, .int (nI k))] [] := by
      intro fu
      induction fu with
      | zero => intro _ _ _ _ _ hmz; exact absurd hmz (Nat.not_lt_zero _)
      | succ fu ih =>
        intro c U hc hPP hfU hmz
        have hPU := hP.f2 hfU
        refine x_iload dX5_becomeReversed_86 0 rfl ?_
        refine x_iload_n dX5_becomeReversed_88 4 rfl ?_
        refine x_icmp_le 105 dX5_becomeReversed_89 (by decide) (fun c24 => ?_) (fun c24 => ?_)
        · have c24n : c ≤ f := (nl_le (a := c) (b := f) (rfl) (rfl) (by omega) (by omega)).mp c24
          refine x_iload dX5_becomeReversed_105 2 rfl ?_
          refine x_if_eq 131 dX5_becomeReversed_107 (by decide) (fun c25 => ?_) (fun c25 => by exfalso; revert c25; decide)
          have hPP : PPr U 2 14 15 b (rvF m f l) := by rw [show b = f + (l - c + 1) by omega]; exact hPP
          refine x_aload_n dX5_becomeReversed_131 5 rfl ?_
          refine x_aload_n dX5_becomeReversed_132 6 rfl ?_
          refine x_iload dX5_becomeReversed_133 3 rfl ?_
          refine x_aload_n dX5_becomeReversed_135 6 rfl ?_
          refine x_getI fl_X5_18 rfl rfl dX5_becomeReversed_136 ?_
          refine x_topi (hPU.1) ?_
          refine x_callV (K := jX5_addCopies) [.ref (g.2.1 1), .int (nI b), .int (nI N)] lk_X5_66 ⟨⟨rfl, rfl⟩, Nat.le_of_ble_eq_true rfl, Nat.le_of_ble_eq_true rfl⟩ rfl rfl (mX5_addCopies hPU b N (by omega) (Nat.le_refl _) hPP (fun i i1 i2 => hCT.row hw (by omega) (by omega))) rfl (Nat.le_of_ble_eq_true rfl) rfl dX5_becomeReversed_139 (keV fun U26 hU27 => ?_)
          obtain ⟨hPP, hfq⟩ := hU27
          have hfU := hfU.trans hfq
          have hPU := hP.f2 hfU
          refine x_vret dX5_becomeReversed_142 rfl ?_
          rw [hQ]
          exact ⟨rfl, hPP, hfU⟩
        · have c24n : f < c := Nat.not_le.mp (fun q => c24 ((nl_le (a := c) (b := f) (rfl) (rfl) (by omega) (by omega)).mpr q))
          refine x_aload_n dX5_becomeReversed_92 5 rfl ?_
          refine x_aload_n dX5_becomeReversed_93 6 rfl ?_
          refine x_iload dX5_becomeReversed_94 0 rfl ?_
          refine x_callV (K := jX5_addBackward) [.ref (g.2.1 1), .int (nI c)] lk_X5_80 ⟨⟨rfl, rfl⟩, Nat.le_of_ble_eq_true rfl, Nat.le_of_ble_eq_true rfl⟩ rfl rfl (mX5_addBackward hPU c (f + (l - c + 1)) (by omega) (by omega) (by omega) hPP (hCT.bw (by omega) (by omega))) rfl (Nat.le_of_ble_eq_true rfl) rfl dX5_becomeReversed_96 (keV fun U28 hU29 => ?_)
          obtain ⟨hPP2, hfq⟩ := hU29
          have hf2 := hfU.trans hfq
          refine x_iinc 7 (v := (nI c) + (-1)) 0 [(7, .int ((nI c) + (-1))), (6, .int (nI l)), (5, .int 0), (4, .int (nI b)), (3, .int (nI f)), (0, .ref (g.2.1 2)), (1, .ref (g.2.1 1)), (2, .int (nI k))] dX5_becomeReversed_99 rfl (by rfl) (by decide) rfl ?_
          refine x_goto 86 dX5_becomeReversed_102 (by decide) ?_
          refine YY.L (lv' := [(7, .int (nI (c - 1))), (6, .int (nI l)), (5, .int 0), (4, .int (nI b)), (3, .int (nI f)), (0, .ref (g.2.1 2)), (1, .ref (g.2.1 1)), (2, .int (nI k))]) (by rw [nI_m1 (by omega)] <;> rfl) ?_
          exact ih (c - 1) U28 (by omega) (by rw [show f + (l - (c - 1) + 1) = f + (l - c + 1) + 1 by omega]; exact hPP2) (by exact hf2) (by omega)
    exact lp23 _ l U22 (by omega) (by rw [show f + (l - l + 1) = f + 1 by omega]; exact hPP) (by exact hfU) (Nat.lt_succ_self _)
def rvZ (m : Nat → Int32) (N : Nat) (c : Int32) : Int32 := if 0 ≤ c ∧ c < nI (cntM (kd7 m) N) then nI (fo (kd7 m) N (nI (c.toNatClampNeg + 1)) - fo (kd7 m) N (nI c.toNatClampNeg)) else -1000001
def rvM (m : Nat → Int32) (N : Nat) (c : Int32) : Nat → Int32 := if 0 ≤ c ∧ c < nI (cntM (kd7 m) N) then rvF m (fo (kd7 m) N (nI c.toNatClampNeg)) (if m ((fo (kd7 m) N (nI (c.toNatClampNeg + 1)) - 1) * 7) = 4 then fo (kd7 m) N (nI (c.toNatClampNeg + 1)) - 2 else fo (kd7 m) N (nI (c.toNatClampNeg + 1)) - 1) else m
theorem rv_no {m : Nat → Int32} {N : Nat} {c : Int32} (h : ¬ (0 ≤ c ∧ c < nI (cntM (kd7 m) N))) : rvZ m N c = -1000001 ∧ rvM m N c = m := ⟨if_neg h, if_neg h⟩
theorem rv_k {m : Nat → Int32} {N : Nat} {c : Int32} {k f b l : Nat} (hN : N ≤ 24) (hk : c = nI k) (hS : k < cntM (kd7 m) N) (h : CT m N k f b l) : rvZ m N c = nI (b - f) ∧ rvM m N c = rvF m f l := by
  have hl := cntM_le (kd7 m) N
  unfold rvZ rvM
  rw [hk, if_pos (nI_bt (by omega) hS), if_pos (nI_bt (by omega) hS), nI_clamp (by omega), h.1, h.2.1]
  refine ⟨rfl, ?_⟩
  by_cases c4 : m ((b - 1) * 7) = 4
  · rw [if_pos c4, (h.2.2.2.2.2.2.1 c4).1]
  · rw [if_neg c4, h.2.2.2.2.2.2.2.1 c4]
theorem PPr.toPR {V U : vM} {N : Nat} {m : Nat → Int32} (h : PPr V 2 14 15 N m) (hw : WF m N) (e : U = bc V 1 12 13 2 14 15) : PR U 1 12 13 N m := by
  have hN := hw.1
  refine ⟨by rw [e, (bc_2 (by decide) (by decide)).1]; exact h.1, by rw [e, (bc_2 (by decide) (by decide)).2]; exact h.2.1, hw, fun i hi => ⟨by rw [e, bc_k (by decide) (by omega)]; exact (h.2.2 i hi).1, numR_cong (h.2.2 i hi).2 (fun j hj => by rw [e, bc_n (by omega)])⟩⟩
theorem fo_cong2 {K K2 : Nat → Int32} {N : Nat} (c : Int32) (h : ∀ i, i < N → (K i = 0 ↔ K2 i = 0)) : fo K N c = fo K2 N c := by
  have g : ∀ r i mv, i + r = N → foL K N c r i mv = foL K2 N c r i mv := by
    intro r
    induction r with
    | zero => intro i mv _; rfl
    | succ r ih =>
      intro i mv hi
      unfold foL
      have := h i (by omega)
      rw [ih (i + 1) (mv + 1) (by omega), ih (i + 1) mv (by omega)]
      by_cases q : K i = 0
      · rw [if_pos q, if_pos (this.mp q)]
      · rw [if_neg q, if_neg (fun z => q (this.mpr z))]
  exact g N 0 0 (by omega)
theorem CT.fo2 {m : Nat → Int32} {N k f b l : Nat} (h : CT m N k f b l) (hw : WF m N) : fo (kd7 (rvF m f l)) N (nI k) = f ∧ fo (kd7 (rvF m f l)) N (nI (k + 1)) = b := by
  have g : ∀ i, i < N → (kd7 (rvF m f l) i = 0 ↔ kd7 m i = 0) := by
    intro i hi
    show rvF m f l (i * 7) = 0 ↔ m (i * 7) = 0
    rw [h.kd]
    obtain ⟨-, -, ⟨c1, c2⟩, c3, c4, c5, c6, -, ⟨c8, c9⟩, c10⟩ := h
    split
    · exact Iff.rfl
    · by_cases e : i = f
      · rw [if_pos e, e]; exact ⟨fun _ => c3, fun _ => rfl⟩
      · rw [if_neg e]
        exact ⟨fun z => absurd z (c4 _ (by omega) (by omega)), fun z => absurd z (c4 i (by omega) (by omega))⟩
  rw [fo_cong2 _ g, fo_cong2 _ g]
  exact ⟨h.1, h.2.1⟩
set_option maxHeartbeats 1000000 in
set_option maxRecDepth 100000 in
theorem mX9_reverse {g : gX} {V : vM} {m : Nat → Int32} {N : Nat} {t : Int32} (hC : CS V m N t) (c : Int32) : MM g jX9_reverse V [.ref (g.2.1 0), .int c] (eI (fun z U => z = rvZ m N c ∧ CS U (rvM m N c) N t ∧ frP V U)) := by
  refine MM.of plX9_reverse (Nat.le_of_ble_eq_true rfl) ?_
  obtain ⟨Q, hQ⟩ : ∃ Q : Option Value → vM → Prop, Q = (eI (fun z U => z = rvZ m N c ∧ CS U (rvM m N c) N t ∧ frP V U)) := ⟨_, rfl⟩
  rw [← hQ]
  show XX g jX9_reverse Q V 0 [(0, .ref (g.2.1 0)), (1, .int c)] []
  have hP := hC.1
  have hw := hP.2.2.1
  have hN := hw.1
  have hV13 := hP.2.1
  have hcl := cntM_le (kd7 m) N
  refine x_aload_n dX9_reverse_0 0 rfl ?_
  refine x_iload_n dX9_reverse_1 1 rfl ?_
  refine x_callV (K := jX9_isContour) [.int c] lk_X9_133 ⟨⟨rfl, rfl⟩, Nat.le_of_ble_eq_true rfl, Nat.le_of_ble_eq_true rfl⟩ rfl rfl (by have := mX9_isContour (g := g) V c; rw [hV13] at this; exact this) rfl (Nat.le_of_ble_eq_true rfl) rfl dX9_reverse_2 (kpI ?_)
  refine x_if_ne 11 dX9_reverse_5 (by decide) (fun c1 => ?_) (fun c1 => ?_)
  · have c1n : (0 ≤ c ∧ c < nI (cntM (kd7 m) N)) := Classical.not_not.mp (fun q => c1 (iB_0.mpr q))
    obtain ⟨k, hk0, hkS⟩ := nI_ex (c := c) (n := cntM (kd7 m) N) (by omega) (by assumption)
    refine YY.L (lv' := [(0, .ref (g.2.1 0)), (1, .int (nI k))]) (by rw [hk0]) ?_
    obtain ⟨f, b, l, hCT⟩ := ct_of hw hkS
    have hcb := hCT.2.2.1
    refine x_aload_n dX9_reverse_11 0 rfl ?_
    refine x_getR fl_X9_16 rfl rfl dX9_reverse_12 ?_
    refine x_aload_n dX9_reverse_15 0 rfl ?_
    refine x_getR fl_X9_12 rfl rfl dX9_reverse_16 ?_
    refine x_iload_n dX9_reverse_19 1 rfl ?_
    refine x_callV (K := jX5_becomeReversed) [.ref (g.2.1 1), .int (nI k)] lk_X9_136 ⟨⟨rfl, rfl⟩, Nat.le_of_ble_eq_true rfl, Nat.le_of_ble_eq_true rfl⟩ rfl rfl (mX5_becomeReversed hP hCT) rfl (Nat.le_of_ble_eq_true rfl) rfl dX9_reverse_20 (keV fun U2 hU3 => ?_)
    obtain ⟨hPP, hf2⟩ := hU3
    refine x_aload_n dX9_reverse_23 0 rfl ?_
    refine x_getR fl_X9_12 rfl rfl dX9_reverse_24 ?_
    refine x_aload_n dX9_reverse_27 0 rfl ?_
    refine x_getR fl_X9_16 rfl rfl dX9_reverse_28 ?_
    refine x_callV (K := jX5_become) [.ref (g.2.1 2)] lk_X9_140 ⟨⟨rfl, rfl⟩, Nat.le_of_ble_eq_true rfl, Nat.le_of_ble_eq_true rfl⟩ rfl rfl (mX5_become U2 isP1 isP2 (by decide) (by decide) (by decide) (by decide) (by decide) (by decide) (by decide)) rfl (Nat.le_of_ble_eq_true rfl) rfl dX9_reverse_31 (kdV ?_)
    obtain ⟨U4, eU4⟩ : ∃ v_v : vM, v_v = bc U2 1 12 13 2 14 15 := ⟨_, rfl⟩
    refine YY.V eU4.symm ?_
    refine x_aload_n dX9_reverse_34 0 rfl ?_
    refine x_iconst (v := 1) dX9_reverse_35 (by decide) ?_
    have z5 : (1 : Int32) = 0 ∨ (1 : Int32) = 1 := by first | exact Or.inl rfl | exact Or.inr rfl | grind
    refine x_putZ fp_X9_75 rfl rfl z5 dX9_reverse_36 ?_
    obtain ⟨U6, eU6⟩ : ∃ v_v : vM, v_v = uM U4 0 12 1 := ⟨_, rfl⟩
    refine YY.V eU6.symm ?_
    have hPN := hPP.toPR (hCT.wf hw) eU4
    have hPU : PR U6 1 12 13 N (rvF m f l) := hPN.kept (fun i => by rw [eU6, uM_na (by decide)]) (fun i => by rw [eU6, uM_na (by decide)]) (fun i => by rw [eU6, uM_na (by decide)])
    refine x_aload_n dX9_reverse_39 0 rfl ?_
    refine x_getR fl_X9_12 rfl rfl dX9_reverse_40 ?_
    refine x_iload_n dX9_reverse_43 1 rfl ?_
    refine x_callV (K := jX5_behind) [.int (nI k)] lk_X9_144 ⟨⟨rfl, rfl⟩, Nat.le_of_ble_eq_true rfl, Nat.le_of_ble_eq_true rfl⟩ rfl rfl (by have := mX5_behind (g := g) U6 isP1 hN hPU.1 (nI k); rw [nI_1, fo_cong (K2 := kd7 (rvF m f l)) _ (fun i hi => (hPU.2.2.2 i hi).1), (hCT.fo2 hw).2] at this; exact this) rfl (Nat.le_of_ble_eq_true rfl) rfl dX9_reverse_44 (kpI ?_)
    refine x_aload_n dX9_reverse_47 0 rfl ?_
    refine x_getR fl_X9_12 rfl rfl dX9_reverse_48 ?_
    refine x_iload_n dX9_reverse_51 1 rfl ?_
    refine x_callV (K := jX5_firstOf) [.int (nI k)] lk_X9_94 ⟨⟨rfl, rfl⟩, Nat.le_of_ble_eq_true rfl, Nat.le_of_ble_eq_true rfl⟩ rfl rfl (by have := mX5_firstOf (g := g) U6 isP1 hN hPU.1 (nI k); rw [fo_cong (K2 := kd7 (rvF m f l)) _ (fun i hi => (hPU.2.2.2 i hi).1), (hCT.fo2 hw).1] at this; exact this) rfl (Nat.le_of_ble_eq_true rfl) rfl dX9_reverse_52 (kpI ?_)
    refine x_isub dX9_reverse_55 ?_
    refine x_iret dX9_reverse_56 rfl ?_
    rw [hQ]
    have hz := rv_k (c := c) hN hk0 hkS hCT
    rw [hz.1, hz.2]
    refine ⟨_, rfl, by rw [nsub (a := b) (b := f) (by omega) rfl rfl], ⟨hPU, ?_, fun z => absurd z ?_⟩, fun q i p q1 q2 q3 => ?_⟩
    · rw [eU6, uM_ni (by decide), eU4, bc_at (by decide) (by decide) (by decide), hf2 0 11 (by decide) (by decide) (by decide)]; exact hC.2.1
    · rw [eU6, uM_hit]; decide
    · rw [eU6, uM_at, if_neg (fun z => p.2.2.2.2.2.2.2.2.2.2.2.2.1 z.1 z.2), eU4, bc_at q1 q2 q3, hf2 q i p.1 p.2.2.2.2.1 p.2.2.2.2.2.1]
  · have c1n : ¬ (0 ≤ c ∧ c < nI (cntM (kd7 m) N)) := iB_0.mp c1
    refine x_ldc ct_X9_111 dX9_reverse_8 ?_
    refine x_iret dX9_reverse_10 rfl ?_
    rw [hQ]
    have hz := rv_no (m := m) (N := N) (c := c) (by assumption)
    exact ⟨_, rfl, hz.1.symm, by rw [hz.2]; exact hC, frP.refl V⟩
