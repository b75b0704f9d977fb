theorem rd_nx4 {O : Nat → Int32} {cm : Nat} {X : Nat → Int32} {sx sy : Int32} (h0 : 0 < cm) (h : O (mv7 O (cm - 1) * 7 + 5) = sx ∧ O (mv7 O (cm - 1) * 7 + 6) = sy) : NX (rOut O cm (rRow 4 X)) cm sx sy 0 0 0 0 := by
  have n0 : rOut O cm (rRow 4 X) (cm * 7) = 4 := rOut_n (O := O) (cm := cm) (row := rRow 4 X) (p := 0) (by omega)
  have ml := mv7_le O (cm - 1)
  unfold NX ex7 ey7
  rw [n0, if_pos rfl, (mv7_out (O := O) (cm := cm) (row := rRow 4 X)).2 (show ¬ (4 : Int32) = 0 by decide) h0, rOut_o (i := mv7 O (cm - 1)) (p := 5) (by omega) (by omega), rOut_o (i := mv7 O (cm - 1)) (p := 6) (by omega) (by omega)]
  exact ⟨fun z => by rcases z with z | z <;> exact absurd z (by decide), fun z => absurd z (by decide), fun z => absurd z (by decide), fun _ => ⟨h.1.symm, h.2.symm⟩⟩
theorem rd_nx {O : Nat → Int32} {cm : Nat} {k : Int32} {X N : Nat → Int32} (hk : 0 ≤ k ∧ k ≤ 3) (h : ∀ j, j < rNd k → N j = X j) : NX (rOut O cm (rRow k X)) cm (N 0) (N 1) (N 2) (N 3) (N 4) (N 5) := by
  have n : ∀ p, p < 7 → rOut O cm (rRow k X) (cm * 7 + p) = rRow k X p := fun p hp => rOut_n hp
  have n0 : rOut O cm (rRow k X) (cm * 7) = k := n 0 (by omega)
  rw [rNd_k hk] at h
  unfold NX
  rw [n0, n 1 (by omega), n 2 (by omega), n 3 (by omega), n 4 (by omega), n 5 (by omega), n 6 (by omega)]
  rcases k5 ⟨hk.1, Int32.le_trans hk.2 (by decide)⟩ with e | e | e | e | e
  · subst e
    exact ⟨fun _ => ⟨h 0 (by decide), h 1 (by decide)⟩, fun z => absurd z (by decide), fun z => absurd z (by decide), fun z => absurd z (by decide)⟩
  · subst e
    exact ⟨fun _ => ⟨h 0 (by decide), h 1 (by decide)⟩, fun z => absurd z (by decide), fun z => absurd z (by decide), fun z => absurd z (by decide)⟩
  · subst e
    exact ⟨fun z => by rcases z with z | z <;> exact absurd z (by decide), fun _ => ⟨h 0 (by decide), h 1 (by decide), h 2 (by decide), h 3 (by decide)⟩, fun z => absurd z (by decide), fun z => absurd z (by decide)⟩
  · subst e
    exact ⟨fun z => by rcases z with z | z <;> exact absurd z (by decide), fun z => absurd z (by decide), fun _ => ⟨h 0 (by decide), h 1 (by decide), h 2 (by decide), h 3 (by decide), h 4 (by decide), h 5 (by decide)⟩, fun z => absurd z (by decide)⟩
  · rw [e] at hk; exact absurd hk.2 (by decide)
set_option maxHeartbeats 1000000 in
set_option maxRecDepth 100000 in
theorem mX6_shiftNumbers {g : gX} {V : vM} {k sm ng : Int32} {c v d cm : Nat} {x y sx sy : Int32} {X O : Nat → Int32} (hR : RCs V ((k, sm, ng), (c, v, d, cm), (x, y, sx, sy), X, O)) (hc : c = rNd k) : MM g jX6_shiftNumbers V [.ref (g.2.1 37)] (eV (fun U => (∀ j, j < rNd k → U 41 j = rSh (rNd k) x y X j) ∧ ∀ a q, a ≠ 41 → U a q = V a q)) := by
  refine MM.of plX6_shiftNumbers (Nat.le_of_ble_eq_true rfl) ?_
  obtain ⟨Q, hQ⟩ : ∃ Q : Option Value → vM → Prop, Q = (eV (fun U => (∀ j, j < rNd k → U 41 j = rSh (rNd k) x y X j) ∧ ∀ a q, a ≠ 41 → U a q = V a q)) := ⟨_, rfl⟩
  rw [← hQ]
  show XX g jX6_shiftNumbers Q V 0 [(0, .ref (g.2.1 37))] []
  obtain ⟨r1, r2, r3, r4, r5, r6, r7, r8, r9, r10, r11, r12, r13⟩ := id hR
  have hnd := rNd_b k
  refine x_iconst (v := 0) dX6_shiftNumbers_0 (by decide) ?_
  refine x_istore_n 1 [(1, .int 0), (0, .ref (g.2.1 37))] dX6_shiftNumbers_1 rfl (by decide) rfl ?_
  have lp1 : ∀ (fu : Nat) (i : Nat) (U : vM), (i ≤ rNd k) → (∀ j, j < rNd k → U 41 j = if j < i then rSh (rNd k) x y X j else X j) → (∀ a q, a ≠ 41 → U a q = V a q) → (rNd k - i) < fu → XX g jX6_shiftNumbers Q U 2 [(1, .int (nI i)), (0, .ref (g.2.1 37))] [] := by
    intro fu
    induction fu with
    | zero => intro _ _ _ _ _ hmz; exact absurd hmz (Nat.not_lt_zero _)
    | succ fu ih =>
      intro i U hi hX hfU hmz
      refine x_iload_n dX6_shiftNumbers_2 0 rfl ?_
      refine x_aload_n dX6_shiftNumbers_3 1 rfl ?_
      refine x_getI fl_X6_26 rfl rfl dX6_shiftNumbers_4 ?_
      refine x_topi ((hfU 37 3 (by decide)).trans r3) ?_
      refine x_icmp_ge 48 dX6_shiftNumbers_7 (by decide) (fun c2 => ?_) (fun c2 => ?_)
      · have c2n : rNd k ≤ i := (nl_le (a := rNd k) (b := i) (rfl) (rfl) (by omega) (by omega)).mp c2
        refine x_vret dX6_shiftNumbers_48 rfl ?_
        rw [hQ]
        exact ⟨rfl, fun j hj => by rw [hX j hj, if_pos (by omega)], hfU⟩
      · have c2n : i < rNd k := Nat.not_le.mp (fun q => c2 ((nl_le (a := rNd k) (b := i) (rfl) (rfl) (by omega) (by omega)).mpr q))
        refine x_iload_n dX6_shiftNumbers_10 0 rfl ?_
        refine x_bipush (v := 6) dX6_shiftNumbers_11 (by decide) ?_
        refine x_icmp_ge 48 dX6_shiftNumbers_13 (by decide) (fun c3 => by exfalso; exact absurd ((nl_le (a := 6) (b := i) rfl rfl (by omega) (by omega)).mp c3) (by omega)) (fun c3 => ?_)
        refine x_aload_n dX6_shiftNumbers_16 1 rfl ?_
        refine x_getR fl_X6_9 rfl rfl dX6_shiftNumbers_17 ?_
        refine x_iload_n dX6_shiftNumbers_20 0 rfl ?_
        refine x_dup2 dX6_shiftNumbers_21 rfl rfl ?_
        have b4 : vp_in (nI i) 6 := by exact vp_in_nI (by omega) (by decide)
        refine x_iald rfl b4 dX6_shiftNumbers_22 ?_
        refine x_topi (y := U 41 i) (by rw [nI_clamp (by omega)]) ?_
        refine x_topi ((hX i (by omega)).trans (if_neg (by omega))) ?_
        refine x_iload_n dX6_shiftNumbers_23 0 rfl ?_
        refine x_iconst (v := 2) dX6_shiftNumbers_24 (by decide) ?_
        have nz5 : ¬ (2 : Int32) = 0 := by decide
        refine x_irem dX6_shiftNumbers_25 nz5 ?_
        refine x_topi (y := nI (i % 2)) (nI_mod (b := 2) (by omega) (by omega) (by omega)) ?_
        refine x_if_ne 36 dX6_shiftNumbers_26 (by decide) (fun c6 => ?_) (fun c6 => ?_)
        · have c6n : ¬ i % 2 = 0 := fun q => c6 ((nl_eq (a := i % 2) (b := 0) (rfl) (rfl) (by omega) (by omega)).mpr q)
          refine x_aload_n dX6_shiftNumbers_36 1 rfl ?_
          refine x_getI fl_X6_35 rfl rfl dX6_shiftNumbers_37 ?_
          refine x_topi ((hfU 37 9 (by decide)).trans r9) ?_
          refine x_iadd dX6_shiftNumbers_40 ?_
          have b7 : vp_in (nI i) 6 := by exact vp_in_nI (by omega) (by decide)
          refine x_iast rfl b7 dX6_shiftNumbers_41 ?_
          refine YY.V (V' := uM U 41 i ((X i) + y)) (by rw [nI_clamp (by omega)]) ?_
          obtain ⟨U8, eU8⟩ : ∃ v_v : vM, v_v = uM U 41 i ((X i) + y) := ⟨_, rfl⟩
          refine YY.V eU8.symm ?_
          refine x_iinc 1 (v := (nI i) + 1) 0 [(1, .int ((nI i) + 1)), (0, .ref (g.2.1 37))] dX6_shiftNumbers_42 rfl (by rfl) (by decide) rfl ?_
          refine x_goto 2 dX6_shiftNumbers_45 (by decide) ?_
          refine YY.L (lv' := [(1, .int (nI (i + 1))), (0, .ref (g.2.1 37))]) (by rw [nI_1] <;> rfl) ?_
          exact ih (i + 1) U8 (by omega) (by intro j hj; rw [eU8]; by_cases z : j = i; (rw [z, uM_hit, if_pos (by omega)]; unfold rSh; rw [if_pos (by omega)]; first | rw [if_pos (by omega)] | rw [if_neg (by omega)]); (rw [uM_ni z, hX j hj]; by_cases q : j < i; (rw [if_pos q, if_pos (by omega)]); (rw [if_neg q, if_neg (by omega)]))) (by intro a q p; rw [eU8, uM_na p]; exact hfU a q p) (by omega)
        · have c6n : i % 2 = 0 := (nl_eq (a := i % 2) (b := 0) (rfl) (rfl) (by omega) (by omega)).mp c6
          refine x_aload_n dX6_shiftNumbers_29 1 rfl ?_
          refine x_getI fl_X6_32 rfl rfl dX6_shiftNumbers_30 ?_
          refine x_topi ((hfU 37 8 (by decide)).trans r8) ?_
          refine x_goto 40 dX6_shiftNumbers_33 (by decide) ?_
          refine x_iadd dX6_shiftNumbers_40 ?_
          have b9 : vp_in (nI i) 6 := by exact vp_in_nI (by omega) (by decide)
          refine x_iast rfl b9 dX6_shiftNumbers_41 ?_
          refine YY.V (V' := uM U 41 i ((X i) + x)) (by rw [nI_clamp (by omega)]) ?_
          obtain ⟨U10, eU10⟩ : ∃ v_v : vM, v_v = uM U 41 i ((X i) + x) := ⟨_, rfl⟩
          refine YY.V eU10.symm ?_
          refine x_iinc 1 (v := (nI i) + 1) 0 [(1, .int ((nI i) + 1)), (0, .ref (g.2.1 37))] dX6_shiftNumbers_42 rfl (by rfl) (by decide) rfl ?_
          refine x_goto 2 dX6_shiftNumbers_45 (by decide) ?_
          refine YY.L (lv' := [(1, .int (nI (i + 1))), (0, .ref (g.2.1 37))]) (by rw [nI_1] <;> rfl) ?_
          exact ih (i + 1) U10 (by omega) (by intro j hj; rw [eU10]; by_cases z : j = i; (rw [z, uM_hit, if_pos (by omega)]; unfold rSh; rw [if_pos (by omega)]; first | rw [if_pos (by omega)] | rw [if_neg (by omega)]); (rw [uM_ni z, hX j hj]; by_cases q : j < i; (rw [if_pos q, if_pos (by omega)]); (rw [if_neg q, if_neg (by omega)]))) (by intro a q p; rw [eU10, uM_na p]; exact hfU a q p) (by omega)
  refine YY.L (lv' := [(1, .int (nI 0)), (0, .ref (g.2.1 37))]) (by rfl) ?_
  exact lp1 _ 0 V (by omega) (by intro j hj; rw [if_neg (by omega)]; exact r13 j (by omega)) (by exact fun _ _ _ => rfl) (Nat.lt_succ_self _)
set_option maxHeartbeats 2000000 in
set_option maxRecDepth 100000 in
theorem mX6_finishCommand {g : gX} {V : vM} {k sm ng : Int32} {c v d cm : Nat} {x y sx sy : Int32} {X O : Nat → Int32} {i : Nat} (hI : RI i ((k, sm, ng), (c, v, d, cm), (x, y, sx, sy), X, O)) (hi : i ≤ 120) (hR : RC V ((k, sm, ng), (c, v, d, cm), (x, y, sx, sy), X, O)) (hw : k = -1 ∨ k = 4 ∨ c + 1 = rNd k) : MM g jX6_finishCommand V [.ref (g.2.1 37), .ref (g.2.1 2)] (eV (fun U => RC U (rFC ((k, sm, ng), (c, v, d, cm), (x, y, sx, sy), X, O)) ∧ frR V U)) := by
  refine MM.of plX6_finishCommand (Nat.le_of_ble_eq_true rfl) ?_
  obtain ⟨Q, hQ⟩ : ∃ Q : Option Value → vM → Prop, Q = (eV (fun U => RC U (rFC ((k, sm, ng), (c, v, d, cm), (x, y, sx, sy), X, O)) ∧ frR V U)) := ⟨_, rfl⟩
  rw [← hQ]
  show XX g jX6_finishCommand Q V 0 [(0, .ref (g.2.1 37)), (1, .ref (g.2.1 2))] []
  obtain ⟨a1, a2, a3, a4, a5, a6, a7, a8, a9, a10, a11, a12⟩ := id hI
  obtain ⟨r1, r2, r3, r4, r5, r6, r7, r8, r9, r10, r11, r12, r13⟩ := id hR.1
  have r14 := hR.2
  have hnd := rNd_b k
  have hc6 := RIc hI
  refine x_aload_n dX6_finishCommand_0 0 rfl ?_
  refine x_getI fl_X6_18 rfl rfl dX6_finishCommand_1 ?_
  refine x_topi (r1) ?_
  refine x_iconst (v := -1) dX6_finishCommand_4 (by decide) ?_
  refine x_icmp_ne 9 dX6_finishCommand_5 (by decide) (fun c1 => ?_) (fun c1 => ?_)
  · refine x_aload_n dX6_finishCommand_9 0 rfl ?_
    refine x_dup dX6_finishCommand_10 rfl ?_
    refine x_getI fl_X6_44 rfl rfl dX6_finishCommand_11 ?_
    refine x_topi (r12) ?_
    refine x_iconst (v := 1) dX6_finishCommand_14 (by decide) ?_
    refine x_iadd dX6_finishCommand_15 ?_
    refine x_putI fp_X6_44 rfl rfl dX6_finishCommand_16 ?_
    obtain ⟨U2, eU2⟩ : ∃ v_v : vM, v_v = uM V 37 12 ((nI cm) + 1) := ⟨_, rfl⟩
    refine YY.V eU2.symm ?_
    refine x_aload_n dX6_finishCommand_19 0 rfl ?_
    refine x_getI fl_X6_18 rfl rfl dX6_finishCommand_20 ?_
    refine x_topi (y := V 37 1) (by rw [eU2, uM_ni (by decide)]) ?_
    refine x_topi (r1) ?_
    refine x_iconst (v := 4) dX6_finishCommand_23 (by decide) ?_
    refine x_icmp_ne 61 dX6_finishCommand_24 (by decide) (fun c3 => ?_) (fun c3 => ?_)
    · have hk2 : 2 ≤ rNd k := by have := ptn_b k; rw [rNd_k (k3 (a1.resolve_left (by assumption)) (by assumption))]; omega
      have hw1 : c + 1 = rNd k := (hw.resolve_left (by assumption)).resolve_left (by assumption)
      refine x_aload_n dX6_finishCommand_61 0 rfl ?_
      have hR1 : RCs U2 ((k, sm, ng), (c, v, d, cm + 1), (x, y, sx, sy), X, O) := ⟨by rw [eU2, uM_ni (by decide)]; exact r1, by rw [eU2, uM_ni (by decide)]; exact r2, by rw [eU2, uM_ni (by decide)]; exact r3, by rw [eU2, uM_ni (by decide)]; exact r4, by rw [eU2, uM_ni (by decide)]; exact r5, by rw [eU2, uM_ni (by decide)]; exact r6, by rw [eU2, uM_ni (by decide)]; exact r7, by rw [eU2, uM_ni (by decide)]; exact r8, by rw [eU2, uM_ni (by decide)]; exact r9, by rw [eU2, uM_ni (by decide)]; exact r10, by rw [eU2, uM_ni (by decide)]; exact r11, by rw [eU2, uM_hit, nI_1], fun j hj => by rw [eU2, uM_na (by decide)]; exact r13 j hj⟩
      refine x_callV (K := jX6_finishNumber) [] lk_X6_74 ⟨⟨rfl, rfl⟩, Nat.le_of_ble_eq_true rfl, Nat.le_of_ble_eq_true rfl⟩ rfl rfl (mX6_finishNumber hR1 (by omega)) rfl (Nat.le_of_ble_eq_true rfl) rfl dX6_finishCommand_62 (keV fun U4 hU5 => ?_)
      obtain ⟨⟨q1, q2, q3, q4, q5, q6, q7, q8, q9, q10, q11, q12, q13⟩, qf⟩ := id hU5
      refine x_aload_n dX6_finishCommand_65 0 rfl ?_
      refine x_getI fl_X6_22 rfl rfl dX6_finishCommand_66 ?_
      refine x_topi (q2) ?_
      refine x_if_eq 76 dX6_finishCommand_69 (by decide) (fun c6 => ?_) (fun c6 => ?_)
      · have w1 := q1
        have w3 := q3
        have w8 := q8
        have w9 := q9
        have w10 := q10
        have w11 := q11
        have w12 := q12
        have w4 := q4
        have w5 := q5
        have w6 := q6
        have w7 := q7
        have w2 := q2
        have hX2 : ∀ j, j < rNd k → U4 41 j = rX2 k sm ng c v x y X j := fun j hj => by unfold rX2; rw [if_pos (by assumption)]; exact q13 j (by omega)
        have hfo : ∀ a j, a ≠ 37 → a ≠ 41 → U4 a j = V a j := fun a j p4 p5 => by rw [qf a j p4 p5, eU2, uM_na p4]
        refine x_aload_n dX6_finishCommand_76 0 rfl ?_
        refine x_aload_n dX6_finishCommand_77 0 rfl ?_
        refine x_getI fl_X6_26 rfl rfl dX6_finishCommand_78 ?_
        refine x_topi (w3) ?_
        refine x_iconst (v := 2) dX6_finishCommand_81 (by decide) ?_
        refine x_icmp_lt 108 dX6_finishCommand_82 (by decide) (fun c7 => by exfalso; exact absurd ((nl_lt (a := rNd k) (b := 2) rfl rfl (by omega) (by omega)).mp c7) (by omega)) (fun c7 => ?_)
        refine x_aload_n dX6_finishCommand_85 0 rfl ?_
        refine x_getI fl_X6_26 rfl rfl dX6_finishCommand_86 ?_
        refine x_topi (w3) ?_
        refine x_bipush (v := 6) dX6_finishCommand_89 (by decide) ?_
        refine x_icmp_gt 108 dX6_finishCommand_91 (by decide) (fun c8 => by exfalso; exact absurd ((nl_lt (a := 6) (b := rNd k) rfl rfl (by omega) (by omega)).mp c8) (by omega)) (fun c8 => ?_)
        refine x_aload_n dX6_finishCommand_94 0 rfl ?_
        refine x_getR fl_X6_9 rfl rfl dX6_finishCommand_95 ?_
        refine x_aload_n dX6_finishCommand_98 0 rfl ?_
        refine x_getI fl_X6_26 rfl rfl dX6_finishCommand_99 ?_
        refine x_topi (w3) ?_
        refine x_iconst (v := 2) dX6_finishCommand_102 (by decide) ?_
        refine x_isub dX6_finishCommand_103 ?_
        have q9 : ((nI (rNd k)) - 2 : Int32) = nI ((rNd k) - 2) := nsub (by omega) (rfl) (rfl)
        refine YY.S (st' := [.int (nI ((rNd k) - 2)), .ref (g.2.1 41), .ref (g.2.1 37)]) (by rw [q9]) ?_
        have b10 : vp_in (nI ((rNd k) - 2)) 6 := by exact vp_in_nI (by omega) (by decide)
        refine x_iald rfl b10 dX6_finishCommand_104 ?_
        refine x_topi (y := U4 41 ((rNd k) - 2)) (by rw [nI_clamp (by omega)]) ?_
        refine x_topi (hX2 _ (by omega)) ?_
        refine x_goto 109 dX6_finishCommand_105 (by decide) ?_
        refine x_putI fp_X6_32 rfl rfl dX6_finishCommand_109 ?_
        obtain ⟨U11, eU11⟩ : ∃ v_v : vM, v_v = uM U4 37 8 (rX2 k sm ng c v x y X (rNd k - 2)) := ⟨_, rfl⟩
        refine YY.V eU11.symm ?_
        refine x_aload_n dX6_finishCommand_112 0 rfl ?_
        refine x_aload_n dX6_finishCommand_113 0 rfl ?_
        refine x_getI fl_X6_26 rfl rfl dX6_finishCommand_114 ?_
        refine x_topi (y := U4 37 3) (by rw [eU11, uM_ni (by decide)]) ?_
        refine x_topi (w3) ?_
        refine x_iconst (v := 2) dX6_finishCommand_117 (by decide) ?_
        refine x_icmp_lt 144 dX6_finishCommand_118 (by decide) (fun c12 => by exfalso; exact absurd ((nl_lt (a := rNd k) (b := 2) rfl rfl (by omega) (by omega)).mp c12) (by omega)) (fun c12 => ?_)
        refine x_aload_n dX6_finishCommand_121 0 rfl ?_
        refine x_getI fl_X6_26 rfl rfl dX6_finishCommand_122 ?_
        refine x_topi (y := U4 37 3) (by rw [eU11, uM_ni (by decide)]) ?_
        refine x_topi (w3) ?_
        refine x_bipush (v := 6) dX6_finishCommand_125 (by decide) ?_
        refine x_icmp_gt 144 dX6_finishCommand_127 (by decide) (fun c13 => by exfalso; exact absurd ((nl_lt (a := 6) (b := rNd k) rfl rfl (by omega) (by omega)).mp c13) (by omega)) (fun c13 => ?_)
        refine x_aload_n dX6_finishCommand_130 0 rfl ?_
        refine x_getR fl_X6_9 rfl rfl dX6_finishCommand_131 ?_
        refine x_aload_n dX6_finishCommand_134 0 rfl ?_
        refine x_getI fl_X6_26 rfl rfl dX6_finishCommand_135 ?_
        refine x_topi (y := U4 37 3) (by rw [eU11, uM_ni (by decide)]) ?_
        refine x_topi (w3) ?_
        refine x_iconst (v := 1) dX6_finishCommand_138 (by decide) ?_
        refine x_isub dX6_finishCommand_139 ?_
        have q14 : ((nI (rNd k)) - 1 : Int32) = nI ((rNd k) - 1) := nsub (by omega) (rfl) (rfl)
        refine YY.S (st' := [.int (nI ((rNd k) - 1)), .ref (g.2.1 41), .ref (g.2.1 37)]) (by rw [q14]) ?_
        have b15 : vp_in (nI ((rNd k) - 1)) 6 := by exact vp_in_nI (by omega) (by decide)
        refine x_iald rfl b15 dX6_finishCommand_140 ?_
        refine x_topi (y := U11 41 ((rNd k) - 1)) (by rw [nI_clamp (by omega)]) ?_
        refine x_topi (y := U4 41 ((rNd k) - 1)) (by rw [eU11, uM_na (by decide)]) ?_
        refine x_topi (hX2 _ (by omega)) ?_
        refine x_goto 145 dX6_finishCommand_141 (by decide) ?_
        refine x_putI fp_X6_35 rfl rfl dX6_finishCommand_145 ?_
        obtain ⟨U16, eU16⟩ : ∃ v_v : vM, v_v = uM U11 37 9 (rX2 k sm ng c v x y X (rNd k - 1)) := ⟨_, rfl⟩
        refine YY.V eU16.symm ?_
        refine x_aload_n dX6_finishCommand_148 0 rfl ?_
        refine x_getI fl_X6_18 rfl rfl dX6_finishCommand_149 ?_
        refine x_topi (y := U4 37 1) (by rw [eU16, uM_ni (by decide), eU11, uM_ni (by decide)]) ?_
        refine x_topi (w1) ?_
        refine x_if_ne 171 dX6_finishCommand_152 (by decide) (fun c17 => ?_) (fun c17 => ?_)
        · refine x_aload_n dX6_finishCommand_171 1 rfl ?_
          refine x_aload_n dX6_finishCommand_172 0 rfl ?_
          refine x_getI fl_X6_18 rfl rfl dX6_finishCommand_173 ?_
          refine x_topi (y := U4 37 1) (by rw [eU16, uM_ni (by decide), eU11, uM_ni (by decide)]) ?_
          refine x_topi (w1) ?_
          refine x_aload_n dX6_finishCommand_176 0 rfl ?_
          refine x_getR fl_X6_9 rfl rfl dX6_finishCommand_177 ?_
          refine x_iconst (v := 0) dX6_finishCommand_180 (by decide) ?_
          have q18 : (0 : Int32) = nI 0 := rfl
          refine YY.S (st' := [.int (nI 0), .ref (g.2.1 41), .int k, .ref (g.2.1 2)]) (by rw [q18]) ?_
          have b19 : vp_in (nI 0) 6 := by exact vp_in_nI (by omega) (by decide)
          refine x_iald rfl b19 dX6_finishCommand_181 ?_
          refine x_topi (y := U16 41 0) (by rw [nI_clamp (by omega)]) ?_
          refine x_topi (y := U4 41 0) (by rw [eU16, uM_na (by decide), eU11, uM_na (by decide)]) ?_
          refine x_aload_n dX6_finishCommand_182 0 rfl ?_
          refine x_getR fl_X6_9 rfl rfl dX6_finishCommand_183 ?_
          refine x_iconst (v := 1) dX6_finishCommand_186 (by decide) ?_
          have q20 : (1 : Int32) = nI 1 := rfl
          refine YY.S (st' := [.int (nI 1), .ref (g.2.1 41), .int (U4 41 0), .int k, .ref (g.2.1 2)]) (by rw [q20]) ?_
          have b21 : vp_in (nI 1) 6 := by exact vp_in_nI (by omega) (by decide)
          refine x_iald rfl b21 dX6_finishCommand_187 ?_
          refine x_topi (y := U16 41 1) (by rw [nI_clamp (by omega)]) ?_
          refine x_topi (y := U4 41 1) (by rw [eU16, uM_na (by decide), eU11, uM_na (by decide)]) ?_
          refine x_aload_n dX6_finishCommand_188 0 rfl ?_
          refine x_getR fl_X6_9 rfl rfl dX6_finishCommand_189 ?_
          refine x_iconst (v := 2) dX6_finishCommand_192 (by decide) ?_
          have q22 : (2 : Int32) = nI 2 := rfl
          refine YY.S (st' := [.int (nI 2), .ref (g.2.1 41), .int (U4 41 1), .int (U4 41 0), .int k, .ref (g.2.1 2)]) (by rw [q22]) ?_
          have b23 : vp_in (nI 2) 6 := by exact vp_in_nI (by omega) (by decide)
          refine x_iald rfl b23 dX6_finishCommand_193 ?_
          refine x_topi (y := U16 41 2) (by rw [nI_clamp (by omega)]) ?_
          refine x_topi (y := U4 41 2) (by rw [eU16, uM_na (by decide), eU11, uM_na (by decide)]) ?_
          refine x_aload_n dX6_finishCommand_194 0 rfl ?_
          refine x_getR fl_X6_9 rfl rfl dX6_finishCommand_195 ?_
          refine x_iconst (v := 3) dX6_finishCommand_198 (by decide) ?_
          have q24 : (3 : Int32) = nI 3 := rfl
          refine YY.S (st' := [.int (nI 3), .ref (g.2.1 41), .int (U4 41 2), .int (U4 41 1), .int (U4 41 0), .int k, .ref (g.2.1 2)]) (by rw [q24]) ?_
          have b25 : vp_in (nI 3) 6 := by exact vp_in_nI (by omega) (by decide)
          refine x_iald rfl b25 dX6_finishCommand_199 ?_
          refine x_topi (y := U16 41 3) (by rw [nI_clamp (by omega)]) ?_
          refine x_topi (y := U4 41 3) (by rw [eU16, uM_na (by decide), eU11, uM_na (by decide)]) ?_
          refine x_aload_n dX6_finishCommand_200 0 rfl ?_
          refine x_getR fl_X6_9 rfl rfl dX6_finishCommand_201 ?_
          refine x_iconst (v := 4) dX6_finishCommand_204 (by decide) ?_
          have q26 : (4 : Int32) = nI 4 := rfl
          refine YY.S (st' := [.int (nI 4), .ref (g.2.1 41), .int (U4 41 3), .int (U4 41 2), .int (U4 41 1), .int (U4 41 0), .int k, .ref (g.2.1 2)]) (by rw [q26]) ?_
          have b27 : vp_in (nI 4) 6 := by exact vp_in_nI (by omega) (by decide)
          refine x_iald rfl b27 dX6_finishCommand_205 ?_
          refine x_topi (y := U16 41 4) (by rw [nI_clamp (by omega)]) ?_
          refine x_topi (y := U4 41 4) (by rw [eU16, uM_na (by decide), eU11, uM_na (by decide)]) ?_
          refine x_aload_n dX6_finishCommand_206 0 rfl ?_
          refine x_getR fl_X6_9 rfl rfl dX6_finishCommand_207 ?_
          refine x_iconst (v := 5) dX6_finishCommand_210 (by decide) ?_
          have q28 : (5 : Int32) = nI 5 := rfl
          refine YY.S (st' := [.int (nI 5), .ref (g.2.1 41), .int (U4 41 4), .int (U4 41 3), .int (U4 41 2), .int (U4 41 1), .int (U4 41 0), .int k, .ref (g.2.1 2)]) (by rw [q28]) ?_
          have b29 : vp_in (nI 5) 6 := by exact vp_in_nI (by omega) (by decide)
          refine x_iald rfl b29 dX6_finishCommand_211 ?_
          refine x_topi (y := U16 41 5) (by rw [nI_clamp (by omega)]) ?_
          refine x_topi (y := U4 41 5) (by rw [eU16, uM_na (by decide), eU11, uM_na (by decide)]) ?_
          have hPA : PPr U16 2 14 15 (min cm 24) O := r14.ag (fun b j q => by rw [eU16, uM_na (by omega), eU11, uM_na (by omega)]; exact hfo b j (by omega) (by omega))
          have hk03 : 0 ≤ k ∧ k ≤ 3 := k3 (a1.resolve_left (by assumption)) (by assumption)
          refine x_callV (K := jX5_add) [.int k, .int (U4 41 0), .int (U4 41 1), .int (U4 41 2), .int (U4 41 3), .int (U4 41 4), .int (U4 41 5)] lk_X6_100 ⟨⟨rfl, rfl⟩, Nat.le_of_ble_eq_true rfl, Nat.le_of_ble_eq_true rfl⟩ rfl rfl (mX5_add U16 isP2 (min cm 24) (by omega) hPA.1 k (U4 41 0) (U4 41 1) (U4 41 2) (U4 41 3) (U4 41 4) (U4 41 5)) rfl (Nat.le_of_ble_eq_true rfl) rfl dX6_finishCommand_212 (kdV ?_)
          obtain ⟨U30, eU30⟩ : ∃ v_v : vM, v_v = ad U16 2 14 15 (min cm 24) k (U4 41 0) (U4 41 1) (U4 41 2) (U4 41 3) (U4 41 4) (U4 41 5) := ⟨_, rfl⟩
          refine YY.V eU30.symm ?_
          have hPB := hPA.rd (k := k) (X := rX2 k sm ng c v x y X) (rd_nx (N := fun j => U4 41 j) hk03 hX2)
          rw [← eU30] at hPB
          refine x_vret dX6_finishCommand_215 rfl ?_
          rw [hQ]
          have hfc : rFC ((k, sm, ng), (c, v, d, cm), (x, y, sx, sy), X, O) = ((k, sm, 0), (c + 1, 0, 0, cm + 1), (rX2 k sm ng c v x y X (rNd k - 2), rX2 k sm ng c v x y X (rNd k - 1), if k = 0 then rX2 k sm ng c v x y X (rNd k - 2) else sx, if k = 0 then rX2 k sm ng c v x y X (rNd k - 1) else sy), rX2 k sm ng c v x y X, rOut O cm (rRow k (rX2 k sm ng c v x y X))) := by unfold rFC; dsimp only; rw [if_neg (by assumption), if_neg (by assumption)]
          rw [hfc]
          have ad37 : ∀ j, U30 37 j = U16 37 j := fun j => by rw [eU30, ad_at (by decide) (by decide) (by decide)]
          refine ⟨rfl, ⟨⟨?_, ?_, ?_, ?_, ?_, ?_, ?_, ?_, ?_, ?_, ?_, ?_, fun j hj => ?_⟩, hPB⟩, ?_⟩
          · rw [ad37]; simp [eU16, eU11, uM_at, w1]
          · rw [ad37]; simp [eU16, eU11, uM_at, w2]
          · rw [ad37]; simp [eU16, eU11, uM_at, w3]
          · rw [ad37]; simp [eU16, eU11, uM_at, w4]
          · rw [ad37]; simp [eU16, eU11, uM_at, w5]
          · rw [ad37]; simp [eU16, eU11, uM_at, w6]
          · rw [ad37]; simp [eU16, eU11, uM_at, w7]
          · rw [ad37]; simp [eU16, eU11, uM_at]
          · rw [ad37]; simp [eU16, eU11, uM_at]
          · rw [ad37, if_neg (show ¬ k = 0 by assumption)]; simp [eU16, eU11, uM_at, w10]
          · rw [ad37, if_neg (show ¬ k = 0 by assumption)]; simp [eU16, eU11, uM_at, w11]
          · rw [ad37]; simp [eU16, eU11, uM_at, w12]
          · rw [eU30, ad_at (by decide) (by decide) (by decide), eU16, uM_na (by decide), eU11, uM_na (by decide)]; exact hX2 j (by omega)
          · exact fun a j p1 p2 p3 p4 p5 => by rw [eU30, ad_at p1 p2 p3, eU16, uM_na p4, eU11, uM_na p4]; exact hfo a j p4 p5
        · refine x_aload_n dX6_finishCommand_155 0 rfl ?_
          refine x_aload_n dX6_finishCommand_156 0 rfl ?_
          refine x_getI fl_X6_32 rfl rfl dX6_finishCommand_157 ?_
          refine x_topi (y := rX2 k sm ng c v x y X (rNd k - 2)) (by rw [eU16, uM_ni (by decide), eU11, uM_hit]) ?_
          refine x_putI fp_X6_38 rfl rfl dX6_finishCommand_160 ?_
          obtain ⟨U31, eU31⟩ : ∃ v_v : vM, v_v = uM U16 37 10 (rX2 k sm ng c v x y X (rNd k - 2)) := ⟨_, rfl⟩
          refine YY.V eU31.symm ?_
          refine x_aload_n dX6_finishCommand_163 0 rfl ?_
          refine x_aload_n dX6_finishCommand_164 0 rfl ?_
          refine x_getI fl_X6_35 rfl rfl dX6_finishCommand_165 ?_
          refine x_topi (y := rX2 k sm ng c v x y X (rNd k - 1)) (by rw [eU31, uM_ni (by decide), eU16, uM_hit]) ?_
          refine x_putI fp_X6_41 rfl rfl dX6_finishCommand_168 ?_
          obtain ⟨U32, eU32⟩ : ∃ v_v : vM, v_v = uM U31 37 11 (rX2 k sm ng c v x y X (rNd k - 1)) := ⟨_, rfl⟩
          refine YY.V eU32.symm ?_
          refine x_aload_n dX6_finishCommand_171 1 rfl ?_
          refine x_aload_n dX6_finishCommand_172 0 rfl ?_
          refine x_getI fl_X6_18 rfl rfl dX6_finishCommand_173 ?_
          refine x_topi (y := U4 37 1) (by rw [eU32, uM_ni (by decide), eU31, uM_ni (by decide), eU16, uM_ni (by decide), eU11, uM_ni (by decide)]) ?_
          refine x_topi (w1) ?_
          refine x_aload_n dX6_finishCommand_176 0 rfl ?_
          refine x_getR fl_X6_9 rfl rfl dX6_finishCommand_177 ?_
          refine x_iconst (v := 0) dX6_finishCommand_180 (by decide) ?_
          have q33 : (0 : Int32) = nI 0 := rfl
          refine YY.S (st' := [.int (nI 0), .ref (g.2.1 41), .int k, .ref (g.2.1 2)]) (by rw [q33]) ?_
          have b34 : vp_in (nI 0) 6 := by exact vp_in_nI (by omega) (by decide)
          refine x_iald rfl b34 dX6_finishCommand_181 ?_
          refine x_topi (y := U32 41 0) (by rw [nI_clamp (by omega)]) ?_
          refine x_topi (y := U4 41 0) (by rw [eU32, uM_na (by decide), eU31, uM_na (by decide), eU16, uM_na (by decide), eU11, uM_na (by decide)]) ?_
          refine x_aload_n dX6_finishCommand_182 0 rfl ?_
          refine x_getR fl_X6_9 rfl rfl dX6_finishCommand_183 ?_
          refine x_iconst (v := 1) dX6_finishCommand_186 (by decide) ?_
          have q35 : (1 : Int32) = nI 1 := rfl
          refine YY.S (st' := [.int (nI 1), .ref (g.2.1 41), .int (U4 41 0), .int k, .ref (g.2.1 2)]) (by rw [q35]) ?_
          have b36 : vp_in (nI 1) 6 := by exact vp_in_nI (by omega) (by decide)
          refine x_iald rfl b36 dX6_finishCommand_187 ?_
          refine x_topi (y := U32 41 1) (by rw [nI_clamp (by omega)]) ?_
          refine x_topi (y := U4 41 1) (by rw [eU32, uM_na (by decide), eU31, uM_na (by decide), eU16, uM_na (by decide), eU11, uM_na (by decide)]) ?_
          refine x_aload_n dX6_finishCommand_188 0 rfl ?_
          refine x_getR fl_X6_9 rfl rfl dX6_finishCommand_189 ?_
          refine x_iconst (v := 2) dX6_finishCommand_192 (by decide) ?_
          have q37 : (2 : Int32) = nI 2 := rfl
          refine YY.S (st' := [.int (nI 2), .ref (g.2.1 41), .int (U4 41 1), .int (U4 41 0), .int k, .ref (g.2.1 2)]) (by rw [q37]) ?_
          have b38 : vp_in (nI 2) 6 := by exact vp_in_nI (by omega) (by decide)
          refine x_iald rfl b38 dX6_finishCommand_193 ?_
          refine x_topi (y := U32 41 2) (by rw [nI_clamp (by omega)]) ?_
          refine x_topi (y := U4 41 2) (by rw [eU32, uM_na (by decide), eU31, uM_na (by decide), eU16, uM_na (by decide), eU11, uM_na (by decide)]) ?_
          refine x_aload_n dX6_finishCommand_194 0 rfl ?_
          refine x_getR fl_X6_9 rfl rfl dX6_finishCommand_195 ?_
          refine x_iconst (v := 3) dX6_finishCommand_198 (by decide) ?_
          have q39 : (3 : Int32) = nI 3 := rfl
          refine YY.S (st' := [.int (nI 3), .ref (g.2.1 41), .int (U4 41 2), .int (U4 41 1), .int (U4 41 0), .int k, .ref (g.2.1 2)]) (by rw [q39]) ?_
          have b40 : vp_in (nI 3) 6 := by exact vp_in_nI (by omega) (by decide)
          refine x_iald rfl b40 dX6_finishCommand_199 ?_
          refine x_topi (y := U32 41 3) (by rw [nI_clamp (by omega)]) ?_
          refine x_topi (y := U4 41 3) (by rw [eU32, uM_na (by decide), eU31, uM_na (by decide), eU16, uM_na (by decide), eU11, uM_na (by decide)]) ?_
          refine x_aload_n dX6_finishCommand_200 0 rfl ?_
          refine x_getR fl_X6_9 rfl rfl dX6_finishCommand_201 ?_
          refine x_iconst (v := 4) dX6_finishCommand_204 (by decide) ?_
          have q41 : (4 : Int32) = nI 4 := rfl
          refine YY.S (st' := [.int (nI 4), .ref (g.2.1 41), .int (U4 41 3), .int (U4 41 2), .int (U4 41 1), .int (U4 41 0), .int k, .ref (g.2.1 2)]) (by rw [q41]) ?_
          have b42 : vp_in (nI 4) 6 := by exact vp_in_nI (by omega) (by decide)
          refine x_iald rfl b42 dX6_finishCommand_205 ?_
          refine x_topi (y := U32 41 4) (by rw [nI_clamp (by omega)]) ?_
          refine x_topi (y := U4 41 4) (by rw [eU32, uM_na (by decide), eU31, uM_na (by decide), eU16, uM_na (by decide), eU11, uM_na (by decide)]) ?_
          refine x_aload_n dX6_finishCommand_206 0 rfl ?_
          refine x_getR fl_X6_9 rfl rfl dX6_finishCommand_207 ?_
          refine x_iconst (v := 5) dX6_finishCommand_210 (by decide) ?_
          have q43 : (5 : Int32) = nI 5 := rfl
          refine YY.S (st' := [.int (nI 5), .ref (g.2.1 41), .int (U4 41 4), .int (U4 41 3), .int (U4 41 2), .int (U4 41 1), .int (U4 41 0), .int k, .ref (g.2.1 2)]) (by rw [q43]) ?_
          have b44 : vp_in (nI 5) 6 := by exact vp_in_nI (by omega) (by decide)
          refine x_iald rfl b44 dX6_finishCommand_211 ?_
          refine x_topi (y := U32 41 5) (by rw [nI_clamp (by omega)]) ?_
          refine x_topi (y := U4 41 5) (by rw [eU32, uM_na (by decide), eU31, uM_na (by decide), eU16, uM_na (by decide), eU11, uM_na (by decide)]) ?_
          have hPA : PPr U32 2 14 15 (min cm 24) O := r14.ag (fun b j q => by rw [eU32, uM_na (by omega), eU31, uM_na (by omega), eU16, uM_na (by omega), eU11, uM_na (by omega)]; exact hfo b j (by omega) (by omega))
          have hk03 : 0 ≤ k ∧ k ≤ 3 := k3 (a1.resolve_left (by assumption)) (by assumption)
          refine x_callV (K := jX5_add) [.int k, .int (U4 41 0), .int (U4 41 1), .int (U4 41 2), .int (U4 41 3), .int (U4 41 4), .int (U4 41 5)] lk_X6_100 ⟨⟨rfl, rfl⟩, Nat.le_of_ble_eq_true rfl, Nat.le_of_ble_eq_true rfl⟩ rfl rfl (mX5_add U32 isP2 (min cm 24) (by omega) hPA.1 k (U4 41 0) (U4 41 1) (U4 41 2) (U4 41 3) (U4 41 4) (U4 41 5)) rfl (Nat.le_of_ble_eq_true rfl) rfl dX6_finishCommand_212 (kdV ?_)
          obtain ⟨U45, eU45⟩ : ∃ v_v : vM, v_v = ad U32 2 14 15 (min cm 24) k (U4 41 0) (U4 41 1) (U4 41 2) (U4 41 3) (U4 41 4) (U4 41 5) := ⟨_, rfl⟩
          refine YY.V eU45.symm ?_
          have hPB := hPA.rd (k := k) (X := rX2 k sm ng c v x y X) (rd_nx (N := fun j => U4 41 j) hk03 hX2)
          rw [← eU45] at hPB
          refine x_vret dX6_finishCommand_215 rfl ?_
          rw [hQ]
          have hfc : rFC ((k, sm, ng), (c, v, d, cm), (x, y, sx, sy), X, O) = ((k, sm, 0), (c + 1, 0, 0, cm + 1), (rX2 k sm ng c v x y X (rNd k - 2), rX2 k sm ng c v x y X (rNd k - 1), if k = 0 then rX2 k sm ng c v x y X (rNd k - 2) else sx, if k = 0 then rX2 k sm ng c v x y X (rNd k - 1) else sy), rX2 k sm ng c v x y X, rOut O cm (rRow k (rX2 k sm ng c v x y X))) := by unfold rFC; dsimp only; rw [if_neg (by assumption), if_neg (by assumption)]
          rw [hfc]
          have ad37 : ∀ j, U45 37 j = U32 37 j := fun j => by rw [eU45, ad_at (by decide) (by decide) (by decide)]
          refine ⟨rfl, ⟨⟨?_, ?_, ?_, ?_, ?_, ?_, ?_, ?_, ?_, ?_, ?_, ?_, fun j hj => ?_⟩, hPB⟩, ?_⟩
          · rw [ad37]; simp [eU32, eU31, eU16, eU11, uM_at, w1]
          · rw [ad37]; simp [eU32, eU31, eU16, eU11, uM_at, w2]
          · rw [ad37]; simp [eU32, eU31, eU16, eU11, uM_at, w3]
          · rw [ad37]; simp [eU32, eU31, eU16, eU11, uM_at, w4]
          · rw [ad37]; simp [eU32, eU31, eU16, eU11, uM_at, w5]
          · rw [ad37]; simp [eU32, eU31, eU16, eU11, uM_at, w6]
          · rw [ad37]; simp [eU32, eU31, eU16, eU11, uM_at, w7]
          · rw [ad37]; simp [eU32, eU31, eU16, eU11, uM_at]
          · rw [ad37]; simp [eU32, eU31, eU16, eU11, uM_at]
          · rw [ad37, if_pos (show k = 0 by assumption)]; simp [eU32, eU31, eU16, eU11, uM_at]
          · rw [ad37, if_pos (show k = 0 by assumption)]; simp [eU32, eU31, eU16, eU11, uM_at]
          · rw [ad37]; simp [eU32, eU31, eU16, eU11, uM_at, w12]
          · rw [eU45, ad_at (by decide) (by decide) (by decide), eU32, uM_na (by decide), eU31, uM_na (by decide), eU16, uM_na (by decide), eU11, uM_na (by decide)]; exact hX2 j (by omega)
          · exact fun a j p1 p2 p3 p4 p5 => by rw [eU45, ad_at p1 p2 p3, eU32, uM_na p4, eU31, uM_na p4, eU16, uM_na p4, eU11, uM_na p4]; exact hfo a j p4 p5
      · refine x_aload_n dX6_finishCommand_72 0 rfl ?_
        refine x_callV (K := jX6_shiftNumbers) [] lk_X6_106 ⟨⟨rfl, rfl⟩, Nat.le_of_ble_eq_true rfl, Nat.le_of_ble_eq_true rfl⟩ rfl rfl (mX6_shiftNumbers hU5.1 (by omega)) rfl (Nat.le_of_ble_eq_true rfl) rfl dX6_finishCommand_73 (keV fun U46 hU47 => ?_)
        obtain ⟨sX, sf⟩ := hU47
        have w1 := (sf 37 1 (by decide)).trans q1
        have w3 := (sf 37 3 (by decide)).trans q3
        have w8 := (sf 37 8 (by decide)).trans q8
        have w9 := (sf 37 9 (by decide)).trans q9
        have w10 := (sf 37 10 (by decide)).trans q10
        have w11 := (sf 37 11 (by decide)).trans q11
        have w12 := (sf 37 12 (by decide)).trans q12
        have w4 := (sf 37 4 (by decide)).trans q4
        have w5 := (sf 37 5 (by decide)).trans q5
        have w6 := (sf 37 6 (by decide)).trans q6
        have w7 := (sf 37 7 (by decide)).trans q7
        have w2 := (sf 37 2 (by decide)).trans q2
        have hX2 : ∀ j, j < rNd k → U46 41 j = rX2 k sm ng c v x y X j := fun j hj => by unfold rX2; rw [if_neg (by assumption)]; exact sX j hj
        have hfo : ∀ a j, a ≠ 37 → a ≠ 41 → U46 a j = V a j := fun a j p4 p5 => by rw [sf a j p5, qf a j p4 p5, eU2, uM_na p4]
        refine x_aload_n dX6_finishCommand_76 0 rfl ?_
        refine x_aload_n dX6_finishCommand_77 0 rfl ?_
        refine x_getI fl_X6_26 rfl rfl dX6_finishCommand_78 ?_
        refine x_topi (w3) ?_
        refine x_iconst (v := 2) dX6_finishCommand_81 (by decide) ?_
        refine x_icmp_lt 108 dX6_finishCommand_82 (by decide) (fun c48 => by exfalso; exact absurd ((nl_lt (a := rNd k) (b := 2) rfl rfl (by omega) (by omega)).mp c48) (by omega)) (fun c48 => ?_)
        refine x_aload_n dX6_finishCommand_85 0 rfl ?_
        refine x_getI fl_X6_26 rfl rfl dX6_finishCommand_86 ?_
        refine x_topi (w3) ?_
        refine x_bipush (v := 6) dX6_finishCommand_89 (by decide) ?_
        refine x_icmp_gt 108 dX6_finishCommand_91 (by decide) (fun c49 => by exfalso; exact absurd ((nl_lt (a := 6) (b := rNd k) rfl rfl (by omega) (by omega)).mp c49) (by omega)) (fun c49 => ?_)
        refine x_aload_n dX6_finishCommand_94 0 rfl ?_
        refine x_getR fl_X6_9 rfl rfl dX6_finishCommand_95 ?_
        refine x_aload_n dX6_finishCommand_98 0 rfl ?_
        refine x_getI fl_X6_26 rfl rfl dX6_finishCommand_99 ?_
        refine x_topi (w3) ?_
        refine x_iconst (v := 2) dX6_finishCommand_102 (by decide) ?_
        refine x_isub dX6_finishCommand_103 ?_
        have q50 : ((nI (rNd k)) - 2 : Int32) = nI ((rNd k) - 2) := nsub (by omega) (rfl) (rfl)
        refine YY.S (st' := [.int (nI ((rNd k) - 2)), .ref (g.2.1 41), .ref (g.2.1 37)]) (by rw [q50]) ?_
        have b51 : vp_in (nI ((rNd k) - 2)) 6 := by exact vp_in_nI (by omega) (by decide)
        refine x_iald rfl b51 dX6_finishCommand_104 ?_
        refine x_topi (y := U46 41 ((rNd k) - 2)) (by rw [nI_clamp (by omega)]) ?_
        refine x_topi (hX2 _ (by omega)) ?_
        refine x_goto 109 dX6_finishCommand_105 (by decide) ?_
        refine x_putI fp_X6_32 rfl rfl dX6_finishCommand_109 ?_
        obtain ⟨U52, eU52⟩ : ∃ v_v : vM, v_v = uM U46 37 8 (rX2 k sm ng c v x y X (rNd k - 2)) := ⟨_, rfl⟩
        refine YY.V eU52.symm ?_
        refine x_aload_n dX6_finishCommand_112 0 rfl ?_
        refine x_aload_n dX6_finishCommand_113 0 rfl ?_
        refine x_getI fl_X6_26 rfl rfl dX6_finishCommand_114 ?_
        refine x_topi (y := U46 37 3) (by rw [eU52, uM_ni (by decide)]) ?_
        refine x_topi (w3) ?_
        refine x_iconst (v := 2) dX6_finishCommand_117 (by decide) ?_
        refine x_icmp_lt 144 dX6_finishCommand_118 (by decide) (fun c53 => by exfalso; exact absurd ((nl_lt (a := rNd k) (b := 2) rfl rfl (by omega) (by omega)).mp c53) (by omega)) (fun c53 => ?_)
        refine x_aload_n dX6_finishCommand_121 0 rfl ?_
        refine x_getI fl_X6_26 rfl rfl dX6_finishCommand_122 ?_
        refine x_topi (y := U46 37 3) (by rw [eU52, uM_ni (by decide)]) ?_
        refine x_topi (w3) ?_
        refine x_bipush (v := 6) dX6_finishCommand_125 (by decide) ?_
        refine x_icmp_gt 144 dX6_finishCommand_127 (by decide) (fun c54 => by exfalso; exact absurd ((nl_lt (a := 6) (b := rNd k) rfl rfl (by omega) (by omega)).mp c54) (by omega)) (fun c54 => ?_)
        refine x_aload_n dX6_finishCommand_130 0 rfl ?_
        refine x_getR fl_X6_9 rfl rfl dX6_finishCommand_131 ?_
        refine x_aload_n dX6_finishCommand_134 0 rfl ?_
        refine x_getI fl_X6_26 rfl rfl dX6_finishCommand_135 ?_
        refine x_topi (y := U46 37 3) (by rw [eU52, uM_ni (by decide)]) ?_
        refine x_topi (w3) ?_
        refine x_iconst (v := 1) dX6_finishCommand_138 (by decide) ?_
        refine x_isub dX6_finishCommand_139 ?_
        have q55 : ((nI (rNd k)) - 1 : Int32) = nI ((rNd k) - 1) := nsub (by omega) (rfl) (rfl)
        refine YY.S (st' := [.int (nI ((rNd k) - 1)), .ref (g.2.1 41), .ref (g.2.1 37)]) (by rw [q55]) ?_
        have b56 : vp_in (nI ((rNd k) - 1)) 6 := by exact vp_in_nI (by omega) (by decide)
        refine x_iald rfl b56 dX6_finishCommand_140 ?_
        refine x_topi (y := U52 41 ((rNd k) - 1)) (by rw [nI_clamp (by omega)]) ?_
        refine x_topi (y := U46 41 ((rNd k) - 1)) (by rw [eU52, uM_na (by decide)]) ?_
        refine x_topi (hX2 _ (by omega)) ?_
        refine x_goto 145 dX6_finishCommand_141 (by decide) ?_
        refine x_putI fp_X6_35 rfl rfl dX6_finishCommand_145 ?_
        obtain ⟨U57, eU57⟩ : ∃ v_v : vM, v_v = uM U52 37 9 (rX2 k sm ng c v x y X (rNd k - 1)) := ⟨_, rfl⟩
        refine YY.V eU57.symm ?_
        refine x_aload_n dX6_finishCommand_148 0 rfl ?_
        refine x_getI fl_X6_18 rfl rfl dX6_finishCommand_149 ?_
        refine x_topi (y := U46 37 1) (by rw [eU57, uM_ni (by decide), eU52, uM_ni (by decide)]) ?_
        refine x_topi (w1) ?_
        refine x_if_ne 171 dX6_finishCommand_152 (by decide) (fun c58 => ?_) (fun c58 => ?_)
        · refine x_aload_n dX6_finishCommand_171 1 rfl ?_
          refine x_aload_n dX6_finishCommand_172 0 rfl ?_
          refine x_getI fl_X6_18 rfl rfl dX6_finishCommand_173 ?_
          refine x_topi (y := U46 37 1) (by rw [eU57, uM_ni (by decide), eU52, uM_ni (by decide)]) ?_
          refine x_topi (w1) ?_
          refine x_aload_n dX6_finishCommand_176 0 rfl ?_
          refine x_getR fl_X6_9 rfl rfl dX6_finishCommand_177 ?_
          refine x_iconst (v := 0) dX6_finishCommand_180 (by decide) ?_
          have q59 : (0 : Int32) = nI 0 := rfl
          refine YY.S (st' := [.int (nI 0), .ref (g.2.1 41), .int k, .ref (g.2.1 2)]) (by rw [q59]) ?_
          have b60 : vp_in (nI 0) 6 := by exact vp_in_nI (by omega) (by decide)
          refine x_iald rfl b60 dX6_finishCommand_181 ?_
          refine x_topi (y := U57 41 0) (by rw [nI_clamp (by omega)]) ?_
          refine x_topi (y := U46 41 0) (by rw [eU57, uM_na (by decide), eU52, uM_na (by decide)]) ?_
          refine x_aload_n dX6_finishCommand_182 0 rfl ?_
          refine x_getR fl_X6_9 rfl rfl dX6_finishCommand_183 ?_
          refine x_iconst (v := 1) dX6_finishCommand_186 (by decide) ?_
          have q61 : (1 : Int32) = nI 1 := rfl
          refine YY.S (st' := [.int (nI 1), .ref (g.2.1 41), .int (U46 41 0), .int k, .ref (g.2.1 2)]) (by rw [q61]) ?_
          have b62 : vp_in (nI 1) 6 := by exact vp_in_nI (by omega) (by decide)
          refine x_iald rfl b62 dX6_finishCommand_187 ?_
          refine x_topi (y := U57 41 1) (by rw [nI_clamp (by omega)]) ?_
          refine x_topi (y := U46 41 1) (by rw [eU57, uM_na (by decide), eU52, uM_na (by decide)]) ?_
          refine x_aload_n dX6_finishCommand_188 0 rfl ?_
          refine x_getR fl_X6_9 rfl rfl dX6_finishCommand_189 ?_
          refine x_iconst (v := 2) dX6_finishCommand_192 (by decide) ?_
          have q63 : (2 : Int32) = nI 2 := rfl
          refine YY.S (st' := [.int (nI 2), .ref (g.2.1 41), .int (U46 41 1), .int (U46 41 0), .int k, .ref (g.2.1 2)]) (by rw [q63]) ?_
          have b64 : vp_in (nI 2) 6 := by exact vp_in_nI (by omega) (by decide)
          refine x_iald rfl b64 dX6_finishCommand_193 ?_
          refine x_topi (y := U57 41 2) (by rw [nI_clamp (by omega)]) ?_
          refine x_topi (y := U46 41 2) (by rw [eU57, uM_na (by decide), eU52, uM_na (by decide)]) ?_
          refine x_aload_n dX6_finishCommand_194 0 rfl ?_
          refine x_getR fl_X6_9 rfl rfl dX6_finishCommand_195 ?_
          refine x_iconst (v := 3) dX6_finishCommand_198 (by decide) ?_
          have q65 : (3 : Int32) = nI 3 := rfl
          refine YY.S (st' := [.int (nI 3), .ref (g.2.1 41), .int (U46 41 2), .int (U46 41 1), .int (U46 41 0), .int k, .ref (g.2.1 2)]) (by rw [q65]) ?_
          have b66 : vp_in (nI 3) 6 := by exact vp_in_nI (by omega) (by decide)
          refine x_iald rfl b66 dX6_finishCommand_199 ?_
          refine x_topi (y := U57 41 3) (by rw [nI_clamp (by omega)]) ?_
          refine x_topi (y := U46 41 3) (by rw [eU57, uM_na (by decide), eU52, uM_na (by decide)]) ?_
          refine x_aload_n dX6_finishCommand_200 0 rfl ?_
          refine x_getR fl_X6_9 rfl rfl dX6_finishCommand_201 ?_
          refine x_iconst (v := 4) dX6_finishCommand_204 (by decide) ?_
          have q67 : (4 : Int32) = nI 4 := rfl
          refine YY.S (st' := [.int (nI 4), .ref (g.2.1 41), .int (U46 41 3), .int (U46 41 2), .int (U46 41 1), .int (U46 41 0), .int k, .ref (g.2.1 2)]) (by rw [q67]) ?_
          have b68 : vp_in (nI 4) 6 := by exact vp_in_nI (by omega) (by decide)
          refine x_iald rfl b68 dX6_finishCommand_205 ?_
          refine x_topi (y := U57 41 4) (by rw [nI_clamp (by omega)]) ?_
          refine x_topi (y := U46 41 4) (by rw [eU57, uM_na (by decide), eU52, uM_na (by decide)]) ?_
          refine x_aload_n dX6_finishCommand_206 0 rfl ?_
          refine x_getR fl_X6_9 rfl rfl dX6_finishCommand_207 ?_
          refine x_iconst (v := 5) dX6_finishCommand_210 (by decide) ?_
          have q69 : (5 : Int32) = nI 5 := rfl
          refine YY.S (st' := [.int (nI 5), .ref (g.2.1 41), .int (U46 41 4), .int (U46 41 3), .int (U46 41 2), .int (U46 41 1), .int (U46 41 0), .int k, .ref (g.2.1 2)]) (by rw [q69]) ?_
          have b70 : vp_in (nI 5) 6 := by exact vp_in_nI (by omega) (by decide)
          refine x_iald rfl b70 dX6_finishCommand_211 ?_
          refine x_topi (y := U57 41 5) (by rw [nI_clamp (by omega)]) ?_
          refine x_topi (y := U46 41 5) (by rw [eU57, uM_na (by decide), eU52, uM_na (by decide)]) ?_
          have hPA : PPr U57 2 14 15 (min cm 24) O := r14.ag (fun b j q => by rw [eU57, uM_na (by omega), eU52, uM_na (by omega)]; exact hfo b j (by omega) (by omega))
          have hk03 : 0 ≤ k ∧ k ≤ 3 := k3 (a1.resolve_left (by assumption)) (by assumption)
          refine x_callV (K := jX5_add) [.int k, .int (U46 41 0), .int (U46 41 1), .int (U46 41 2), .int (U46 41 3), .int (U46 41 4), .int (U46 41 5)] lk_X6_100 ⟨⟨rfl, rfl⟩, Nat.le_of_ble_eq_true rfl, Nat.le_of_ble_eq_true rfl⟩ rfl rfl (mX5_add U57 isP2 (min cm 24) (by omega) hPA.1 k (U46 41 0) (U46 41 1) (U46 41 2) (U46 41 3) (U46 41 4) (U46 41 5)) rfl (Nat.le_of_ble_eq_true rfl) rfl dX6_finishCommand_212 (kdV ?_)
          obtain ⟨U71, eU71⟩ : ∃ v_v : vM, v_v = ad U57 2 14 15 (min cm 24) k (U46 41 0) (U46 41 1) (U46 41 2) (U46 41 3) (U46 41 4) (U46 41 5) := ⟨_, rfl⟩
          refine YY.V eU71.symm ?_
          have hPB := hPA.rd (k := k) (X := rX2 k sm ng c v x y X) (rd_nx (N := fun j => U46 41 j) hk03 hX2)
          rw [← eU71] at hPB
          refine x_vret dX6_finishCommand_215 rfl ?_
          rw [hQ]
          have hfc : rFC ((k, sm, ng), (c, v, d, cm), (x, y, sx, sy), X, O) = ((k, sm, 0), (c + 1, 0, 0, cm + 1), (rX2 k sm ng c v x y X (rNd k - 2), rX2 k sm ng c v x y X (rNd k - 1), if k = 0 then rX2 k sm ng c v x y X (rNd k - 2) else sx, if k = 0 then rX2 k sm ng c v x y X (rNd k - 1) else sy), rX2 k sm ng c v x y X, rOut O cm (rRow k (rX2 k sm ng c v x y X))) := by unfold rFC; dsimp only; rw [if_neg (by assumption), if_neg (by assumption)]
          rw [hfc]
          have ad37 : ∀ j, U71 37 j = U57 37 j := fun j => by rw [eU71, ad_at (by decide) (by decide) (by decide)]
          refine ⟨rfl, ⟨⟨?_, ?_, ?_, ?_, ?_, ?_, ?_, ?_, ?_, ?_, ?_, ?_, fun j hj => ?_⟩, hPB⟩, ?_⟩
          · rw [ad37]; simp [eU57, eU52, uM_at, w1]
          · rw [ad37]; simp [eU57, eU52, uM_at, w2]
          · rw [ad37]; simp [eU57, eU52, uM_at, w3]
          · rw [ad37]; simp [eU57, eU52, uM_at, w4]
          · rw [ad37]; simp [eU57, eU52, uM_at, w5]
          · rw [ad37]; simp [eU57, eU52, uM_at, w6]
          · rw [ad37]; simp [eU57, eU52, uM_at, w7]
          · rw [ad37]; simp [eU57, eU52, uM_at]
          · rw [ad37]; simp [eU57, eU52, uM_at]
          · rw [ad37, if_neg (show ¬ k = 0 by assumption)]; simp [eU57, eU52, uM_at, w10]
          · rw [ad37, if_neg (show ¬ k = 0 by assumption)]; simp [eU57, eU52, uM_at, w11]
          · rw [ad37]; simp [eU57, eU52, uM_at, w12]
          · rw [eU71, ad_at (by decide) (by decide) (by decide), eU57, uM_na (by decide), eU52, uM_na (by decide)]; exact hX2 j (by omega)
          · exact fun a j p1 p2 p3 p4 p5 => by rw [eU71, ad_at p1 p2 p3, eU57, uM_na p4, eU52, uM_na p4]; exact hfo a j p4 p5
        · refine x_aload_n dX6_finishCommand_155 0 rfl ?_
          refine x_aload_n dX6_finishCommand_156 0 rfl ?_
          refine x_getI fl_X6_32 rfl rfl dX6_finishCommand_157 ?_
          refine x_topi (y := rX2 k sm ng c v x y X (rNd k - 2)) (by rw [eU57, uM_ni (by decide), eU52, uM_hit]) ?_
          refine x_putI fp_X6_38 rfl rfl dX6_finishCommand_160 ?_
          obtain ⟨U72, eU72⟩ : ∃ v_v : vM, v_v = uM U57 37 10 (rX2 k sm ng c v x y X (rNd k - 2)) := ⟨_, rfl⟩
          refine YY.V eU72.symm ?_
          refine x_aload_n dX6_finishCommand_163 0 rfl ?_
          refine x_aload_n dX6_finishCommand_164 0 rfl ?_
          refine x_getI fl_X6_35 rfl rfl dX6_finishCommand_165 ?_
          refine x_topi (y := rX2 k sm ng c v x y X (rNd k - 1)) (by rw [eU72, uM_ni (by decide), eU57, uM_hit]) ?_
          refine x_putI fp_X6_41 rfl rfl dX6_finishCommand_168 ?_
          obtain ⟨U73, eU73⟩ : ∃ v_v : vM, v_v = uM U72 37 11 (rX2 k sm ng c v x y X (rNd k - 1)) := ⟨_, rfl⟩
          refine YY.V eU73.symm ?_
          refine x_aload_n dX6_finishCommand_171 1 rfl ?_
          refine x_aload_n dX6_finishCommand_172 0 rfl ?_
          refine x_getI fl_X6_18 rfl rfl dX6_finishCommand_173 ?_
          refine x_topi (y := U46 37 1) (by rw [eU73, uM_ni (by decide), eU72, uM_ni (by decide), eU57, uM_ni (by decide), eU52, uM_ni (by decide)]) ?_
          refine x_topi (w1) ?_
          refine x_aload_n dX6_finishCommand_176 0 rfl ?_
          refine x_getR fl_X6_9 rfl rfl dX6_finishCommand_177 ?_
          refine x_iconst (v := 0) dX6_finishCommand_180 (by decide) ?_
          have q74 : (0 : Int32) = nI 0 := rfl
          refine YY.S (st' := [.int (nI 0), .ref (g.2.1 41), .int k, .ref (g.2.1 2)]) (by rw [q74]) ?_
          have b75 : vp_in (nI 0) 6 := by exact vp_in_nI (by omega) (by decide)
          refine x_iald rfl b75 dX6_finishCommand_181 ?_
          refine x_topi (y := U73 41 0) (by rw [nI_clamp (by omega)]) ?_
          refine x_topi (y := U46 41 0) (by rw [eU73, uM_na (by decide), eU72, uM_na (by decide), eU57, uM_na (by decide), eU52, uM_na (by decide)]) ?_
          refine x_aload_n dX6_finishCommand_182 0 rfl ?_
          refine x_getR fl_X6_9 rfl rfl dX6_finishCommand_183 ?_
          refine x_iconst (v := 1) dX6_finishCommand_186 (by decide) ?_
          have q76 : (1 : Int32) = nI 1 := rfl
          refine YY.S (st' := [.int (nI 1), .ref (g.2.1 41), .int (U46 41 0), .int k, .ref (g.2.1 2)]) (by rw [q76]) ?_
          have b77 : vp_in (nI 1) 6 := by exact vp_in_nI (by omega) (by decide)
          refine x_iald rfl b77 dX6_finishCommand_187 ?_
          refine x_topi (y := U73 41 1) (by rw [nI_clamp (by omega)]) ?_
          refine x_topi (y := U46 41 1) (by rw [eU73, uM_na (by decide), eU72, uM_na (by decide), eU57, uM_na (by decide), eU52, uM_na (by decide)]) ?_
          refine x_aload_n dX6_finishCommand_188 0 rfl ?_
          refine x_getR fl_X6_9 rfl rfl dX6_finishCommand_189 ?_
          refine x_iconst (v := 2) dX6_finishCommand_192 (by decide) ?_
          have q78 : (2 : Int32) = nI 2 := rfl
          refine YY.S (st' := [.int (nI 2), .ref (g.2.1 41), .int (U46 41 1), .int (U46 41 0), .int k, .ref (g.2.1 2)]) (by rw [q78]) ?_
          have b79 : vp_in (nI 2) 6 := by exact vp_in_nI (by omega) (by decide)
          refine x_iald rfl b79 dX6_finishCommand_193 ?_
          refine x_topi (y := U73 41 2) (by rw [nI_clamp (by omega)]) ?_
          refine x_topi (y := U46 41 2) (by rw [eU73, uM_na (by decide), eU72, uM_na (by decide), eU57, uM_na (by decide), eU52, uM_na (by decide)]) ?_
          refine x_aload_n dX6_finishCommand_194 0 rfl ?_
          refine x_getR fl_X6_9 rfl rfl dX6_finishCommand_195 ?_
          refine x_iconst (v := 3) dX6_finishCommand_198 (by decide) ?_
          have q80 : (3 : Int32) = nI 3 := rfl
          refine YY.S (st' := [.int (nI 3), .ref (g.2.1 41), .int (U46 41 2), .int (U46 41 1), .int (U46 41 0), .int k, .ref (g.2.1 2)]) (by rw [q80]) ?_
          have b81 : vp_in (nI 3) 6 := by exact vp_in_nI (by omega) (by decide)
          refine x_iald rfl b81 dX6_finishCommand_199 ?_
          refine x_topi (y := U73 41 3) (by rw [nI_clamp (by omega)]) ?_
          refine x_topi (y := U46 41 3) (by rw [eU73, uM_na (by decide), eU72, uM_na (by decide), eU57, uM_na (by decide), eU52, uM_na (by decide)]) ?_
          refine x_aload_n dX6_finishCommand_200 0 rfl ?_
          refine x_getR fl_X6_9 rfl rfl dX6_finishCommand_201 ?_
          refine x_iconst (v := 4) dX6_finishCommand_204 (by decide) ?_
          have q82 : (4 : Int32) = nI 4 := rfl
          refine YY.S (st' := [.int (nI 4), .ref (g.2.1 41), .int (U46 41 3), .int (U46 41 2), .int (U46 41 1), .int (U46 41 0), .int k, .ref (g.2.1 2)]) (by rw [q82]) ?_
          have b83 : vp_in (nI 4) 6 := by exact vp_in_nI (by omega) (by decide)
          refine x_iald rfl b83 dX6_finishCommand_205 ?_
          refine x_topi (y := U73 41 4) (by rw [nI_clamp (by omega)]) ?_
          refine x_topi (y := U46 41 4) (by rw [eU73, uM_na (by decide), eU72, uM_na (by decide), eU57, uM_na (by decide), eU52, uM_na (by decide)]) ?_
          refine x_aload_n dX6_finishCommand_206 0 rfl ?_
          refine x_getR fl_X6_9 rfl rfl dX6_finishCommand_207 ?_
          refine x_iconst (v := 5) dX6_finishCommand_210 (by decide) ?_
          have q84 : (5 : Int32) = nI 5 := rfl
          refine YY.S (st' := [.int (nI 5), .ref (g.2.1 41), .int (U46 41 4), .int (U46 41 3), .int (U46 41 2), .int (U46 41 1), .int (U46 41 0), .int k, .ref (g.2.1 2)]) (by rw [q84]) ?_
          have b85 : vp_in (nI 5) 6 := by exact vp_in_nI (by omega) (by decide)
          refine x_iald rfl b85 dX6_finishCommand_211 ?_
          refine x_topi (y := U73 41 5) (by rw [nI_clamp (by omega)]) ?_
          refine x_topi (y := U46 41 5) (by rw [eU73, uM_na (by decide), eU72, uM_na (by decide), eU57, uM_na (by decide), eU52, uM_na (by decide)]) ?_
          have hPA : PPr U73 2 14 15 (min cm 24) O := r14.ag (fun b j q => by rw [eU73, uM_na (by omega), eU72, uM_na (by omega), eU57, uM_na (by omega), eU52, uM_na (by omega)]; exact hfo b j (by omega) (by omega))
          have hk03 : 0 ≤ k ∧ k ≤ 3 := k3 (a1.resolve_left (by assumption)) (by assumption)
          refine x_callV (K := jX5_add) [.int k, .int (U46 41 0), .int (U46 41 1), .int (U46 41 2), .int (U46 41 3), .int (U46 41 4), .int (U46 41 5)] lk_X6_100 ⟨⟨rfl, rfl⟩, Nat.le_of_ble_eq_true rfl, Nat.le_of_ble_eq_true rfl⟩ rfl rfl (mX5_add U73 isP2 (min cm 24) (by omega) hPA.1 k (U46 41 0) (U46 41 1) (U46 41 2) (U46 41 3) (U46 41 4) (U46 41 5)) rfl (Nat.le_of_ble_eq_true rfl) rfl dX6_finishCommand_212 (kdV ?_)
          obtain ⟨U86, eU86⟩ : ∃ v_v : vM, v_v = ad U73 2 14 15 (min cm 24) k (U46 41 0) (U46 41 1) (U46 41 2) (U46 41 3) (U46 41 4) (U46 41 5) := ⟨_, rfl⟩
          refine YY.V eU86.symm ?_
          have hPB := hPA.rd (k := k) (X := rX2 k sm ng c v x y X) (rd_nx (N := fun j => U46 41 j) hk03 hX2)
          rw [← eU86] at hPB
          refine x_vret dX6_finishCommand_215 rfl ?_
          rw [hQ]
          have hfc : rFC ((k, sm, ng), (c, v, d, cm), (x, y, sx, sy), X, O) = ((k, sm, 0), (c + 1, 0, 0, cm + 1), (rX2 k sm ng c v x y X (rNd k - 2), rX2 k sm ng c v x y X (rNd k - 1), if k = 0 then rX2 k sm ng c v x y X (rNd k - 2) else sx, if k = 0 then rX2 k sm ng c v x y X (rNd k - 1) else sy), rX2 k sm ng c v x y X, rOut O cm (rRow k (rX2 k sm ng c v x y X))) := by unfold rFC; dsimp only; rw [if_neg (by assumption), if_neg (by assumption)]
          rw [hfc]
          have ad37 : ∀ j, U86 37 j = U73 37 j := fun j => by rw [eU86, ad_at (by decide) (by decide) (by decide)]
          refine ⟨rfl, ⟨⟨?_, ?_, ?_, ?_, ?_, ?_, ?_, ?_, ?_, ?_, ?_, ?_, fun j hj => ?_⟩, hPB⟩, ?_⟩
          · rw [ad37]; simp [eU73, eU72, eU57, eU52, uM_at, w1]
          · rw [ad37]; simp [eU73, eU72, eU57, eU52, uM_at, w2]
          · rw [ad37]; simp [eU73, eU72, eU57, eU52, uM_at, w3]
          · rw [ad37]; simp [eU73, eU72, eU57, eU52, uM_at, w4]
          · rw [ad37]; simp [eU73, eU72, eU57, eU52, uM_at, w5]
          · rw [ad37]; simp [eU73, eU72, eU57, eU52, uM_at, w6]
          · rw [ad37]; simp [eU73, eU72, eU57, eU52, uM_at, w7]
          · rw [ad37]; simp [eU73, eU72, eU57, eU52, uM_at]
          · rw [ad37]; simp [eU73, eU72, eU57, eU52, uM_at]
          · rw [ad37, if_pos (show k = 0 by assumption)]; simp [eU73, eU72, eU57, eU52, uM_at]
          · rw [ad37, if_pos (show k = 0 by assumption)]; simp [eU73, eU72, eU57, eU52, uM_at]
          · rw [ad37]; simp [eU73, eU72, eU57, eU52, uM_at, w12]
          · rw [eU86, ad_at (by decide) (by decide) (by decide), eU73, uM_na (by decide), eU72, uM_na (by decide), eU57, uM_na (by decide), eU52, uM_na (by decide)]; exact hX2 j (by omega)
          · exact fun a j p1 p2 p3 p4 p5 => by rw [eU86, ad_at p1 p2 p3, eU73, uM_na p4, eU72, uM_na p4, eU57, uM_na p4, eU52, uM_na p4]; exact hfo a j p4 p5
    · refine x_aload_n dX6_finishCommand_27 0 rfl ?_
      refine x_aload_n dX6_finishCommand_28 0 rfl ?_
      refine x_getI fl_X6_38 rfl rfl dX6_finishCommand_29 ?_
      refine x_topi (y := V 37 10) (by rw [eU2, uM_ni (by decide)]) ?_
      refine x_topi (r10) ?_
      refine x_putI fp_X6_32 rfl rfl dX6_finishCommand_32 ?_
      obtain ⟨U87, eU87⟩ : ∃ v_v : vM, v_v = uM U2 37 8 sx := ⟨_, rfl⟩
      refine YY.V eU87.symm ?_
      refine x_aload_n dX6_finishCommand_35 0 rfl ?_
      refine x_aload_n dX6_finishCommand_36 0 rfl ?_
      refine x_getI fl_X6_41 rfl rfl dX6_finishCommand_37 ?_
      refine x_topi (y := V 37 11) (by rw [eU87, uM_ni (by decide), eU2, uM_ni (by decide)]) ?_
      refine x_topi (r11) ?_
      refine x_putI fp_X6_35 rfl rfl dX6_finishCommand_40 ?_
      obtain ⟨U88, eU88⟩ : ∃ v_v : vM, v_v = uM U87 37 9 sy := ⟨_, rfl⟩
      refine YY.V eU88.symm ?_
      refine x_aload_n dX6_finishCommand_43 1 rfl ?_
      refine x_iconst (v := 4) dX6_finishCommand_44 (by decide) ?_
      refine x_aload_n dX6_finishCommand_45 0 rfl ?_
      refine x_getI fl_X6_32 rfl rfl dX6_finishCommand_46 ?_
      refine x_topi (y := sx) (by rw [eU88, uM_ni (by decide), eU87, uM_hit]) ?_
      refine x_aload_n dX6_finishCommand_49 0 rfl ?_
      refine x_getI fl_X6_35 rfl rfl dX6_finishCommand_50 ?_
      refine x_topi (y := sy) (by rw [eU88, uM_hit]) ?_
      refine x_iconst (v := 0) dX6_finishCommand_53 (by decide) ?_
      refine x_iconst (v := 0) dX6_finishCommand_54 (by decide) ?_
      refine x_iconst (v := 0) dX6_finishCommand_55 (by decide) ?_
      refine x_iconst (v := 0) dX6_finishCommand_56 (by decide) ?_
      have hPA : PPr U88 2 14 15 (min cm 24) O := r14.ag (fun b j q => by rw [eU88, uM_na (by omega), eU87, uM_na (by omega), eU2, uM_na (by omega)])
      refine x_callV (K := jX5_add) [.int 4, .int sx, .int sy, .int 0, .int 0, .int 0, .int 0] lk_X6_100 ⟨⟨rfl, rfl⟩, Nat.le_of_ble_eq_true rfl, Nat.le_of_ble_eq_true rfl⟩ rfl rfl (mX5_add U88 isP2 (min cm 24) (by omega) hPA.1 4 sx sy 0 0 0 0) rfl (Nat.le_of_ble_eq_true rfl) rfl dX6_finishCommand_57 (kdV ?_)
      obtain ⟨U89, eU89⟩ : ∃ v_v : vM, v_v = ad U88 2 14 15 (min cm 24) 4 sx sy 0 0 0 0 := ⟨_, rfl⟩
      refine YY.V eU89.symm ?_
      have hPB := hPA.rd (k := 4) (X := X) (rd_nx4 (a10 (by assumption) (by rw [show k = 4 by assumption]; decide)).1 (a11 (a10 (by assumption) (by rw [show k = 4 by assumption]; decide)).1))
      rw [← eU89] at hPB
      refine x_vret dX6_finishCommand_60 rfl ?_
      rw [hQ]
      have hfc : rFC ((k, sm, ng), (c, v, d, cm), (x, y, sx, sy), X, O) = ((k, sm, ng), (c, v, d, cm + 1), (sx, sy, sx, sy), X, rOut O cm (rRow 4 X)) := by unfold rFC; dsimp only; rw [if_neg (by assumption), if_pos (by assumption)]
      rw [hfc]
      have ad37 : ∀ j, U89 37 j = U88 37 j := fun j => by rw [eU89, ad_at (by decide) (by decide) (by decide)]
      refine ⟨rfl, ⟨⟨?_, ?_, ?_, ?_, ?_, ?_, ?_, ?_, ?_, ?_, ?_, ?_, fun j hj => ?_⟩, hPB⟩, ?_⟩
      · rw [ad37]; simp [eU88, eU87, eU2, uM_at, r1]
      · rw [ad37]; simp [eU88, eU87, eU2, uM_at, r2]
      · rw [ad37]; simp [eU88, eU87, eU2, uM_at, r3]
      · rw [ad37]; simp [eU88, eU87, eU2, uM_at, r4]
      · rw [ad37]; simp [eU88, eU87, eU2, uM_at, r5]
      · rw [ad37]; simp [eU88, eU87, eU2, uM_at, r6]
      · rw [ad37]; simp [eU88, eU87, eU2, uM_at, r7]
      · rw [ad37]; simp [eU88, eU87, eU2, uM_at]
      · rw [ad37]; simp [eU88, eU87, eU2, uM_at]
      · rw [ad37]; simp [eU88, eU87, eU2, uM_at, r10]
      · rw [ad37]; simp [eU88, eU87, eU2, uM_at, r11]
      · rw [ad37]; simp [eU88, eU87, eU2, uM_at, nI_1]
      · rw [eU89, ad_at (by decide) (by decide) (by decide), eU88, uM_na (by decide), eU87, uM_na (by decide), eU2, uM_na (by decide)]; exact r13 j hj
      · exact fun a j p1 p2 p3 p4 p5 => by rw [eU89, ad_at p1 p2 p3, eU88, uM_na p4, eU87, uM_na p4, eU2, uM_na p4]
  · refine x_vret dX6_finishCommand_8 rfl ?_
    rw [hQ]
    have hfc : rFC ((k, sm, ng), (c, v, d, cm), (x, y, sx, sy), X, O) = ((k, sm, ng), (c, v, d, cm), (x, y, sx, sy), X, O) := by unfold rFC; dsimp only; rw [if_pos (by assumption)]
    rw [hfc]
    exact ⟨rfl, hR, frR.refl V⟩
