theorem bc_at {V : vM} {a k n b kb nb q i : Nat} (h1 : q ≠ a) (h2 : q ≠ k) (h3 : q ≠ n) : bc V a k n b kb nb q i = V q i := by
  unfold bc
  simp only [cM_at, uM_at]
  rw [if_neg h3, if_neg h2, if_neg (fun z => h1 z.1), if_neg (fun z => h1 z.1)]
theorem bc_2 {V : vM} {a k n b kb nb : Nat} (h2 : a ≠ k) (h3 : a ≠ n) : bc V a k n b kb nb a 2 = V b 2 ∧ bc V a k n b kb nb a 3 = V b 3 := by
  unfold bc
  simp only [cM_at, uM_at]
  rw [if_neg h3, if_neg h2, if_neg h3, if_neg h2]
  simp
set_option maxHeartbeats 1000000 in
set_option maxRecDepth 100000 in
theorem mX9_savedIn0 {g : gX} (V : vM) : MM g jX9_savedIn V [.ref (g.2.1 0), .int 0] (pR V (g.2.1 3)) := by
  refine MM.of plX9_savedIn (Nat.le_of_ble_eq_true rfl) ?_
  obtain ⟨Q, hQ⟩ : ∃ Q : Option Value → vM → Prop, Q = (pR V (g.2.1 3)) := ⟨_, rfl⟩
  rw [← hQ]
  show XX g jX9_savedIn Q V 0 [(0, .ref (g.2.1 0)), (1, .int 0)] []
  refine x_iload_n dX9_savedIn_0 1 rfl ?_
  refine x_if_ne 11 dX9_savedIn_1 (by decide) (fun c1 => by exfalso; revert c1; decide) (fun c1 => ?_)
  refine x_aload_n dX9_savedIn_4 0 rfl ?_
  refine x_getR fl_X9_19 rfl rfl dX9_savedIn_5 ?_
  refine x_goto 15 dX9_savedIn_8 (by decide) ?_
  refine x_aret dX9_savedIn_15 rfl (Or.inl ⟨_, rfl⟩) ?_
  rw [hQ]
  exact ⟨rfl, rfl⟩
set_option maxHeartbeats 1000000 in
set_option maxRecDepth 100000 in
theorem mX9_savedIn1 {g : gX} (V : vM) : MM g jX9_savedIn V [.ref (g.2.1 0), .int 1] (pR V (g.2.1 4)) := by
  refine MM.of plX9_savedIn (Nat.le_of_ble_eq_true rfl) ?_
  obtain ⟨Q, hQ⟩ : ∃ Q : Option Value → vM → Prop, Q = (pR V (g.2.1 4)) := ⟨_, rfl⟩
  rw [← hQ]
  show XX g jX9_savedIn Q V 0 [(0, .ref (g.2.1 0)), (1, .int 1)] []
  refine x_iload_n dX9_savedIn_0 1 rfl ?_
  refine x_if_ne 11 dX9_savedIn_1 (by decide) (fun c1 => ?_) (fun c1 => by exfalso; revert c1; decide)
  refine x_aload_n dX9_savedIn_11 0 rfl ?_
  refine x_getR fl_X9_22 rfl rfl dX9_savedIn_12 ?_
  refine x_aret dX9_savedIn_15 rfl (Or.inl ⟨_, rfl⟩) ?_
  rw [hQ]
  exact ⟨rfl, rfl⟩
set_option maxHeartbeats 1000000 in
set_option maxRecDepth 100000 in
theorem mX9_save_no {g : gX} (V : vM) (sl : Int32) (h : ¬ (0 ≤ sl ∧ sl < 2)) : MM g jX9_save V [.ref (g.2.1 0), .int sl] (pI V (-1000002)) := by
  refine MM.of plX9_save (Nat.le_of_ble_eq_true rfl) ?_
  obtain ⟨Q, hQ⟩ : ∃ Q : Option Value → vM → Prop, Q = (pI V (-1000002)) := ⟨_, rfl⟩
  rw [← hQ]
  show XX g jX9_save Q V 0 [(0, .ref (g.2.1 0)), (1, .int sl)] []
  refine x_iload_n dX9_save_0 1 rfl ?_
  refine x_if_lt 9 dX9_save_1 (by decide) (fun c1 => ?_) (fun c1 => ?_)
  · refine x_ldc ct_X9_83 dX9_save_9 ?_
    refine x_iret dX9_save_11 rfl ?_
    rw [hQ]
    exact ⟨rfl, rfl⟩
  · refine x_iload_n dX9_save_4 1 rfl ?_
    refine x_iconst (v := 2) dX9_save_5 (by decide) ?_
    refine x_icmp_lt 12 dX9_save_6 (by decide) (fun c2 => by exfalso; exact h ⟨Int32.not_lt.mp (by assumption), c2⟩) (fun c2 => ?_)
    refine x_ldc ct_X9_83 dX9_save_9 ?_
    refine x_iret dX9_save_11 rfl ?_
    rw [hQ]
    exact ⟨rfl, rfl⟩
set_option maxHeartbeats 1000000 in
set_option maxRecDepth 100000 in
theorem mX9_save0 {g : gX} (V : vM) : MM g jX9_save V [.ref (g.2.1 0), .int 0] (dI (uM (bc V 3 16 17 1 12 13) 5 0 (V 0 11)) (V 1 2)) := by
  refine MM.of plX9_save (Nat.le_of_ble_eq_true rfl) ?_
  obtain ⟨Q, hQ⟩ : ∃ Q : Option Value → vM → Prop, Q = (dI (uM (bc V 3 16 17 1 12 13) 5 0 (V 0 11)) (V 1 2)) := ⟨_, rfl⟩
  rw [← hQ]
  show XX g jX9_save Q V 0 [(0, .ref (g.2.1 0)), (1, .int 0)] []
  refine x_iload_n dX9_save_0 1 rfl ?_
  refine x_if_lt 9 dX9_save_1 (by decide) (fun c1 => by exfalso; revert c1; decide) (fun c1 => ?_)
  refine x_iload_n dX9_save_4 1 rfl ?_
  refine x_iconst (v := 2) dX9_save_5 (by decide) ?_
  refine x_icmp_lt 12 dX9_save_6 (by decide) (fun c2 => ?_) (fun c2 => by exfalso; revert c2; decide)
  refine x_aload_n dX9_save_12 0 rfl ?_
  refine x_iload_n dX9_save_13 1 rfl ?_
  refine x_callV (K := jX9_savedIn) [.int 0] lk_X9_287 ⟨⟨rfl, rfl⟩, Nat.le_of_ble_eq_true rfl, Nat.le_of_ble_eq_true rfl⟩ rfl rfl (mX9_savedIn0 V) rfl (Nat.le_of_ble_eq_true rfl) rfl dX9_save_14 (kpR ?_)
  refine x_aload_n dX9_save_17 0 rfl ?_
  refine x_getR fl_X9_12 rfl rfl dX9_save_18 ?_
  refine x_callV (K := jX5_become) [.ref (g.2.1 1)] lk_X9_140 ⟨⟨rfl, rfl⟩, Nat.le_of_ble_eq_true rfl, Nat.le_of_ble_eq_true rfl⟩ rfl rfl (mX5_become V isP3 isP1 (by decide) (by decide) (by decide) (by decide) (by decide) (by decide) (by decide)) rfl (Nat.le_of_ble_eq_true rfl) rfl dX9_save_21 (kdV ?_)
  obtain ⟨U3, eU3⟩ : ∃ v_v : vM, v_v = bc V 3 16 17 1 12 13 := ⟨_, rfl⟩
  refine YY.V eU3.symm ?_
  refine x_aload_n dX9_save_24 0 rfl ?_
  refine x_getR fl_X9_25 rfl rfl dX9_save_25 ?_
  refine x_iload_n dX9_save_28 1 rfl ?_
  refine x_aload_n dX9_save_29 0 rfl ?_
  refine x_getI fl_X9_71 rfl rfl dX9_save_30 ?_
  have q4 : (0 : Int32) = nI 0 := rfl
  refine YY.S (st' := [.int (U3 0 11), .int (nI 0), .ref (g.2.1 5)]) (by rw [q4]) ?_
  have b5 : vp_in (nI 0) 2 := by exact vp_in_nI (by omega) (by decide)
  refine x_iast rfl b5 dX9_save_33 ?_
  refine YY.V (V' := uM U3 5 0 (U3 0 11)) (by rw [nI_clamp (by omega)]) ?_
  obtain ⟨U6, eU6⟩ : ∃ v_v : vM, v_v = uM U3 5 0 (U3 0 11) := ⟨_, rfl⟩
  refine YY.V eU6.symm ?_
  refine x_aload_n dX9_save_34 0 rfl ?_
  refine x_getR fl_X9_12 rfl rfl dX9_save_35 ?_
  refine x_getI fl_X9_104 rfl rfl dX9_save_38 ?_
  refine x_topi (y := U3 1 2) (by rw [eU6, uM_na (by decide)]) ?_
  refine x_iret dX9_save_41 rfl ?_
  rw [hQ]
  subst_vars
  refine ⟨?_, ?_⟩
  · first | rfl | rw [bc_at (by decide) (by decide) (by decide)] | simp only [bc_at, ne_eq, Nat.reduceEqDiff, not_false_eq_true]
  · first | rw [uM_na (by decide), bc_at (by decide) (by decide) (by decide)] | rw [bc_at (by decide) (by decide) (by decide)] | rfl
set_option maxHeartbeats 1000000 in
set_option maxRecDepth 100000 in
theorem mX9_restore0n {g : gX} (V : vM) (hs : V 5 0 = 0) : MM g jX9_restore V [.ref (g.2.1 0), .int 0] (pI V (-1000005)) := by
  refine MM.of plX9_restore (Nat.le_of_ble_eq_true rfl) ?_
  obtain ⟨Q, hQ⟩ : ∃ Q : Option Value → vM → Prop, Q = (pI V (-1000005)) := ⟨_, rfl⟩
  rw [← hQ]
  show XX g jX9_restore Q V 0 [(0, .ref (g.2.1 0)), (1, .int 0)] []
  refine x_iload_n dX9_restore_0 1 rfl ?_
  refine x_if_lt 9 dX9_restore_1 (by decide) (fun c1 => by exfalso; revert c1; decide) (fun c1 => ?_)
  refine x_iload_n dX9_restore_4 1 rfl ?_
  refine x_iconst (v := 2) dX9_restore_5 (by decide) ?_
  refine x_icmp_lt 12 dX9_restore_6 (by decide) (fun c2 => ?_) (fun c2 => by exfalso; revert c2; decide)
  refine x_aload_n dX9_restore_12 0 rfl ?_
  refine x_getR fl_X9_25 rfl rfl dX9_restore_13 ?_
  refine x_iload_n dX9_restore_16 1 rfl ?_
  have q3 : (0 : Int32) = nI 0 := rfl
  refine YY.S (st' := [.int (nI 0), .ref (g.2.1 5)]) (by rw [q3]) ?_
  have b4 : vp_in (nI 0) 2 := by exact vp_in_nI (by omega) (by decide)
  refine x_iald rfl b4 dX9_restore_17 ?_
  refine x_topi (y := V 5 0) (by rw [nI_clamp (by omega)]) ?_
  refine x_if_ne 24 dX9_restore_18 (by decide) (fun c5 => by exfalso; exact c5 hs) (fun c5 => ?_)
  refine x_ldc ct_X9_107 dX9_restore_21 ?_
  refine x_iret dX9_restore_23 rfl ?_
  rw [hQ]
  exact ⟨rfl, rfl⟩
set_option maxHeartbeats 1000000 in
set_option maxRecDepth 100000 in
theorem mX9_restore0 {g : gX} (V : vM) (hs : ¬ V 5 0 = 0) : MM g jX9_restore V [.ref (g.2.1 0), .int 0] (dI (uM (uM (bc V 1 12 13 3 16 17) 0 11 (V 5 0)) 0 12 1) (V 3 2)) := by
  refine MM.of plX9_restore (Nat.le_of_ble_eq_true rfl) ?_
  obtain ⟨Q, hQ⟩ : ∃ Q : Option Value → vM → Prop, Q = (dI (uM (uM (bc V 1 12 13 3 16 17) 0 11 (V 5 0)) 0 12 1) (V 3 2)) := ⟨_, rfl⟩
  rw [← hQ]
  show XX g jX9_restore Q V 0 [(0, .ref (g.2.1 0)), (1, .int 0)] []
  refine x_iload_n dX9_restore_0 1 rfl ?_
  refine x_if_lt 9 dX9_restore_1 (by decide) (fun c1 => by exfalso; revert c1; decide) (fun c1 => ?_)
  refine x_iload_n dX9_restore_4 1 rfl ?_
  refine x_iconst (v := 2) dX9_restore_5 (by decide) ?_
  refine x_icmp_lt 12 dX9_restore_6 (by decide) (fun c2 => ?_) (fun c2 => by exfalso; revert c2; decide)
  refine x_aload_n dX9_restore_12 0 rfl ?_
  refine x_getR fl_X9_25 rfl rfl dX9_restore_13 ?_
  refine x_iload_n dX9_restore_16 1 rfl ?_
  have q3 : (0 : Int32) = nI 0 := rfl
  refine YY.S (st' := [.int (nI 0), .ref (g.2.1 5)]) (by rw [q3]) ?_
  have b4 : vp_in (nI 0) 2 := by exact vp_in_nI (by omega) (by decide)
  refine x_iald rfl b4 dX9_restore_17 ?_
  refine x_topi (y := V 5 0) (by rw [nI_clamp (by omega)]) ?_
  refine x_if_ne 24 dX9_restore_18 (by decide) (fun c5 => ?_) (fun c5 => by exfalso; exact hs c5)
  refine x_aload_n dX9_restore_24 0 rfl ?_
  refine x_getR fl_X9_12 rfl rfl dX9_restore_25 ?_
  refine x_aload_n dX9_restore_28 0 rfl ?_
  refine x_iload_n dX9_restore_29 1 rfl ?_
  refine x_callV (K := jX9_savedIn) [.int 0] lk_X9_287 ⟨⟨rfl, rfl⟩, Nat.le_of_ble_eq_true rfl, Nat.le_of_ble_eq_true rfl⟩ rfl rfl (mX9_savedIn0 V) rfl (Nat.le_of_ble_eq_true rfl) rfl dX9_restore_30 (kpR ?_)
  refine x_callV (K := jX5_become) [.ref (g.2.1 3)] lk_X9_140 ⟨⟨rfl, rfl⟩, Nat.le_of_ble_eq_true rfl, Nat.le_of_ble_eq_true rfl⟩ rfl rfl (mX5_become V isP1 isP3 (by decide) (by decide) (by decide) (by decide) (by decide) (by decide) (by decide)) rfl (Nat.le_of_ble_eq_true rfl) rfl dX9_restore_33 (kdV ?_)
  obtain ⟨U6, eU6⟩ : ∃ v_v : vM, v_v = bc V 1 12 13 3 16 17 := ⟨_, rfl⟩
  refine YY.V eU6.symm ?_
  refine x_aload_n dX9_restore_36 0 rfl ?_
  refine x_aload_n dX9_restore_37 0 rfl ?_
  refine x_getR fl_X9_25 rfl rfl dX9_restore_38 ?_
  refine x_iload_n dX9_restore_41 1 rfl ?_
  have q7 : (0 : Int32) = nI 0 := rfl
  refine YY.S (st' := [.int (nI 0), .ref (g.2.1 5), .ref (g.2.1 0)]) (by rw [q7]) ?_
  have b8 : vp_in (nI 0) 2 := by exact vp_in_nI (by omega) (by decide)
  refine x_iald rfl b8 dX9_restore_42 ?_
  refine x_topi (y := U6 5 0) (by rw [nI_clamp (by omega)]) ?_
  refine x_putI fp_X9_71 rfl rfl dX9_restore_43 ?_
  obtain ⟨U9, eU9⟩ : ∃ v_v : vM, v_v = uM U6 0 11 (U6 5 0) := ⟨_, rfl⟩
  refine YY.V eU9.symm ?_
  refine x_aload_n dX9_restore_46 0 rfl ?_
  refine x_iconst (v := 1) dX9_restore_47 (by decide) ?_
  have z10 : (1 : Int32) = 0 ∨ (1 : Int32) = 1 := by first | exact Or.inl rfl | exact Or.inr rfl | grind
  refine x_putZ fp_X9_75 rfl rfl z10 dX9_restore_48 ?_
  obtain ⟨U11, eU11⟩ : ∃ v_v : vM, v_v = uM U9 0 12 1 := ⟨_, rfl⟩
  refine YY.V eU11.symm ?_
  refine x_aload_n dX9_restore_51 0 rfl ?_
  refine x_getR fl_X9_12 rfl rfl dX9_restore_52 ?_
  refine x_getI fl_X9_104 rfl rfl dX9_restore_55 ?_
  refine x_topi (y := U6 1 2) (by rw [eU11, uM_na (by decide), eU9, uM_na (by decide)]) ?_
  refine x_iret dX9_restore_58 rfl ?_
  rw [hQ]
  subst_vars
  refine ⟨?_, ?_⟩
  · first | rfl | rw [bc_at (by decide) (by decide) (by decide)]
  · first | rw [bc_2 (by decide) (by decide) |>.1] | (rw [uM_na (by decide), uM_na (by decide), (bc_2 (by decide) (by decide)).1]) | rw [(bc_2 (by decide) (by decide)).1]
set_option maxHeartbeats 1000000 in
set_option maxRecDepth 100000 in
theorem mX9_save1 {g : gX} (V : vM) : MM g jX9_save V [.ref (g.2.1 0), .int 1] (dI (uM (bc V 4 18 19 1 12 13) 5 1 (V 0 11)) (V 1 2)) := by
  refine MM.of plX9_save (Nat.le_of_ble_eq_true rfl) ?_
  obtain ⟨Q, hQ⟩ : ∃ Q : Option Value → vM → Prop, Q = (dI (uM (bc V 4 18 19 1 12 13) 5 1 (V 0 11)) (V 1 2)) := ⟨_, rfl⟩
  rw [← hQ]
  show XX g jX9_save Q V 0 [(0, .ref (g.2.1 0)), (1, .int 1)] []
  refine x_iload_n dX9_save_0 1 rfl ?_
  refine x_if_lt 9 dX9_save_1 (by decide) (fun c1 => by exfalso; revert c1; decide) (fun c1 => ?_)
  refine x_iload_n dX9_save_4 1 rfl ?_
  refine x_iconst (v := 2) dX9_save_5 (by decide) ?_
  refine x_icmp_lt 12 dX9_save_6 (by decide) (fun c2 => ?_) (fun c2 => by exfalso; revert c2; decide)
  refine x_aload_n dX9_save_12 0 rfl ?_
  refine x_iload_n dX9_save_13 1 rfl ?_
  refine x_callV (K := jX9_savedIn) [.int 1] lk_X9_287 ⟨⟨rfl, rfl⟩, Nat.le_of_ble_eq_true rfl, Nat.le_of_ble_eq_true rfl⟩ rfl rfl (mX9_savedIn1 V) rfl (Nat.le_of_ble_eq_true rfl) rfl dX9_save_14 (kpR ?_)
  refine x_aload_n dX9_save_17 0 rfl ?_
  refine x_getR fl_X9_12 rfl rfl dX9_save_18 ?_
  refine x_callV (K := jX5_become) [.ref (g.2.1 1)] lk_X9_140 ⟨⟨rfl, rfl⟩, Nat.le_of_ble_eq_true rfl, Nat.le_of_ble_eq_true rfl⟩ rfl rfl (mX5_become V isP4 isP1 (by decide) (by decide) (by decide) (by decide) (by decide) (by decide) (by decide)) rfl (Nat.le_of_ble_eq_true rfl) rfl dX9_save_21 (kdV ?_)
  obtain ⟨U3, eU3⟩ : ∃ v_v : vM, v_v = bc V 4 18 19 1 12 13 := ⟨_, rfl⟩
  refine YY.V eU3.symm ?_
  refine x_aload_n dX9_save_24 0 rfl ?_
  refine x_getR fl_X9_25 rfl rfl dX9_save_25 ?_
  refine x_iload_n dX9_save_28 1 rfl ?_
  refine x_aload_n dX9_save_29 0 rfl ?_
  refine x_getI fl_X9_71 rfl rfl dX9_save_30 ?_
  have q4 : (1 : Int32) = nI 1 := rfl
  refine YY.S (st' := [.int (U3 0 11), .int (nI 1), .ref (g.2.1 5)]) (by rw [q4]) ?_
  have b5 : vp_in (nI 1) 2 := by exact vp_in_nI (by omega) (by decide)
  refine x_iast rfl b5 dX9_save_33 ?_
  refine YY.V (V' := uM U3 5 1 (U3 0 11)) (by rw [nI_clamp (by omega)]) ?_
  obtain ⟨U6, eU6⟩ : ∃ v_v : vM, v_v = uM U3 5 1 (U3 0 11) := ⟨_, rfl⟩
  refine YY.V eU6.symm ?_
  refine x_aload_n dX9_save_34 0 rfl ?_
  refine x_getR fl_X9_12 rfl rfl dX9_save_35 ?_
  refine x_getI fl_X9_104 rfl rfl dX9_save_38 ?_
  refine x_topi (y := U3 1 2) (by rw [eU6, uM_na (by decide)]) ?_
  refine x_iret dX9_save_41 rfl ?_
  rw [hQ]
  subst_vars
  refine ⟨?_, ?_⟩
  · first | rfl | rw [bc_at (by decide) (by decide) (by decide)] | simp only [bc_at, ne_eq, Nat.reduceEqDiff, not_false_eq_true]
  · first | rw [uM_na (by decide), bc_at (by decide) (by decide) (by decide)] | rw [bc_at (by decide) (by decide) (by decide)] | rfl
set_option maxHeartbeats 1000000 in
set_option maxRecDepth 100000 in
theorem mX9_restore1n {g : gX} (V : vM) (hs : V 5 1 = 0) : MM g jX9_restore V [.ref (g.2.1 0), .int 1] (pI V (-1000005)) := by
  refine MM.of plX9_restore (Nat.le_of_ble_eq_true rfl) ?_
  obtain ⟨Q, hQ⟩ : ∃ Q : Option Value → vM → Prop, Q = (pI V (-1000005)) := ⟨_, rfl⟩
  rw [← hQ]
  show XX g jX9_restore Q V 0 [(0, .ref (g.2.1 0)), (1, .int 1)] []
  refine x_iload_n dX9_restore_0 1 rfl ?_
  refine x_if_lt 9 dX9_restore_1 (by decide) (fun c1 => by exfalso; revert c1; decide) (fun c1 => ?_)
  refine x_iload_n dX9_restore_4 1 rfl ?_
  refine x_iconst (v := 2) dX9_restore_5 (by decide) ?_
  refine x_icmp_lt 12 dX9_restore_6 (by decide) (fun c2 => ?_) (fun c2 => by exfalso; revert c2; decide)
  refine x_aload_n dX9_restore_12 0 rfl ?_
  refine x_getR fl_X9_25 rfl rfl dX9_restore_13 ?_
  refine x_iload_n dX9_restore_16 1 rfl ?_
  have q3 : (1 : Int32) = nI 1 := rfl
  refine YY.S (st' := [.int (nI 1), .ref (g.2.1 5)]) (by rw [q3]) ?_
  have b4 : vp_in (nI 1) 2 := by exact vp_in_nI (by omega) (by decide)
  refine x_iald rfl b4 dX9_restore_17 ?_
  refine x_topi (y := V 5 1) (by rw [nI_clamp (by omega)]) ?_
  refine x_if_ne 24 dX9_restore_18 (by decide) (fun c5 => by exfalso; exact c5 hs) (fun c5 => ?_)
  refine x_ldc ct_X9_107 dX9_restore_21 ?_
  refine x_iret dX9_restore_23 rfl ?_
  rw [hQ]
  exact ⟨rfl, rfl⟩
set_option maxHeartbeats 1000000 in
set_option maxRecDepth 100000 in
theorem mX9_restore1 {g : gX} (V : vM) (hs : ¬ V 5 1 = 0) : MM g jX9_restore V [.ref (g.2.1 0), .int 1] (dI (uM (uM (bc V 1 12 13 4 18 19) 0 11 (V 5 1)) 0 12 1) (V 4 2)) := by
  refine MM.of plX9_restore (Nat.le_of_ble_eq_true rfl) ?_
  obtain ⟨Q, hQ⟩ : ∃ Q : Option Value → vM → Prop, Q = (dI (uM (uM (bc V 1 12 13 4 18 19) 0 11 (V 5 1)) 0 12 1) (V 4 2)) := ⟨_, rfl⟩
  rw [← hQ]
  show XX g jX9_restore Q V 0 [(0, .ref (g.2.1 0)), (1, .int 1)] []
  refine x_iload_n dX9_restore_0 1 rfl ?_
  refine x_if_lt 9 dX9_restore_1 (by decide) (fun c1 => by exfalso; revert c1; decide) (fun c1 => ?_)
  refine x_iload_n dX9_restore_4 1 rfl ?_
  refine x_iconst (v := 2) dX9_restore_5 (by decide) ?_
  refine x_icmp_lt 12 dX9_restore_6 (by decide) (fun c2 => ?_) (fun c2 => by exfalso; revert c2; decide)
  refine x_aload_n dX9_restore_12 0 rfl ?_
  refine x_getR fl_X9_25 rfl rfl dX9_restore_13 ?_
  refine x_iload_n dX9_restore_16 1 rfl ?_
  have q3 : (1 : Int32) = nI 1 := rfl
  refine YY.S (st' := [.int (nI 1), .ref (g.2.1 5)]) (by rw [q3]) ?_
  have b4 : vp_in (nI 1) 2 := by exact vp_in_nI (by omega) (by decide)
  refine x_iald rfl b4 dX9_restore_17 ?_
  refine x_topi (y := V 5 1) (by rw [nI_clamp (by omega)]) ?_
  refine x_if_ne 24 dX9_restore_18 (by decide) (fun c5 => ?_) (fun c5 => by exfalso; exact hs c5)
  refine x_aload_n dX9_restore_24 0 rfl ?_
  refine x_getR fl_X9_12 rfl rfl dX9_restore_25 ?_
  refine x_aload_n dX9_restore_28 0 rfl ?_
  refine x_iload_n dX9_restore_29 1 rfl ?_
  refine x_callV (K := jX9_savedIn) [.int 1] lk_X9_287 ⟨⟨rfl, rfl⟩, Nat.le_of_ble_eq_true rfl, Nat.le_of_ble_eq_true rfl⟩ rfl rfl (mX9_savedIn1 V) rfl (Nat.le_of_ble_eq_true rfl) rfl dX9_restore_30 (kpR ?_)
  refine x_callV (K := jX5_become) [.ref (g.2.1 4)] lk_X9_140 ⟨⟨rfl, rfl⟩, Nat.le_of_ble_eq_true rfl, Nat.le_of_ble_eq_true rfl⟩ rfl rfl (mX5_become V isP1 isP4 (by decide) (by decide) (by decide) (by decide) (by decide) (by decide) (by decide)) rfl (Nat.le_of_ble_eq_true rfl) rfl dX9_restore_33 (kdV ?_)
  obtain ⟨U6, eU6⟩ : ∃ v_v : vM, v_v = bc V 1 12 13 4 18 19 := ⟨_, rfl⟩
  refine YY.V eU6.symm ?_
  refine x_aload_n dX9_restore_36 0 rfl ?_
  refine x_aload_n dX9_restore_37 0 rfl ?_
  refine x_getR fl_X9_25 rfl rfl dX9_restore_38 ?_
  refine x_iload_n dX9_restore_41 1 rfl ?_
  have q7 : (1 : Int32) = nI 1 := rfl
  refine YY.S (st' := [.int (nI 1), .ref (g.2.1 5), .ref (g.2.1 0)]) (by rw [q7]) ?_
  have b8 : vp_in (nI 1) 2 := by exact vp_in_nI (by omega) (by decide)
  refine x_iald rfl b8 dX9_restore_42 ?_
  refine x_topi (y := U6 5 1) (by rw [nI_clamp (by omega)]) ?_
  refine x_putI fp_X9_71 rfl rfl dX9_restore_43 ?_
  obtain ⟨U9, eU9⟩ : ∃ v_v : vM, v_v = uM U6 0 11 (U6 5 1) := ⟨_, rfl⟩
  refine YY.V eU9.symm ?_
  refine x_aload_n dX9_restore_46 0 rfl ?_
  refine x_iconst (v := 1) dX9_restore_47 (by decide) ?_
  have z10 : (1 : Int32) = 0 ∨ (1 : Int32) = 1 := by first | exact Or.inl rfl | exact Or.inr rfl | grind
  refine x_putZ fp_X9_75 rfl rfl z10 dX9_restore_48 ?_
  obtain ⟨U11, eU11⟩ : ∃ v_v : vM, v_v = uM U9 0 12 1 := ⟨_, rfl⟩
  refine YY.V eU11.symm ?_
  refine x_aload_n dX9_restore_51 0 rfl ?_
  refine x_getR fl_X9_12 rfl rfl dX9_restore_52 ?_
  refine x_getI fl_X9_104 rfl rfl dX9_restore_55 ?_
  refine x_topi (y := U6 1 2) (by rw [eU11, uM_na (by decide), eU9, uM_na (by decide)]) ?_
  refine x_iret dX9_restore_58 rfl ?_
  rw [hQ]
  subst_vars
  refine ⟨?_, ?_⟩
  · first | rfl | rw [bc_at (by decide) (by decide) (by decide)]
  · first | rw [bc_2 (by decide) (by decide) |>.1] | (rw [uM_na (by decide), uM_na (by decide), (bc_2 (by decide) (by decide)).1]) | rw [(bc_2 (by decide) (by decide)).1]
set_option maxHeartbeats 1000000 in
set_option maxRecDepth 100000 in
theorem mX9_restore_no {g : gX} (V : vM) (sl : Int32) (h : ¬ (0 ≤ sl ∧ sl < 2)) : MM g jX9_restore V [.ref (g.2.1 0), .int sl] (pI V (-1000002)) := by
  refine MM.of plX9_restore (Nat.le_of_ble_eq_true rfl) ?_
  obtain ⟨Q, hQ⟩ : ∃ Q : Option Value → vM → Prop, Q = (pI V (-1000002)) := ⟨_, rfl⟩
  rw [← hQ]
  show XX g jX9_restore Q V 0 [(0, .ref (g.2.1 0)), (1, .int sl)] []
  refine x_iload_n dX9_restore_0 1 rfl ?_
  refine x_if_lt 9 dX9_restore_1 (by decide) (fun c1 => ?_) (fun c1 => ?_)
  · refine x_ldc ct_X9_83 dX9_restore_9 ?_
    refine x_iret dX9_restore_11 rfl ?_
    rw [hQ]
    exact ⟨rfl, rfl⟩
  · refine x_iload_n dX9_restore_4 1 rfl ?_
    refine x_iconst (v := 2) dX9_restore_5 (by decide) ?_
    refine x_icmp_lt 12 dX9_restore_6 (by decide) (fun c2 => by exfalso; exact h ⟨Int32.not_lt.mp (by assumption), c2⟩) (fun c2 => ?_)
    refine x_ldc ct_X9_83 dX9_restore_9 ?_
    refine x_iret dX9_restore_11 rfl ?_
    rw [hQ]
    exact ⟨rfl, rfl⟩
