/-- one vertex more on the class's cells; on the model's -/
def cap (V : vM) (n f : Nat) (c x y d : Int32) : vM := uM (uM (uM (uM (uM (uM V 20 n x) 21 n y) 22 n d) 23 n c) 6 7 (nI (n + 1))) 24 f (nI (n + 1))
def mcap (V : vM) (n : Nat) (x y d : Int32) : vM := uM (uM (uM (uM V 64 n d) 62 n x) 63 n y) 49 32 (nI (n + 1))
def lenI (dx dy : Int32) : Int32 := nI (isq (nsq dx dy))
set_option maxHeartbeats 1000000 in
set_option maxRecDepth 100000 in
theorem mX1_append {g : gX} (V : vM) {n f : Nat} (hn : V 6 7 = nI n) (hf : V 6 8 = nI f) (hb : n < 1536) (hb2 : f ≤ 24) (c x y d : Int32) : MM g jX1_append V [.ref (g.2.1 6), .int c, .int x, .int y, .int d] (dV (cap V n f c x y d)) := by
  refine MM.of plX1_append (Nat.le_of_ble_eq_true rfl) ?_
  obtain ⟨Q, hQ⟩ : ∃ Q : Option Value → vM → Prop, Q = (dV (cap V n f c x y d)) := ⟨_, rfl⟩
  rw [← hQ]
  show XX g jX1_append Q V 0 [(0, .ref (g.2.1 6)), (1, .int c), (2, .int x), (3, .int y), (4, .int d)] []
  refine x_aload_n dX1_append_0 0 rfl ?_
  refine x_getI fl_X1_38 rfl rfl dX1_append_1 ?_
  refine x_topi (hn) ?_
  refine x_sipush (v := 1536) dX1_append_4 (by decide) ?_
  refine x_icmp_lt 11 dX1_append_7 (by decide) (fun c1 => ?_) (fun c1 => by exfalso; exact c1 ((nI_ltI (a := n) (b := 1536) (by omega) (by omega)).mpr hb))
  refine x_aload_n dX1_append_11 0 rfl ?_
  refine x_getR fl_X1_9 rfl rfl dX1_append_12 ?_
  refine x_aload_n dX1_append_15 0 rfl ?_
  refine x_getI fl_X1_38 rfl rfl dX1_append_16 ?_
  refine x_topi (hn) ?_
  refine x_iload_n dX1_append_19 2 rfl ?_
  have b2 : vp_in (nI n) 1536 := by exact vp_in_nI (by omega) (by decide)
  refine x_iast rfl b2 dX1_append_20 ?_
  refine YY.V (V' := uM V 20 n x) (by rw [nI_clamp (by omega)]) ?_
  obtain ⟨U3, eU3⟩ : ∃ v_v : vM, v_v = uM V 20 n x := ⟨_, rfl⟩
  refine YY.V eU3.symm ?_
  refine x_aload_n dX1_append_21 0 rfl ?_
  refine x_getR fl_X1_15 rfl rfl dX1_append_22 ?_
  refine x_aload_n dX1_append_25 0 rfl ?_
  refine x_getI fl_X1_38 rfl rfl dX1_append_26 ?_
  refine x_topi (y := V 6 7) (by rw [eU3, uM_na (by decide)]) ?_
  refine x_topi (hn) ?_
  refine x_iload_n dX1_append_29 3 rfl ?_
  have b4 : vp_in (nI n) 1536 := by exact vp_in_nI (by omega) (by decide)
  refine x_iast rfl b4 dX1_append_30 ?_
  refine YY.V (V' := uM U3 21 n y) (by rw [nI_clamp (by omega)]) ?_
  obtain ⟨U5, eU5⟩ : ∃ v_v : vM, v_v = uM U3 21 n y := ⟨_, rfl⟩
  refine YY.V eU5.symm ?_
  refine x_aload_n dX1_append_31 0 rfl ?_
  refine x_getR fl_X1_18 rfl rfl dX1_append_32 ?_
  refine x_aload_n dX1_append_35 0 rfl ?_
  refine x_getI fl_X1_38 rfl rfl dX1_append_36 ?_
  refine x_topi (y := V 6 7) (by rw [eU5, uM_na (by decide), eU3, uM_na (by decide)]) ?_
  refine x_topi (hn) ?_
  refine x_iload dX1_append_39 4 rfl ?_
  have b6 : vp_in (nI n) 1536 := by exact vp_in_nI (by omega) (by decide)
  refine x_iast rfl b6 dX1_append_41 ?_
  refine YY.V (V' := uM U5 22 n d) (by rw [nI_clamp (by omega)]) ?_
  obtain ⟨U7, eU7⟩ : ∃ v_v : vM, v_v = uM U5 22 n d := ⟨_, rfl⟩
  refine YY.V eU7.symm ?_
  refine x_aload_n dX1_append_42 0 rfl ?_
  refine x_getR fl_X1_21 rfl rfl dX1_append_43 ?_
  refine x_aload_n dX1_append_46 0 rfl ?_
  refine x_getI fl_X1_38 rfl rfl dX1_append_47 ?_
  refine x_topi (y := V 6 7) (by rw [eU7, uM_na (by decide), eU5, uM_na (by decide), eU3, uM_na (by decide)]) ?_
  refine x_topi (hn) ?_
  refine x_iload_n dX1_append_50 1 rfl ?_
  have b8 : vp_in (nI n) 1536 := by exact vp_in_nI (by omega) (by decide)
  refine x_iast rfl b8 dX1_append_51 ?_
  refine YY.V (V' := uM U7 23 n c) (by rw [nI_clamp (by omega)]) ?_
  obtain ⟨U9, eU9⟩ : ∃ v_v : vM, v_v = uM U7 23 n c := ⟨_, rfl⟩
  refine YY.V eU9.symm ?_
  refine x_aload_n dX1_append_52 0 rfl ?_
  refine x_dup dX1_append_53 rfl ?_
  refine x_getI fl_X1_38 rfl rfl dX1_append_54 ?_
  refine x_topi (y := V 6 7) (by rw [eU9, uM_na (by decide), eU7, uM_na (by decide), eU5, uM_na (by decide), eU3, uM_na (by decide)]) ?_
  refine x_topi (hn) ?_
  refine x_iconst (v := 1) dX1_append_57 (by decide) ?_
  refine x_iadd dX1_append_58 ?_
  refine x_putI fp_X1_38 rfl rfl dX1_append_59 ?_
  obtain ⟨U10, eU10⟩ : ∃ v_v : vM, v_v = uM U9 6 7 ((nI n) + 1) := ⟨_, rfl⟩
  refine YY.V eU10.symm ?_
  refine x_aload_n dX1_append_62 0 rfl ?_
  refine x_getR fl_X1_24 rfl rfl dX1_append_63 ?_
  refine x_aload_n dX1_append_66 0 rfl ?_
  refine x_getI fl_X1_42 rfl rfl dX1_append_67 ?_
  refine x_topi (y := V 6 8) (by rw [eU10, uM_ni (by decide), eU9, uM_na (by decide), eU7, uM_na (by decide), eU5, uM_na (by decide), eU3, uM_na (by decide)]) ?_
  refine x_topi (hf) ?_
  refine x_aload_n dX1_append_70 0 rfl ?_
  refine x_getI fl_X1_38 rfl rfl dX1_append_71 ?_
  refine x_topi (y := (nI n) + 1) (by rw [eU10, uM_hit]) ?_
  have b11 : vp_in (nI f) 25 := by exact vp_in_nI (by omega) (by decide)
  refine x_iast rfl b11 dX1_append_74 ?_
  refine YY.V (V' := uM U10 24 f ((nI n) + 1)) (by rw [nI_clamp (by omega)]) ?_
  obtain ⟨U12, eU12⟩ : ∃ v_v : vM, v_v = uM U10 24 f ((nI n) + 1) := ⟨_, rfl⟩
  refine YY.V eU12.symm ?_
  refine x_vret dX1_append_75 rfl ?_
  rw [hQ]
  refine ⟨?_, rfl⟩
  subst_vars
  unfold cap
  rw [← nI_1]
set_option maxHeartbeats 1000000 in
set_option maxRecDepth 100000 in
theorem mX1_beginContour {g : gX} (V : vM) {n f : Nat} (hn : V 6 7 = nI n) (hf : V 6 8 = nI f) (hb : n < 1536) (hb2 : f < 24) (c x y : Int32) : MM g jX1_beginContour V [.ref (g.2.1 6), .int c, .int x, .int y] (dV (cap (uM (uM V 25 f 0) 6 8 (nI (f + 1))) n (f + 1) c x y 0)) := by
  refine MM.of plX1_beginContour (Nat.le_of_ble_eq_true rfl) ?_
  obtain ⟨Q, hQ⟩ : ∃ Q : Option Value → vM → Prop, Q = (dV (cap (uM (uM V 25 f 0) 6 8 (nI (f + 1))) n (f + 1) c x y 0)) := ⟨_, rfl⟩
  rw [← hQ]
  show XX g jX1_beginContour Q V 0 [(0, .ref (g.2.1 6)), (1, .int c), (2, .int x), (3, .int y)] []
  refine x_aload_n dX1_beginContour_0 0 rfl ?_
  refine x_getI fl_X1_42 rfl rfl dX1_beginContour_1 ?_
  refine x_topi (hf) ?_
  refine x_bipush (v := 24) dX1_beginContour_4 (by decide) ?_
  refine x_icmp_lt 10 dX1_beginContour_6 (by decide) (fun c1 => ?_) (fun c1 => by exfalso; exact c1 ((nI_ltI (a := f) (b := 24) (by omega) (by omega)).mpr hb2))
  refine x_aload_n dX1_beginContour_10 0 rfl ?_
  refine x_getR fl_X1_27 rfl rfl dX1_beginContour_11 ?_
  refine x_aload_n dX1_beginContour_14 0 rfl ?_
  refine x_getI fl_X1_42 rfl rfl dX1_beginContour_15 ?_
  refine x_topi (hf) ?_
  refine x_iconst (v := 0) dX1_beginContour_18 (by decide) ?_
  have b2 : vp_in (nI f) 24 := by exact vp_in_nI (by omega) (by decide)
  refine x_zast rfl b2 dX1_beginContour_19 ?_
  refine YY.V (V' := uM V 25 f (vp_nar .boolean 0)) (by rw [nI_clamp (by omega)]) ?_
  obtain ⟨U3, eU3⟩ : ∃ v_v : vM, v_v = uM V 25 f (vp_nar .boolean 0) := ⟨_, rfl⟩
  refine YY.V eU3.symm ?_
  refine x_aload_n dX1_beginContour_20 0 rfl ?_
  refine x_dup dX1_beginContour_21 rfl ?_
  refine x_getI fl_X1_42 rfl rfl dX1_beginContour_22 ?_
  refine x_topi (y := V 6 8) (by rw [eU3, uM_na (by decide)]) ?_
  refine x_topi (hf) ?_
  refine x_iconst (v := 1) dX1_beginContour_25 (by decide) ?_
  refine x_iadd dX1_beginContour_26 ?_
  refine x_putI fp_X1_42 rfl rfl dX1_beginContour_27 ?_
  obtain ⟨U4, eU4⟩ : ∃ v_v : vM, v_v = uM U3 6 8 ((nI f) + 1) := ⟨_, rfl⟩
  refine YY.V eU4.symm ?_
  refine x_aload_n dX1_beginContour_30 0 rfl ?_
  refine x_iload_n dX1_beginContour_31 1 rfl ?_
  refine x_iload_n dX1_beginContour_32 2 rfl ?_
  refine x_iload_n dX1_beginContour_33 3 rfl ?_
  refine x_iconst (v := 0) dX1_beginContour_34 (by decide) ?_
  refine x_callV (K := jX1_append) [.int c, .int x, .int y, .int 0] lk_X1_69 ⟨⟨rfl, rfl⟩, Nat.le_of_ble_eq_true rfl, Nat.le_of_ble_eq_true rfl⟩ rfl rfl (mX1_append U4 (n := n) (f := (f + 1)) (by subst_vars; simp [uM_at, hn]) (by subst_vars; simp [uM_at, nI_1]) (by omega) (by omega) c x y 0) rfl (Nat.le_of_ble_eq_true rfl) rfl dX1_beginContour_35 (kdV ?_)
  obtain ⟨U5, eU5⟩ : ∃ v_v : vM, v_v = cap U4 n (f + 1) c x y 0 := ⟨_, rfl⟩
  refine YY.V eU5.symm ?_
  refine x_vret dX1_beginContour_38 rfl ?_
  rw [hQ]
  refine ⟨?_, rfl⟩
  subst_vars
  rw [← nI_1]
  rfl
set_option maxHeartbeats 1000000 in
set_option maxRecDepth 100000 in
theorem mX1_addVertex {g : gX} (V : vM) {n f : Nat} (hn : V 6 7 = nI n) (hf : V 6 8 = nI f) (h0 : 0 < n) (hb : n < 1536) (hb2 : f ≤ 24) (c x y : Int32) (bx : (x - V 20 (n - 1)).toInt.natAbs ≤ 8000) (by_ : (y - V 21 (n - 1)).toInt.natAbs ≤ 8000) : MM g jX1_addVertex V [.ref (g.2.1 6), .int c, .int x, .int y] (dV (if x - V 20 (n - 1) = 0 ∧ y - V 21 (n - 1) = 0 then V else cap V n f c x y (V 22 (n - 1) + lenI (x - V 20 (n - 1)) (y - V 21 (n - 1))))) := by
  refine MM.of plX1_addVertex (Nat.le_of_ble_eq_true rfl) ?_
  obtain ⟨Q, hQ⟩ : ∃ Q : Option Value → vM → Prop, Q = (dV (if x - V 20 (n - 1) = 0 ∧ y - V 21 (n - 1) = 0 then V else cap V n f c x y (V 22 (n - 1) + lenI (x - V 20 (n - 1)) (y - V 21 (n - 1))))) := ⟨_, rfl⟩
  rw [← hQ]
  show XX g jX1_addVertex Q V 0 [(0, .ref (g.2.1 6)), (1, .int c), (2, .int x), (3, .int y)] []
  refine x_aload_n dX1_addVertex_0 0 rfl ?_
  refine x_getI fl_X1_38 rfl rfl dX1_addVertex_1 ?_
  refine x_topi (hn) ?_
  refine x_iconst (v := 1) dX1_addVertex_4 (by decide) ?_
  refine x_icmp_ge 9 dX1_addVertex_5 (by decide) (fun c1 => ?_) (fun c1 => by exfalso; exact c1 ((nI_leI (a := 1) (b := n) (by omega) (by omega)).mpr (by omega)))
  refine x_iload_n dX1_addVertex_9 2 rfl ?_
  refine x_aload_n dX1_addVertex_10 0 rfl ?_
  refine x_getR fl_X1_9 rfl rfl dX1_addVertex_11 ?_
  refine x_aload_n dX1_addVertex_14 0 rfl ?_
  refine x_getI fl_X1_38 rfl rfl dX1_addVertex_15 ?_
  refine x_topi (hn) ?_
  refine x_iconst (v := 1) dX1_addVertex_18 (by decide) ?_
  refine x_isub dX1_addVertex_19 ?_
  have q2 : ((nI n) - 1 : Int32) = nI (n - 1) := nsub (by omega) (rfl) (rfl)
  refine YY.S (st' := [.int (nI (n - 1)), .ref (g.2.1 20), .int x]) (by rw [q2]) ?_
  have b3 : vp_in (nI (n - 1)) 1536 := by exact vp_in_nI (by omega) (by decide)
  refine x_iald rfl b3 dX1_addVertex_20 ?_
  refine x_topi (y := V 20 (n - 1)) (by rw [nI_clamp (by omega)]) ?_
  refine x_isub dX1_addVertex_21 ?_
  refine x_istore 4 [(4, .int (x - (V 20 (n - 1)))), (0, .ref (g.2.1 6)), (1, .int c), (2, .int x), (3, .int y)] dX1_addVertex_22 (by decide) rfl ?_
  refine x_iload_n dX1_addVertex_24 4 rfl ?_
  refine x_aload_n dX1_addVertex_25 1 rfl ?_
  refine x_getR fl_X1_15 rfl rfl dX1_addVertex_26 ?_
  refine x_aload_n dX1_addVertex_29 1 rfl ?_
  refine x_getI fl_X1_38 rfl rfl dX1_addVertex_30 ?_
  refine x_topi (hn) ?_
  refine x_iconst (v := 1) dX1_addVertex_33 (by decide) ?_
  refine x_isub dX1_addVertex_34 ?_
  have q4 : ((nI n) - 1 : Int32) = nI (n - 1) := nsub (by omega) (rfl) (rfl)
  refine YY.S (st' := [.int (nI (n - 1)), .ref (g.2.1 21), .int y]) (by rw [q4]) ?_
  have b5 : vp_in (nI (n - 1)) 1536 := by exact vp_in_nI (by omega) (by decide)
  refine x_iald rfl b5 dX1_addVertex_35 ?_
  refine x_topi (y := V 21 (n - 1)) (by rw [nI_clamp (by omega)]) ?_
  refine x_isub dX1_addVertex_36 ?_
  refine x_istore 5 [(5, .int (y - (V 21 (n - 1)))), (4, .int (x - (V 20 (n - 1)))), (0, .ref (g.2.1 6)), (1, .int c), (2, .int x), (3, .int y)] dX1_addVertex_37 (by decide) rfl ?_
  refine x_iload dX1_addVertex_39 1 rfl ?_
  refine x_if_ne 49 dX1_addVertex_41 (by decide) (fun c6 => ?_) (fun c6 => ?_)
  · refine x_aload_n dX1_addVertex_49 2 rfl ?_
    refine x_iload_n dX1_addVertex_50 3 rfl ?_
    refine x_iload_n dX1_addVertex_51 4 rfl ?_
    refine x_iload_n dX1_addVertex_52 5 rfl ?_
    refine x_aload_n dX1_addVertex_53 2 rfl ?_
    refine x_getR fl_X1_18 rfl rfl dX1_addVertex_54 ?_
    refine x_aload_n dX1_addVertex_57 2 rfl ?_
    refine x_getI fl_X1_38 rfl rfl dX1_addVertex_58 ?_
    refine x_topi (hn) ?_
    refine x_iconst (v := 1) dX1_addVertex_61 (by decide) ?_
    refine x_isub dX1_addVertex_62 ?_
    have q7 : ((nI n) - 1 : Int32) = nI (n - 1) := nsub (by omega) (rfl) (rfl)
    refine YY.S (st' := [.int (nI (n - 1)), .ref (g.2.1 22), .int y, .int x, .int c, .ref (g.2.1 6)]) (by rw [q7]) ?_
    have b8 : vp_in (nI (n - 1)) 1536 := by exact vp_in_nI (by omega) (by decide)
    refine x_iald rfl b8 dX1_addVertex_63 ?_
    refine x_topi (y := V 22 (n - 1)) (by rw [nI_clamp (by omega)]) ?_
    refine x_iload dX1_addVertex_64 1 rfl ?_
    refine x_iload dX1_addVertex_66 0 rfl ?_
    refine x_callS (K := jX1_segmentLength) [.int (x - (V 20 (n - 1))), .int (y - (V 21 (n - 1)))] lk_X1_95 ⟨⟨rfl, rfl⟩, Nat.le_of_ble_eq_true rfl, Nat.le_of_ble_eq_true rfl⟩ (mX1_segmentLength V (x - (V 20 (n - 1))) (y - (V 21 (n - 1))) (by assumption) (by assumption)) rfl (Nat.le_of_ble_eq_true rfl) rfl dX1_addVertex_68 (kpI ?_)
    refine x_iadd dX1_addVertex_71 ?_
    refine x_callV (K := jX1_append) [.int c, .int x, .int y, .int ((V 22 (n - 1)) + (lenI (x - (V 20 (n - 1))) (y - (V 21 (n - 1)))))] lk_X1_69 ⟨⟨rfl, rfl⟩, Nat.le_of_ble_eq_true rfl, Nat.le_of_ble_eq_true rfl⟩ rfl rfl (mX1_append V (n := n) (f := f) hn hf (by omega) (by omega) c x y ((V 22 (n - 1)) + (lenI (x - (V 20 (n - 1))) (y - (V 21 (n - 1)))))) rfl (Nat.le_of_ble_eq_true rfl) rfl dX1_addVertex_72 (kdV ?_)
    obtain ⟨U9, eU9⟩ : ∃ v_v : vM, v_v = cap V n f c x y ((V 22 (n - 1)) + (lenI (x - (V 20 (n - 1))) (y - (V 21 (n - 1))))) := ⟨_, rfl⟩
    refine YY.V eU9.symm ?_
    refine x_vret dX1_addVertex_75 rfl ?_
    rw [hQ]
    refine ⟨?_, rfl⟩
    first | rw [if_pos ⟨by assumption, by assumption⟩] | (rw [if_neg (fun q => absurd q.1 (by assumption))]; subst_vars; rfl) | (rw [if_neg (fun q => absurd q.2 (by assumption))]; subst_vars; rfl)
  · refine x_iload dX1_addVertex_44 0 rfl ?_
    refine x_if_eq 75 dX1_addVertex_46 (by decide) (fun c10 => ?_) (fun c10 => ?_)
    · refine x_vret dX1_addVertex_75 rfl ?_
      rw [hQ]
      refine ⟨?_, rfl⟩
      first | rw [if_pos ⟨by assumption, by assumption⟩] | (rw [if_neg (fun q => absurd q.1 (by assumption))]; subst_vars; rfl) | (rw [if_neg (fun q => absurd q.2 (by assumption))]; subst_vars; rfl)
    · refine x_aload_n dX1_addVertex_49 2 rfl ?_
      refine x_iload_n dX1_addVertex_50 3 rfl ?_
      refine x_iload_n dX1_addVertex_51 4 rfl ?_
      refine x_iload_n dX1_addVertex_52 5 rfl ?_
      refine x_aload_n dX1_addVertex_53 2 rfl ?_
      refine x_getR fl_X1_18 rfl rfl dX1_addVertex_54 ?_
      refine x_aload_n dX1_addVertex_57 2 rfl ?_
      refine x_getI fl_X1_38 rfl rfl dX1_addVertex_58 ?_
      refine x_topi (hn) ?_
      refine x_iconst (v := 1) dX1_addVertex_61 (by decide) ?_
      refine x_isub dX1_addVertex_62 ?_
      have q11 : ((nI n) - 1 : Int32) = nI (n - 1) := nsub (by omega) (rfl) (rfl)
      refine YY.S (st' := [.int (nI (n - 1)), .ref (g.2.1 22), .int y, .int x, .int c, .ref (g.2.1 6)]) (by rw [q11]) ?_
      have b12 : vp_in (nI (n - 1)) 1536 := by exact vp_in_nI (by omega) (by decide)
      refine x_iald rfl b12 dX1_addVertex_63 ?_
      refine x_topi (y := V 22 (n - 1)) (by rw [nI_clamp (by omega)]) ?_
      refine x_iload dX1_addVertex_64 1 rfl ?_
      refine x_iload dX1_addVertex_66 0 rfl ?_
      refine x_callS (K := jX1_segmentLength) [.int (x - (V 20 (n - 1))), .int (y - (V 21 (n - 1)))] lk_X1_95 ⟨⟨rfl, rfl⟩, Nat.le_of_ble_eq_true rfl, Nat.le_of_ble_eq_true rfl⟩ (mX1_segmentLength V (x - (V 20 (n - 1))) (y - (V 21 (n - 1))) (by assumption) (by assumption)) rfl (Nat.le_of_ble_eq_true rfl) rfl dX1_addVertex_68 (kpI ?_)
      refine x_iadd dX1_addVertex_71 ?_
      refine x_callV (K := jX1_append) [.int c, .int x, .int y, .int ((V 22 (n - 1)) + (lenI (x - (V 20 (n - 1))) (y - (V 21 (n - 1)))))] lk_X1_69 ⟨⟨rfl, rfl⟩, Nat.le_of_ble_eq_true rfl, Nat.le_of_ble_eq_true rfl⟩ rfl rfl (mX1_append V (n := n) (f := f) hn hf (by omega) (by omega) c x y ((V 22 (n - 1)) + (lenI (x - (V 20 (n - 1))) (y - (V 21 (n - 1)))))) rfl (Nat.le_of_ble_eq_true rfl) rfl dX1_addVertex_72 (kdV ?_)
      obtain ⟨U13, eU13⟩ : ∃ v_v : vM, v_v = cap V n f c x y ((V 22 (n - 1)) + (lenI (x - (V 20 (n - 1))) (y - (V 21 (n - 1))))) := ⟨_, rfl⟩
      refine YY.V eU13.symm ?_
      refine x_vret dX1_addVertex_75 rfl ?_
      rw [hQ]
      refine ⟨?_, rfl⟩
      first | rw [if_pos ⟨by assumption, by assumption⟩] | (rw [if_neg (fun q => absurd q.1 (by assumption))]; subst_vars; rfl) | (rw [if_neg (fun q => absurd q.2 (by assumption))]; subst_vars; rfl)
set_option maxHeartbeats 1000000 in
set_option maxRecDepth 100000 in
theorem mX10_addVertex {g : gX} (V : vM) {n f b : Nat} (hn : V 49 32 = nI n) (hf : V 49 34 = nI f) (h1 : 1 ≤ f) (hf2 : f ≤ 24) (hb : V 65 (f - 1) = nI b) (hbn : b ≤ n) (hn2 : n < 1700) (c : Nat) (hc : c < 24) (x y : Int32) (hxy : b < n → (x - V 62 (n - 1)).toInt.natAbs ≤ 8000 ∧ (y - V 63 (n - 1)).toInt.natAbs ≤ 8000) : MM g jX10_addVertex V [.ref (g.2.1 49), .int (nI c), .int x, .int y] (dV (if b < n then (if x - V 62 (n - 1) = 0 ∧ y - V 63 (n - 1) = 0 then V else mcap (uM V 66 c (V 66 c + lenI (x - V 62 (n - 1)) (y - V 63 (n - 1)))) n x y (V 64 (n - 1) + lenI (x - V 62 (n - 1)) (y - V 63 (n - 1)))) else mcap V n x y 0)) := by
  refine MM.of plX10_addVertex (Nat.le_of_ble_eq_true rfl) ?_
  obtain ⟨Q, hQ⟩ : ∃ Q : Option Value → vM → Prop, Q = (dV (if b < n then (if x - V 62 (n - 1) = 0 ∧ y - V 63 (n - 1) = 0 then V else mcap (uM V 66 c (V 66 c + lenI (x - V 62 (n - 1)) (y - V 63 (n - 1)))) n x y (V 64 (n - 1) + lenI (x - V 62 (n - 1)) (y - V 63 (n - 1)))) else mcap V n x y 0)) := ⟨_, rfl⟩
  rw [← hQ]
  show XX g jX10_addVertex Q V 0 [(0, .ref (g.2.1 49)), (1, .int (nI c)), (2, .int x), (3, .int y)] []
  refine x_aload_n dX10_addVertex_0 0 rfl ?_
  refine x_getI fl_X10_208 rfl rfl dX10_addVertex_1 ?_
  refine x_topi (hn) ?_
  refine x_iconst (v := 1) dX10_addVertex_4 (by decide) ?_
  refine x_isub dX10_addVertex_5 ?_
  refine x_istore 4 [(4, .int ((nI n) - 1)), (0, .ref (g.2.1 49)), (1, .int (nI c)), (2, .int x), (3, .int y)] dX10_addVertex_6 (by decide) rfl ?_
  refine x_aload_n dX10_addVertex_8 1 rfl ?_
  refine x_getI fl_X10_208 rfl rfl dX10_addVertex_9 ?_
  refine x_topi (hn) ?_
  refine x_aload_n dX10_addVertex_12 1 rfl ?_
  refine x_getR fl_X10_56 rfl rfl dX10_addVertex_13 ?_
  refine x_aload_n dX10_addVertex_16 1 rfl ?_
  refine x_getI fl_X10_211 rfl rfl dX10_addVertex_17 ?_
  refine x_topi (hf) ?_
  refine x_iconst (v := 1) dX10_addVertex_20 (by decide) ?_
  refine x_isub dX10_addVertex_21 ?_
  have q1 : ((nI f) - 1 : Int32) = nI (f - 1) := nsub (by omega) (rfl) (rfl)
  refine YY.S (st' := [.int (nI (f - 1)), .ref (g.2.1 65), .int (nI n)]) (by rw [q1]) ?_
  have b2 : vp_in (nI (f - 1)) 26 := by exact vp_in_nI (by omega) (by decide)
  refine x_iald rfl b2 dX10_addVertex_22 ?_
  refine x_topi (y := V 65 (f - 1)) (by rw [nI_clamp (by omega)]) ?_
  refine x_topi (hb) ?_
  refine x_icmp_le 118 dX10_addVertex_23 (by decide) (fun c3 => ?_) (fun c3 => ?_)
  · have c3n : n ≤ b := (nl_le (a := n) (b := b) (rfl) (rfl) (by omega) (by omega)).mp c3
    refine x_aload_n dX10_addVertex_118 1 rfl ?_
    refine x_getR fl_X10_53 rfl rfl dX10_addVertex_119 ?_
    refine x_aload_n dX10_addVertex_122 1 rfl ?_
    refine x_getI fl_X10_208 rfl rfl dX10_addVertex_123 ?_
    refine x_topi (hn) ?_
    refine x_iconst (v := 0) dX10_addVertex_126 (by decide) ?_
    have b4 : vp_in (nI n) 1700 := by exact vp_in_nI (by omega) (by decide)
    refine x_iast rfl b4 dX10_addVertex_127 ?_
    refine YY.V (V' := uM V 64 n 0) (by rw [nI_clamp (by omega)]) ?_
    obtain ⟨U5, eU5⟩ : ∃ v_v : vM, v_v = uM V 64 n 0 := ⟨_, rfl⟩
    refine YY.V eU5.symm ?_
    refine x_aload_n dX10_addVertex_128 1 rfl ?_
    refine x_getR fl_X10_47 rfl rfl dX10_addVertex_129 ?_
    refine x_aload_n dX10_addVertex_132 1 rfl ?_
    refine x_getI fl_X10_208 rfl rfl dX10_addVertex_133 ?_
    refine x_topi (y := V 49 32) (by rw [eU5, uM_na (by decide)]) ?_
    refine x_topi (hn) ?_
    refine x_iload_n dX10_addVertex_136 3 rfl ?_
    have b6 : vp_in (nI n) 1700 := by exact vp_in_nI (by omega) (by decide)
    refine x_iast rfl b6 dX10_addVertex_137 ?_
    refine YY.V (V' := uM U5 62 n x) (by rw [nI_clamp (by omega)]) ?_
    obtain ⟨U7, eU7⟩ : ∃ v_v : vM, v_v = uM U5 62 n x := ⟨_, rfl⟩
    refine YY.V eU7.symm ?_
    refine x_aload_n dX10_addVertex_138 1 rfl ?_
    refine x_getR fl_X10_50 rfl rfl dX10_addVertex_139 ?_
    refine x_aload_n dX10_addVertex_142 1 rfl ?_
    refine x_getI fl_X10_208 rfl rfl dX10_addVertex_143 ?_
    refine x_topi (y := V 49 32) (by rw [eU7, uM_na (by decide), eU5, uM_na (by decide)]) ?_
    refine x_topi (hn) ?_
    refine x_iload_n dX10_addVertex_146 4 rfl ?_
    have b8 : vp_in (nI n) 1700 := by exact vp_in_nI (by omega) (by decide)
    refine x_iast rfl b8 dX10_addVertex_147 ?_
    refine YY.V (V' := uM U7 63 n y) (by rw [nI_clamp (by omega)]) ?_
    obtain ⟨U9, eU9⟩ : ∃ v_v : vM, v_v = uM U7 63 n y := ⟨_, rfl⟩
    refine YY.V eU9.symm ?_
    refine x_aload_n dX10_addVertex_148 1 rfl ?_
    refine x_dup dX10_addVertex_149 rfl ?_
    refine x_getI fl_X10_208 rfl rfl dX10_addVertex_150 ?_
    refine x_topi (y := V 49 32) (by rw [eU9, uM_na (by decide), eU7, uM_na (by decide), eU5, uM_na (by decide)]) ?_
    refine x_topi (hn) ?_
    refine x_iconst (v := 1) dX10_addVertex_153 (by decide) ?_
    refine x_iadd dX10_addVertex_154 ?_
    refine x_putI fp_X10_208 rfl rfl dX10_addVertex_155 ?_
    obtain ⟨U10, eU10⟩ : ∃ v_v : vM, v_v = uM U9 49 32 ((nI n) + 1) := ⟨_, rfl⟩
    refine YY.V eU10.symm ?_
    refine x_vret dX10_addVertex_158 rfl ?_
    rw [hQ]
    refine ⟨?_, rfl⟩
    first | (rw [if_neg (by omega)]; subst_vars; simp only [nI_1, mcap]; done) | (rw [if_pos (by omega), if_pos ⟨i64z (by assumption), i64z (by assumption)⟩]) | (rw [if_pos (by omega), if_neg (fun q => absurd (i64z0 q.1) (by assumption))]; subst_vars; simp only [nI_1, mcap]; done) | (rw [if_pos (by omega), if_neg (fun q => absurd (i64z0 q.2) (by assumption))]; subst_vars; simp only [nI_1, mcap]; done)
  · have c3n : b < n := Nat.not_le.mp (fun q => c3 ((nl_le (a := n) (b := b) (rfl) (rfl) (by omega) (by omega)).mpr q))
    refine x_iload_n dX10_addVertex_26 3 rfl ?_
    refine x_aload_n dX10_addVertex_27 1 rfl ?_
    refine x_getR fl_X10_47 rfl rfl dX10_addVertex_28 ?_
    refine x_iload dX10_addVertex_31 0 rfl ?_
    have q11 : ((nI n) - 1 : Int32) = nI (n - 1) := nsub (by omega) (rfl) (rfl)
    refine YY.S (st' := [.int (nI (n - 1)), .ref (g.2.1 62), .int x]) (by rw [q11]) ?_
    have b12 : vp_in (nI (n - 1)) 1700 := by exact vp_in_nI (by omega) (by decide)
    refine x_iald rfl b12 dX10_addVertex_33 ?_
    refine x_topi (y := V 62 (n - 1)) (by rw [nI_clamp (by omega)]) ?_
    refine x_isub dX10_addVertex_34 ?_
    refine x_i2l dX10_addVertex_35 ?_
    refine x_lstore 5 [(5, .long ((x - (V 62 (n - 1))).toInt64)), (4, .int ((nI n) - 1)), (0, .ref (g.2.1 49)), (1, .int (nI c)), (2, .int x), (3, .int y)] dX10_addVertex_36 (by decide) rfl ?_
    refine x_iload_n dX10_addVertex_38 5 rfl ?_
    refine x_aload_n dX10_addVertex_39 2 rfl ?_
    refine x_getR fl_X10_50 rfl rfl dX10_addVertex_40 ?_
    refine x_iload dX10_addVertex_43 1 rfl ?_
    have q13 : ((nI n) - 1 : Int32) = nI (n - 1) := nsub (by omega) (rfl) (rfl)
    refine YY.S (st' := [.int (nI (n - 1)), .ref (g.2.1 63), .int y]) (by rw [q13]) ?_
    have b14 : vp_in (nI (n - 1)) 1700 := by exact vp_in_nI (by omega) (by decide)
    refine x_iald rfl b14 dX10_addVertex_45 ?_
    refine x_topi (y := V 63 (n - 1)) (by rw [nI_clamp (by omega)]) ?_
    refine x_isub dX10_addVertex_46 ?_
    refine x_i2l dX10_addVertex_47 ?_
    refine x_lstore 7 [(7, .long ((y - (V 63 (n - 1))).toInt64)), (5, .long ((x - (V 62 (n - 1))).toInt64)), (4, .int ((nI n) - 1)), (0, .ref (g.2.1 49)), (1, .int (nI c)), (2, .int x), (3, .int y)] dX10_addVertex_48 (by decide) rfl ?_
    refine x_lload dX10_addVertex_50 1 rfl ?_
    refine x_lconst (v := 0) dX10_addVertex_52 (by decide) ?_
    refine x_lcmp dX10_addVertex_53 ?_
    refine x_if_ne 65 dX10_addVertex_54 (by decide) (fun c15 => ?_) (fun c15 => ?_)
    · have c15n : ¬ (((x - (V 62 (n - 1))).toInt64) = 0) := fun q => c15 (lgc_eq.mpr q)
      refine x_ldc2 ct_X10_214 dX10_addVertex_65 ?_
      refine x_lload dX10_addVertex_68 1 rfl ?_
      refine x_lload dX10_addVertex_70 1 rfl ?_
      refine x_lmul dX10_addVertex_72 ?_
      refine x_lload dX10_addVertex_73 0 rfl ?_
      refine x_lload dX10_addVertex_75 0 rfl ?_
      refine x_lmul dX10_addVertex_77 ?_
      refine x_ladd dX10_addVertex_78 ?_
      refine x_lmul dX10_addVertex_79 ?_
      obtain ⟨hq1, hq2⟩ := sq64 (hxy (by omega)).1 (hxy (by omega)).2
      refine x_callS (K := jX10_root) [.long (256 * ((((x - (V 62 (n - 1))).toInt64) * ((x - (V 62 (n - 1))).toInt64)) + (((y - (V 63 (n - 1))).toInt64) * ((y - (V 63 (n - 1))).toInt64))))] lk_X10_216 ⟨⟨rfl, rfl⟩, Nat.le_of_ble_eq_true rfl, Nat.le_of_ble_eq_true rfl⟩ (by have := mX10_root (g := g) V _ hq2; rw [← hq1] at this; exact this) rfl (Nat.le_of_ble_eq_true rfl) rfl dX10_addVertex_80 (kpI ?_)
      refine x_istore 9 [(9, .int (lenI (x - V 62 (n - 1)) (y - V 63 (n - 1)))), (7, .long ((y - (V 63 (n - 1))).toInt64)), (5, .long ((x - (V 62 (n - 1))).toInt64)), (4, .int ((nI n) - 1)), (0, .ref (g.2.1 49)), (1, .int (nI c)), (2, .int x), (3, .int y)] dX10_addVertex_83 (by decide) rfl ?_
      refine x_aload_n dX10_addVertex_85 4 rfl ?_
      refine x_getR fl_X10_59 rfl rfl dX10_addVertex_86 ?_
      refine x_iload_n dX10_addVertex_89 5 rfl ?_
      refine x_dup2 dX10_addVertex_90 rfl rfl ?_
      have b16 : vp_in (nI c) 24 := by exact vp_in_nI (by omega) (by decide)
      refine x_iald rfl b16 dX10_addVertex_91 ?_
      refine x_topi (y := V 66 c) (by rw [nI_clamp (by omega)]) ?_
      refine x_iload dX10_addVertex_92 0 rfl ?_
      refine x_iadd dX10_addVertex_94 ?_
      have b17 : vp_in (nI c) 24 := by exact vp_in_nI (by omega) (by decide)
      refine x_iast rfl b17 dX10_addVertex_95 ?_
      refine YY.V (V' := uM V 66 c ((V 66 c) + (lenI (x - V 62 (n - 1)) (y - V 63 (n - 1))))) (by rw [nI_clamp (by omega)]) ?_
      obtain ⟨U18, eU18⟩ : ∃ v_v : vM, v_v = uM V 66 c ((V 66 c) + (lenI (x - V 62 (n - 1)) (y - V 63 (n - 1)))) := ⟨_, rfl⟩
      refine YY.V eU18.symm ?_
      refine x_aload_n dX10_addVertex_96 4 rfl ?_
      refine x_getR fl_X10_53 rfl rfl dX10_addVertex_97 ?_
      refine x_aload_n dX10_addVertex_100 4 rfl ?_
      refine x_getI fl_X10_208 rfl rfl dX10_addVertex_101 ?_
      refine x_topi (y := V 49 32) (by rw [eU18, uM_na (by decide)]) ?_
      refine x_topi (hn) ?_
      refine x_aload_n dX10_addVertex_104 4 rfl ?_
      refine x_getR fl_X10_53 rfl rfl dX10_addVertex_105 ?_
      refine x_iload dX10_addVertex_108 3 rfl ?_
      have q19 : ((nI n) - 1 : Int32) = nI (n - 1) := nsub (by omega) (rfl) (rfl)
      refine YY.S (st' := [.int (nI (n - 1)), .ref (g.2.1 64), .int (nI n), .ref (g.2.1 64)]) (by rw [q19]) ?_
      have b20 : vp_in (nI (n - 1)) 1700 := by exact vp_in_nI (by omega) (by decide)
      refine x_iald rfl b20 dX10_addVertex_110 ?_
      refine x_topi (y := U18 64 (n - 1)) (by rw [nI_clamp (by omega)]) ?_
      refine x_topi (y := V 64 (n - 1)) (by rw [eU18, uM_na (by decide)]) ?_
      refine x_iload dX10_addVertex_111 0 rfl ?_
      refine x_iadd dX10_addVertex_113 ?_
      have b21 : vp_in (nI n) 1700 := by exact vp_in_nI (by omega) (by decide)
      refine x_iast rfl b21 dX10_addVertex_114 ?_
      refine YY.V (V' := uM U18 64 n ((V 64 (n - 1)) + (lenI (x - V 62 (n - 1)) (y - V 63 (n - 1))))) (by rw [nI_clamp (by omega)]) ?_
      obtain ⟨U22, eU22⟩ : ∃ v_v : vM, v_v = uM U18 64 n ((V 64 (n - 1)) + (lenI (x - V 62 (n - 1)) (y - V 63 (n - 1)))) := ⟨_, rfl⟩
      refine YY.V eU22.symm ?_
      refine x_goto 128 dX10_addVertex_115 (by decide) ?_
      refine x_aload_n dX10_addVertex_128 4 rfl ?_
      refine x_getR fl_X10_47 rfl rfl dX10_addVertex_129 ?_
      refine x_aload_n dX10_addVertex_132 4 rfl ?_
      refine x_getI fl_X10_208 rfl rfl dX10_addVertex_133 ?_
      refine x_topi (y := V 49 32) (by rw [eU22, uM_na (by decide), eU18, uM_na (by decide)]) ?_
      refine x_topi (hn) ?_
      refine x_iload_n dX10_addVertex_136 6 rfl ?_
      have b23 : vp_in (nI n) 1700 := by exact vp_in_nI (by omega) (by decide)
      refine x_iast rfl b23 dX10_addVertex_137 ?_
      refine YY.V (V' := uM U22 62 n x) (by rw [nI_clamp (by omega)]) ?_
      obtain ⟨U24, eU24⟩ : ∃ v_v : vM, v_v = uM U22 62 n x := ⟨_, rfl⟩
      refine YY.V eU24.symm ?_
      refine x_aload_n dX10_addVertex_138 4 rfl ?_
      refine x_getR fl_X10_50 rfl rfl dX10_addVertex_139 ?_
      refine x_aload_n dX10_addVertex_142 4 rfl ?_
      refine x_getI fl_X10_208 rfl rfl dX10_addVertex_143 ?_
      refine x_topi (y := V 49 32) (by rw [eU24, uM_na (by decide), eU22, uM_na (by decide), eU18, uM_na (by decide)]) ?_
      refine x_topi (hn) ?_
      refine x_iload_n dX10_addVertex_146 7 rfl ?_
      have b25 : vp_in (nI n) 1700 := by exact vp_in_nI (by omega) (by decide)
      refine x_iast rfl b25 dX10_addVertex_147 ?_
      refine YY.V (V' := uM U24 63 n y) (by rw [nI_clamp (by omega)]) ?_
      obtain ⟨U26, eU26⟩ : ∃ v_v : vM, v_v = uM U24 63 n y := ⟨_, rfl⟩
      refine YY.V eU26.symm ?_
      refine x_aload_n dX10_addVertex_148 4 rfl ?_
      refine x_dup dX10_addVertex_149 rfl ?_
      refine x_getI fl_X10_208 rfl rfl dX10_addVertex_150 ?_
      refine x_topi (y := V 49 32) (by rw [eU26, uM_na (by decide), eU24, uM_na (by decide), eU22, uM_na (by decide), eU18, uM_na (by decide)]) ?_
      refine x_topi (hn) ?_
      refine x_iconst (v := 1) dX10_addVertex_153 (by decide) ?_
      refine x_iadd dX10_addVertex_154 ?_
      refine x_putI fp_X10_208 rfl rfl dX10_addVertex_155 ?_
      obtain ⟨U27, eU27⟩ : ∃ v_v : vM, v_v = uM U26 49 32 ((nI n) + 1) := ⟨_, rfl⟩
      refine YY.V eU27.symm ?_
      refine x_vret dX10_addVertex_158 rfl ?_
      rw [hQ]
      refine ⟨?_, rfl⟩
      first | (rw [if_neg (by omega)]; subst_vars; simp only [nI_1, mcap]; done) | (rw [if_pos (by omega), if_pos ⟨i64z (by assumption), i64z (by assumption)⟩]) | (rw [if_pos (by omega), if_neg (fun q => absurd (i64z0 q.1) (by assumption))]; subst_vars; simp only [nI_1, mcap]; done) | (rw [if_pos (by omega), if_neg (fun q => absurd (i64z0 q.2) (by assumption))]; subst_vars; simp only [nI_1, mcap]; done)
    · have c15n : ((x - (V 62 (n - 1))).toInt64) = 0 := lgc_eq.mp c15
      refine x_lload dX10_addVertex_57 0 rfl ?_
      refine x_lconst (v := 0) dX10_addVertex_59 (by decide) ?_
      refine x_lcmp dX10_addVertex_60 ?_
      refine x_if_ne 65 dX10_addVertex_61 (by decide) (fun c28 => ?_) (fun c28 => ?_)
      · have c28n : ¬ (((y - (V 63 (n - 1))).toInt64) = 0) := fun q => c28 (lgc_eq.mpr q)
        refine x_ldc2 ct_X10_214 dX10_addVertex_65 ?_
        refine x_lload dX10_addVertex_68 1 rfl ?_
        refine x_lload dX10_addVertex_70 1 rfl ?_
        refine x_lmul dX10_addVertex_72 ?_
        refine x_lload dX10_addVertex_73 0 rfl ?_
        refine x_lload dX10_addVertex_75 0 rfl ?_
        refine x_lmul dX10_addVertex_77 ?_
        refine x_ladd dX10_addVertex_78 ?_
        refine x_lmul dX10_addVertex_79 ?_
        obtain ⟨hq1, hq2⟩ := sq64 (hxy (by omega)).1 (hxy (by omega)).2
        refine x_callS (K := jX10_root) [.long (256 * ((((x - (V 62 (n - 1))).toInt64) * ((x - (V 62 (n - 1))).toInt64)) + (((y - (V 63 (n - 1))).toInt64) * ((y - (V 63 (n - 1))).toInt64))))] lk_X10_216 ⟨⟨rfl, rfl⟩, Nat.le_of_ble_eq_true rfl, Nat.le_of_ble_eq_true rfl⟩ (by have := mX10_root (g := g) V _ hq2; rw [← hq1] at this; exact this) rfl (Nat.le_of_ble_eq_true rfl) rfl dX10_addVertex_80 (kpI ?_)
        refine x_istore 9 [(9, .int (lenI (x - V 62 (n - 1)) (y - V 63 (n - 1)))), (7, .long ((y - (V 63 (n - 1))).toInt64)), (5, .long ((x - (V 62 (n - 1))).toInt64)), (4, .int ((nI n) - 1)), (0, .ref (g.2.1 49)), (1, .int (nI c)), (2, .int x), (3, .int y)] dX10_addVertex_83 (by decide) rfl ?_
        refine x_aload_n dX10_addVertex_85 4 rfl ?_
        refine x_getR fl_X10_59 rfl rfl dX10_addVertex_86 ?_
        refine x_iload_n dX10_addVertex_89 5 rfl ?_
        refine x_dup2 dX10_addVertex_90 rfl rfl ?_
        have b29 : vp_in (nI c) 24 := by exact vp_in_nI (by omega) (by decide)
        refine x_iald rfl b29 dX10_addVertex_91 ?_
        refine x_topi (y := V 66 c) (by rw [nI_clamp (by omega)]) ?_
        refine x_iload dX10_addVertex_92 0 rfl ?_
        refine x_iadd dX10_addVertex_94 ?_
        have b30 : vp_in (nI c) 24 := by exact vp_in_nI (by omega) (by decide)
        refine x_iast rfl b30 dX10_addVertex_95 ?_
        refine YY.V (V' := uM V 66 c ((V 66 c) + (lenI (x - V 62 (n - 1)) (y - V 63 (n - 1))))) (by rw [nI_clamp (by omega)]) ?_
        obtain ⟨U31, eU31⟩ : ∃ v_v : vM, v_v = uM V 66 c ((V 66 c) + (lenI (x - V 62 (n - 1)) (y - V 63 (n - 1)))) := ⟨_, rfl⟩
        refine YY.V eU31.symm ?_
        refine x_aload_n dX10_addVertex_96 4 rfl ?_
        refine x_getR fl_X10_53 rfl rfl dX10_addVertex_97 ?_
        refine x_aload_n dX10_addVertex_100 4 rfl ?_
        refine x_getI fl_X10_208 rfl rfl dX10_addVertex_101 ?_
        refine x_topi (y := V 49 32) (by rw [eU31, uM_na (by decide)]) ?_
        refine x_topi (hn) ?_
        refine x_aload_n dX10_addVertex_104 4 rfl ?_
        refine x_getR fl_X10_53 rfl rfl dX10_addVertex_105 ?_
        refine x_iload dX10_addVertex_108 3 rfl ?_
        have q32 : ((nI n) - 1 : Int32) = nI (n - 1) := nsub (by omega) (rfl) (rfl)
        refine YY.S (st' := [.int (nI (n - 1)), .ref (g.2.1 64), .int (nI n), .ref (g.2.1 64)]) (by rw [q32]) ?_
        have b33 : vp_in (nI (n - 1)) 1700 := by exact vp_in_nI (by omega) (by decide)
        refine x_iald rfl b33 dX10_addVertex_110 ?_
        refine x_topi (y := U31 64 (n - 1)) (by rw [nI_clamp (by omega)]) ?_
        refine x_topi (y := V 64 (n - 1)) (by rw [eU31, uM_na (by decide)]) ?_
        refine x_iload dX10_addVertex_111 0 rfl ?_
        refine x_iadd dX10_addVertex_113 ?_
        have b34 : vp_in (nI n) 1700 := by exact vp_in_nI (by omega) (by decide)
        refine x_iast rfl b34 dX10_addVertex_114 ?_
        refine YY.V (V' := uM U31 64 n ((V 64 (n - 1)) + (lenI (x - V 62 (n - 1)) (y - V 63 (n - 1))))) (by rw [nI_clamp (by omega)]) ?_
        obtain ⟨U35, eU35⟩ : ∃ v_v : vM, v_v = uM U31 64 n ((V 64 (n - 1)) + (lenI (x - V 62 (n - 1)) (y - V 63 (n - 1)))) := ⟨_, rfl⟩
        refine YY.V eU35.symm ?_
        refine x_goto 128 dX10_addVertex_115 (by decide) ?_
        refine x_aload_n dX10_addVertex_128 4 rfl ?_
        refine x_getR fl_X10_47 rfl rfl dX10_addVertex_129 ?_
        refine x_aload_n dX10_addVertex_132 4 rfl ?_
        refine x_getI fl_X10_208 rfl rfl dX10_addVertex_133 ?_
        refine x_topi (y := V 49 32) (by rw [eU35, uM_na (by decide), eU31, uM_na (by decide)]) ?_
        refine x_topi (hn) ?_
        refine x_iload_n dX10_addVertex_136 6 rfl ?_
        have b36 : vp_in (nI n) 1700 := by exact vp_in_nI (by omega) (by decide)
        refine x_iast rfl b36 dX10_addVertex_137 ?_
        refine YY.V (V' := uM U35 62 n x) (by rw [nI_clamp (by omega)]) ?_
        obtain ⟨U37, eU37⟩ : ∃ v_v : vM, v_v = uM U35 62 n x := ⟨_, rfl⟩
        refine YY.V eU37.symm ?_
        refine x_aload_n dX10_addVertex_138 4 rfl ?_
        refine x_getR fl_X10_50 rfl rfl dX10_addVertex_139 ?_
        refine x_aload_n dX10_addVertex_142 4 rfl ?_
        refine x_getI fl_X10_208 rfl rfl dX10_addVertex_143 ?_
        refine x_topi (y := V 49 32) (by rw [eU37, uM_na (by decide), eU35, uM_na (by decide), eU31, uM_na (by decide)]) ?_
        refine x_topi (hn) ?_
        refine x_iload_n dX10_addVertex_146 7 rfl ?_
        have b38 : vp_in (nI n) 1700 := by exact vp_in_nI (by omega) (by decide)
        refine x_iast rfl b38 dX10_addVertex_147 ?_
        refine YY.V (V' := uM U37 63 n y) (by rw [nI_clamp (by omega)]) ?_
        obtain ⟨U39, eU39⟩ : ∃ v_v : vM, v_v = uM U37 63 n y := ⟨_, rfl⟩
        refine YY.V eU39.symm ?_
        refine x_aload_n dX10_addVertex_148 4 rfl ?_
        refine x_dup dX10_addVertex_149 rfl ?_
        refine x_getI fl_X10_208 rfl rfl dX10_addVertex_150 ?_
        refine x_topi (y := V 49 32) (by rw [eU39, uM_na (by decide), eU37, uM_na (by decide), eU35, uM_na (by decide), eU31, uM_na (by decide)]) ?_
        refine x_topi (hn) ?_
        refine x_iconst (v := 1) dX10_addVertex_153 (by decide) ?_
        refine x_iadd dX10_addVertex_154 ?_
        refine x_putI fp_X10_208 rfl rfl dX10_addVertex_155 ?_
        obtain ⟨U40, eU40⟩ : ∃ v_v : vM, v_v = uM U39 49 32 ((nI n) + 1) := ⟨_, rfl⟩
        refine YY.V eU40.symm ?_
        refine x_vret dX10_addVertex_158 rfl ?_
        rw [hQ]
        refine ⟨?_, rfl⟩
        first | (rw [if_neg (by omega)]; subst_vars; simp only [nI_1, mcap]; done) | (rw [if_pos (by omega), if_pos ⟨i64z (by assumption), i64z (by assumption)⟩]) | (rw [if_pos (by omega), if_neg (fun q => absurd (i64z0 q.1) (by assumption))]; subst_vars; simp only [nI_1, mcap]; done) | (rw [if_pos (by omega), if_neg (fun q => absurd (i64z0 q.2) (by assumption))]; subst_vars; simp only [nI_1, mcap]; done)
      · have c28n : ((y - (V 63 (n - 1))).toInt64) = 0 := lgc_eq.mp c28
        refine x_vret dX10_addVertex_64 rfl ?_
        rw [hQ]
        refine ⟨?_, rfl⟩
        first | (rw [if_neg (by omega)]; subst_vars; simp only [nI_1, mcap]; done) | (rw [if_pos (by omega), if_pos ⟨i64z (by assumption), i64z (by assumption)⟩]) | (rw [if_pos (by omega), if_neg (fun q => absurd (i64z0 q.1) (by assumption))]; subst_vars; simp only [nI_1, mcap]; done) | (rw [if_pos (by omega), if_neg (fun q => absurd (i64z0 q.2) (by assumption))]; subst_vars; simp only [nI_1, mcap]; done)
