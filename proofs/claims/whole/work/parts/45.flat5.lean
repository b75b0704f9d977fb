def cst (x y : Int32) (nb : Nat → Int32) : Nat → Int32 := fun i => if i = 0 then x else if i = 1 then y else nb (i - 2)
theorem nbV_kept {U V : vM} {a n : Nat} (h1 : U a 2 = V a 2) (h2 : ∀ i, U n i = V n i) (i p : Int32) : nbV U a n i p = nbV V a n i p := by
  unfold nbV
  rw [h1, h2]
theorem ptV_kept {U V : vM} {a k : Nat} (h1 : U a 2 = V a 2) (h2 : ∀ i, U k i = V k i) (i : Int32) : ptV U a k i = ptV V a k i := by
  unfold ptV kiV
  rw [h1, h2]
theorem szok_kept {U V : vM} {a : Nat} (h1 : U a 2 = V a 2) (h : szok V a) : szok U a := by
  unfold szok
  rw [h1]
  exact h
theorem kok_kept {U V : vM} {a k : Nat} (h1 : U a 2 = V a 2) (h2 : ∀ i, U k i = V k i) (h : kok V a k) : kok U a k := by
  refine ⟨szok_kept h1 h.1, fun i hi h24 => ?_⟩
  rw [h1] at hi
  rw [h2]
  exact h.2 i hi h24
set_option maxHeartbeats 4000000 in
set_option maxRecDepth 100000 in
theorem mX2_begin2 {g : gX} (V : vM) (hk : kok V 1 12) (i x y : Int32) (hl : ptV V 1 12 i = 2) : MM g jX2_begin V [.ref (g.2.1 26), .ref (g.2.1 1), .int i, .int x, .int y] (eV (fun U => U 26 3 = 2 ∧ U 26 2 = 1 ∧ U 40 0 = 0 ∧ (∀ j, j < 6 → U 42 j = cst x y (fun j => nbV V 1 13 i (nI j)) j) ∧ frH V U)) := by
  refine MM.of plX2_begin (Nat.le_of_ble_eq_true rfl) ?_
  obtain ⟨Q, hQ⟩ : ∃ Q : Option Value → vM → Prop, Q = (eV (fun U => U 26 3 = 2 ∧ U 26 2 = 1 ∧ U 40 0 = 0 ∧ (∀ j, j < 6 → U 42 j = cst x y (fun j => nbV V 1 13 i (nI j)) j) ∧ frH V U)) := ⟨_, rfl⟩
  rw [← hQ]
  show XX g jX2_begin Q V 0 [(0, .ref (g.2.1 26)), (1, .ref (g.2.1 1)), (2, .int i), (3, .int x), (4, .int y)] []
  refine x_aload_n dX2_begin_0 0 rfl ?_
  refine x_aload_n dX2_begin_1 1 rfl ?_
  refine x_iload_n dX2_begin_2 2 rfl ?_
  refine x_callV (K := jX5_pointsOf) [.int i] lk_X2_27 ⟨⟨rfl, rfl⟩, Nat.le_of_ble_eq_true rfl, Nat.le_of_ble_eq_true rfl⟩ rfl rfl (mX5_pointsOf V isP1 (by assumption) i) rfl (Nat.le_of_ble_eq_true rfl) rfl dX2_begin_3 (kpI ?_)
  refine x_topi (y := 2) (hl) ?_
  refine x_putI fp_X2_24 rfl rfl dX2_begin_6 ?_
  obtain ⟨U1, eU1⟩ : ∃ v_v : vM, v_v = uM V 26 3 2 := ⟨_, rfl⟩
  refine YY.V eU1.symm ?_
  refine x_aload_n dX2_begin_9 0 rfl ?_
  refine x_iconst (v := 1) dX2_begin_10 (by decide) ?_
  refine x_putI fp_X2_20 rfl rfl dX2_begin_11 ?_
  obtain ⟨U2, eU2⟩ : ∃ v_v : vM, v_v = uM U1 26 2 1 := ⟨_, rfl⟩
  refine YY.V eU2.symm ?_
  refine x_aload_n dX2_begin_14 0 rfl ?_
  refine x_getR fl_X2_16 rfl rfl dX2_begin_15 ?_
  refine x_iconst (v := 0) dX2_begin_18 (by decide) ?_
  refine x_iconst (v := 0) dX2_begin_19 (by decide) ?_
  have q3 : (0 : Int32) = nI 0 := rfl
  refine YY.S (st' := [.int 0, .int (nI 0), .ref (g.2.1 40)]) (by rw [q3]) ?_
  have b4 : vp_in (nI 0) 7 := by exact vp_in_nI (by omega) (by decide)
  refine x_iast rfl b4 dX2_begin_20 ?_
  refine YY.V (V' := uM U2 40 0 0) (by rw [nI_clamp (by omega)]) ?_
  obtain ⟨U5, eU5⟩ : ∃ v_v : vM, v_v = uM U2 40 0 0 := ⟨_, rfl⟩
  refine YY.V eU5.symm ?_
  refine x_aload_n dX2_begin_21 0 rfl ?_
  refine x_getR fl_X2_11 rfl rfl dX2_begin_22 ?_
  refine x_iconst (v := 0) dX2_begin_25 (by decide) ?_
  have q6 : (0 : Int32) = nI 0 := rfl
  refine YY.S (st' := [.int (nI 0), .ref (g.2.1 39)]) (by rw [q6]) ?_
  have b7 : vp_in (nI 0) 7 := by exact vp_in_nI (by omega) (by decide)
  refine x_aaldP rfl b7 dX2_begin_26 ?_
  refine YY.S (st' := [.ref (g.2.1 42)]) (by rw [nI_clamp (by omega)]) ?_
  refine x_astore 5 [(5, .ref (g.2.1 42)), (0, .ref (g.2.1 26)), (1, .ref (g.2.1 1)), (2, .int i), (3, .int x), (4, .int y)] dX2_begin_27 (by decide) rfl ?_
  refine x_aload dX2_begin_29 0 rfl ?_
  refine x_iconst (v := 0) dX2_begin_31 (by decide) ?_
  refine x_iload_n dX2_begin_32 4 rfl ?_
  have q8 : (0 : Int32) = nI 0 := rfl
  refine YY.S (st' := [.int x, .int (nI 0), .ref (g.2.1 42)]) (by rw [q8]) ?_
  have b9 : vp_in (nI 0) 8 := by exact vp_in_nI (by omega) (by decide)
  refine x_iast rfl b9 dX2_begin_33 ?_
  refine YY.V (V' := uM U5 42 0 x) (by rw [nI_clamp (by omega)]) ?_
  obtain ⟨U10, eU10⟩ : ∃ v_v : vM, v_v = uM U5 42 0 x := ⟨_, rfl⟩
  refine YY.V eU10.symm ?_
  refine x_aload dX2_begin_34 0 rfl ?_
  refine x_iconst (v := 1) dX2_begin_36 (by decide) ?_
  refine x_iload dX2_begin_37 5 rfl ?_
  have q11 : (1 : Int32) = nI 1 := rfl
  refine YY.S (st' := [.int y, .int (nI 1), .ref (g.2.1 42)]) (by rw [q11]) ?_
  have b12 : vp_in (nI 1) 8 := by exact vp_in_nI (by omega) (by decide)
  refine x_iast rfl b12 dX2_begin_39 ?_
  refine YY.V (V' := uM U10 42 1 y) (by rw [nI_clamp (by omega)]) ?_
  obtain ⟨U13, eU13⟩ : ∃ v_v : vM, v_v = uM U10 42 1 y := ⟨_, rfl⟩
  refine YY.V eU13.symm ?_
  refine x_iconst (v := 0) dX2_begin_40 (by decide) ?_
  refine x_istore 6 [(6, .int 0), (5, .ref (g.2.1 42)), (0, .ref (g.2.1 26)), (1, .ref (g.2.1 1)), (2, .int i), (3, .int x), (4, .int y)] dX2_begin_41 (by decide) rfl ?_
  refine x_iload dX2_begin_43 0 rfl ?_
  refine x_iconst (v := 2) dX2_begin_45 (by decide) ?_
  refine x_aload_n dX2_begin_46 2 rfl ?_
  refine x_getI fl_X2_24 rfl rfl dX2_begin_47 ?_
  refine x_topi (y := 2) (by rw [eU13, uM_na (by decide), eU10, uM_na (by decide), eU5, uM_na (by decide), eU2, uM_ni (by decide), eU1, uM_hit]) ?_
  refine x_imul dX2_begin_50 ?_
  refine x_topi (y := 4) (by decide) ?_
  refine x_icmp_ge 74 dX2_begin_51 (by decide) (fun c14 => by exfalso; revert c14; decide) (fun c14 => ?_)
  refine x_aload dX2_begin_54 1 rfl ?_
  refine x_iload dX2_begin_56 0 rfl ?_
  refine x_iconst (v := 2) dX2_begin_58 (by decide) ?_
  refine x_iadd dX2_begin_59 ?_
  refine x_topi (y := 2) (by decide) ?_
  refine x_aload_n dX2_begin_60 3 rfl ?_
  refine x_iload_n dX2_begin_61 4 rfl ?_
  refine x_iload dX2_begin_62 0 rfl ?_
  refine x_callV (K := jX5_numberOf) [.int i, .int 0] lk_X2_33 ⟨⟨rfl, rfl⟩, Nat.le_of_ble_eq_true rfl, Nat.le_of_ble_eq_true rfl⟩ rfl rfl (mX5_numberOf U13 isP1 (szok_kept (by simp [eU13, eU10, eU5, eU2, eU1, uM_at]) hk.1) i 0) rfl (Nat.le_of_ble_eq_true rfl) rfl dX2_begin_64 (kpI ?_)
  refine x_topi (y := nbV V 1 13 i 0) (nbV_kept (by simp [eU13, eU10, eU5, eU2, eU1, uM_at]) (fun i => by simp [eU13, eU10, eU5, eU2, eU1, uM_at]) _ _) ?_
  have q15 : (2 : Int32) = nI 2 := rfl
  refine YY.S (st' := [.int (nbV V 1 13 i 0), .int (nI 2), .ref (g.2.1 42)]) (by rw [q15]) ?_
  have b16 : vp_in (nI 2) 8 := by exact vp_in_nI (by omega) (by decide)
  refine x_iast rfl b16 dX2_begin_67 ?_
  refine YY.V (V' := uM U13 42 2 (nbV V 1 13 i 0)) (by rw [nI_clamp (by omega)]) ?_
  obtain ⟨U17, eU17⟩ : ∃ v_v : vM, v_v = uM U13 42 2 (nbV V 1 13 i 0) := ⟨_, rfl⟩
  refine YY.V eU17.symm ?_
  refine x_iinc 6 (v := 1) 0 [(6, .int 1), (5, .ref (g.2.1 42)), (0, .ref (g.2.1 26)), (1, .ref (g.2.1 1)), (2, .int i), (3, .int x), (4, .int y)] dX2_begin_68 rfl (by decide) (by decide) rfl ?_
  refine x_goto 43 dX2_begin_71 (by decide) ?_
  refine x_iload dX2_begin_43 0 rfl ?_
  refine x_iconst (v := 2) dX2_begin_45 (by decide) ?_
  refine x_aload_n dX2_begin_46 2 rfl ?_
  refine x_getI fl_X2_24 rfl rfl dX2_begin_47 ?_
  refine x_topi (y := 2) (by rw [eU17, uM_na (by decide), eU13, uM_na (by decide), eU10, uM_na (by decide), eU5, uM_na (by decide), eU2, uM_ni (by decide), eU1, uM_hit]) ?_
  refine x_imul dX2_begin_50 ?_
  refine x_topi (y := 4) (by decide) ?_
  refine x_icmp_ge 74 dX2_begin_51 (by decide) (fun c18 => by exfalso; revert c18; decide) (fun c18 => ?_)
  refine x_aload dX2_begin_54 1 rfl ?_
  refine x_iload dX2_begin_56 0 rfl ?_
  refine x_iconst (v := 2) dX2_begin_58 (by decide) ?_
  refine x_iadd dX2_begin_59 ?_
  refine x_topi (y := 3) (by decide) ?_
  refine x_aload_n dX2_begin_60 3 rfl ?_
  refine x_iload_n dX2_begin_61 4 rfl ?_
  refine x_iload dX2_begin_62 0 rfl ?_
  refine x_callV (K := jX5_numberOf) [.int i, .int 1] lk_X2_33 ⟨⟨rfl, rfl⟩, Nat.le_of_ble_eq_true rfl, Nat.le_of_ble_eq_true rfl⟩ rfl rfl (mX5_numberOf U17 isP1 (szok_kept (by simp [eU17, eU13, eU10, eU5, eU2, eU1, uM_at]) hk.1) i 1) rfl (Nat.le_of_ble_eq_true rfl) rfl dX2_begin_64 (kpI ?_)
  refine x_topi (y := nbV V 1 13 i 1) (nbV_kept (by simp [eU17, eU13, eU10, eU5, eU2, eU1, uM_at]) (fun i => by simp [eU17, eU13, eU10, eU5, eU2, eU1, uM_at]) _ _) ?_
  have q19 : (3 : Int32) = nI 3 := rfl
  refine YY.S (st' := [.int (nbV V 1 13 i 1), .int (nI 3), .ref (g.2.1 42)]) (by rw [q19]) ?_
  have b20 : vp_in (nI 3) 8 := by exact vp_in_nI (by omega) (by decide)
  refine x_iast rfl b20 dX2_begin_67 ?_
  refine YY.V (V' := uM U17 42 3 (nbV V 1 13 i 1)) (by rw [nI_clamp (by omega)]) ?_
  obtain ⟨U21, eU21⟩ : ∃ v_v : vM, v_v = uM U17 42 3 (nbV V 1 13 i 1) := ⟨_, rfl⟩
  refine YY.V eU21.symm ?_
  refine x_iinc 6 (v := 2) 0 [(6, .int 2), (5, .ref (g.2.1 42)), (0, .ref (g.2.1 26)), (1, .ref (g.2.1 1)), (2, .int i), (3, .int x), (4, .int y)] dX2_begin_68 rfl (by decide) (by decide) rfl ?_
  refine x_goto 43 dX2_begin_71 (by decide) ?_
  refine x_iload dX2_begin_43 0 rfl ?_
  refine x_iconst (v := 2) dX2_begin_45 (by decide) ?_
  refine x_aload_n dX2_begin_46 2 rfl ?_
  refine x_getI fl_X2_24 rfl rfl dX2_begin_47 ?_
  refine x_topi (y := 2) (by rw [eU21, uM_na (by decide), eU17, uM_na (by decide), eU13, uM_na (by decide), eU10, uM_na (by decide), eU5, uM_na (by decide), eU2, uM_ni (by decide), eU1, uM_hit]) ?_
  refine x_imul dX2_begin_50 ?_
  refine x_topi (y := 4) (by decide) ?_
  refine x_icmp_ge 74 dX2_begin_51 (by decide) (fun c22 => by exfalso; revert c22; decide) (fun c22 => ?_)
  refine x_aload dX2_begin_54 1 rfl ?_
  refine x_iload dX2_begin_56 0 rfl ?_
  refine x_iconst (v := 2) dX2_begin_58 (by decide) ?_
  refine x_iadd dX2_begin_59 ?_
  refine x_topi (y := 4) (by decide) ?_
  refine x_aload_n dX2_begin_60 3 rfl ?_
  refine x_iload_n dX2_begin_61 4 rfl ?_
  refine x_iload dX2_begin_62 0 rfl ?_
  refine x_callV (K := jX5_numberOf) [.int i, .int 2] lk_X2_33 ⟨⟨rfl, rfl⟩, Nat.le_of_ble_eq_true rfl, Nat.le_of_ble_eq_true rfl⟩ rfl rfl (mX5_numberOf U21 isP1 (szok_kept (by simp [eU21, eU17, eU13, eU10, eU5, eU2, eU1, uM_at]) hk.1) i 2) rfl (Nat.le_of_ble_eq_true rfl) rfl dX2_begin_64 (kpI ?_)
  refine x_topi (y := nbV V 1 13 i 2) (nbV_kept (by simp [eU21, eU17, eU13, eU10, eU5, eU2, eU1, uM_at]) (fun i => by simp [eU21, eU17, eU13, eU10, eU5, eU2, eU1, uM_at]) _ _) ?_
  have q23 : (4 : Int32) = nI 4 := rfl
  refine YY.S (st' := [.int (nbV V 1 13 i 2), .int (nI 4), .ref (g.2.1 42)]) (by rw [q23]) ?_
  have b24 : vp_in (nI 4) 8 := by exact vp_in_nI (by omega) (by decide)
  refine x_iast rfl b24 dX2_begin_67 ?_
  refine YY.V (V' := uM U21 42 4 (nbV V 1 13 i 2)) (by rw [nI_clamp (by omega)]) ?_
  obtain ⟨U25, eU25⟩ : ∃ v_v : vM, v_v = uM U21 42 4 (nbV V 1 13 i 2) := ⟨_, rfl⟩
  refine YY.V eU25.symm ?_
  refine x_iinc 6 (v := 3) 0 [(6, .int 3), (5, .ref (g.2.1 42)), (0, .ref (g.2.1 26)), (1, .ref (g.2.1 1)), (2, .int i), (3, .int x), (4, .int y)] dX2_begin_68 rfl (by decide) (by decide) rfl ?_
  refine x_goto 43 dX2_begin_71 (by decide) ?_
  refine x_iload dX2_begin_43 0 rfl ?_
  refine x_iconst (v := 2) dX2_begin_45 (by decide) ?_
  refine x_aload_n dX2_begin_46 2 rfl ?_
  refine x_getI fl_X2_24 rfl rfl dX2_begin_47 ?_
  refine x_topi (y := 2) (by rw [eU25, uM_na (by decide), eU21, uM_na (by decide), eU17, uM_na (by decide), eU13, uM_na (by decide), eU10, uM_na (by decide), eU5, uM_na (by decide), eU2, uM_ni (by decide), eU1, uM_hit]) ?_
  refine x_imul dX2_begin_50 ?_
  refine x_topi (y := 4) (by decide) ?_
  refine x_icmp_ge 74 dX2_begin_51 (by decide) (fun c26 => by exfalso; revert c26; decide) (fun c26 => ?_)
  refine x_aload dX2_begin_54 1 rfl ?_
  refine x_iload dX2_begin_56 0 rfl ?_
  refine x_iconst (v := 2) dX2_begin_58 (by decide) ?_
  refine x_iadd dX2_begin_59 ?_
  refine x_topi (y := 5) (by decide) ?_
  refine x_aload_n dX2_begin_60 3 rfl ?_
  refine x_iload_n dX2_begin_61 4 rfl ?_
  refine x_iload dX2_begin_62 0 rfl ?_
  refine x_callV (K := jX5_numberOf) [.int i, .int 3] lk_X2_33 ⟨⟨rfl, rfl⟩, Nat.le_of_ble_eq_true rfl, Nat.le_of_ble_eq_true rfl⟩ rfl rfl (mX5_numberOf U25 isP1 (szok_kept (by simp [eU25, eU21, eU17, eU13, eU10, eU5, eU2, eU1, uM_at]) hk.1) i 3) rfl (Nat.le_of_ble_eq_true rfl) rfl dX2_begin_64 (kpI ?_)
  refine x_topi (y := nbV V 1 13 i 3) (nbV_kept (by simp [eU25, eU21, eU17, eU13, eU10, eU5, eU2, eU1, uM_at]) (fun i => by simp [eU25, eU21, eU17, eU13, eU10, eU5, eU2, eU1, uM_at]) _ _) ?_
  have q27 : (5 : Int32) = nI 5 := rfl
  refine YY.S (st' := [.int (nbV V 1 13 i 3), .int (nI 5), .ref (g.2.1 42)]) (by rw [q27]) ?_
  have b28 : vp_in (nI 5) 8 := by exact vp_in_nI (by omega) (by decide)
  refine x_iast rfl b28 dX2_begin_67 ?_
  refine YY.V (V' := uM U25 42 5 (nbV V 1 13 i 3)) (by rw [nI_clamp (by omega)]) ?_
  obtain ⟨U29, eU29⟩ : ∃ v_v : vM, v_v = uM U25 42 5 (nbV V 1 13 i 3) := ⟨_, rfl⟩
  refine YY.V eU29.symm ?_
  refine x_iinc 6 (v := 4) 0 [(6, .int 4), (5, .ref (g.2.1 42)), (0, .ref (g.2.1 26)), (1, .ref (g.2.1 1)), (2, .int i), (3, .int x), (4, .int y)] dX2_begin_68 rfl (by decide) (by decide) rfl ?_
  refine x_goto 43 dX2_begin_71 (by decide) ?_
  refine x_iload dX2_begin_43 0 rfl ?_
  refine x_iconst (v := 2) dX2_begin_45 (by decide) ?_
  refine x_aload_n dX2_begin_46 2 rfl ?_
  refine x_getI fl_X2_24 rfl rfl dX2_begin_47 ?_
  refine x_topi (y := 2) (by rw [eU29, uM_na (by decide), eU25, uM_na (by decide), eU21, uM_na (by decide), eU17, uM_na (by decide), eU13, uM_na (by decide), eU10, uM_na (by decide), eU5, uM_na (by decide), eU2, uM_ni (by decide), eU1, uM_hit]) ?_
  refine x_imul dX2_begin_50 ?_
  refine x_topi (y := 4) (by decide) ?_
  refine x_icmp_ge 74 dX2_begin_51 (by decide) (fun c30 => ?_) (fun c30 => by exfalso; revert c30; decide)
  refine x_vret dX2_begin_74 rfl ?_
  rw [hQ]
  have f0 : U29 42 0 = x := by rw [eU29, uM_ni (by decide), eU25, uM_ni (by decide), eU21, uM_ni (by decide), eU17, uM_ni (by decide), eU13, uM_ni (by decide), eU10, uM_hit]
  have f1 : U29 42 1 = y := by rw [eU29, uM_ni (by decide), eU25, uM_ni (by decide), eU21, uM_ni (by decide), eU17, uM_ni (by decide), eU13, uM_hit]
  have f2 : U29 42 2 = nbV V 1 13 i 0 := by rw [eU29, uM_ni (by decide), eU25, uM_ni (by decide), eU21, uM_ni (by decide), eU17, uM_hit]
  have f3 : U29 42 3 = nbV V 1 13 i 1 := by rw [eU29, uM_ni (by decide), eU25, uM_ni (by decide), eU21, uM_hit]
  have f4 : U29 42 4 = nbV V 1 13 i 2 := by rw [eU29, uM_ni (by decide), eU25, uM_hit]
  have f5 : U29 42 5 = nbV V 1 13 i 3 := by rw [eU29, uM_hit]
  have g3 : U29 26 3 = 2 := by rw [eU29, uM_na (by decide), eU25, uM_na (by decide), eU21, uM_na (by decide), eU17, uM_na (by decide), eU13, uM_na (by decide), eU10, uM_na (by decide), eU5, uM_na (by decide), eU2, uM_ni (by decide), eU1, uM_hit]
  have g2 : U29 26 2 = 1 := by rw [eU29, uM_na (by decide), eU25, uM_na (by decide), eU21, uM_na (by decide), eU17, uM_na (by decide), eU13, uM_na (by decide), eU10, uM_na (by decide), eU5, uM_na (by decide), eU2, uM_hit]
  have g0 : U29 40 0 = 0 := by rw [eU29, uM_na (by decide), eU25, uM_na (by decide), eU21, uM_na (by decide), eU17, uM_na (by decide), eU13, uM_na (by decide), eU10, uM_na (by decide), eU5, uM_hit]
  refine ⟨rfl, g3, g2, g0, fun i hi => ?_, fun a i n1 n2 n3 => ?_⟩
  · have : i = 0 ∨ i = 1 ∨ i = 2 ∨ i = 3 ∨ i = 4 ∨ i = 5 := by omega
    rcases this with rfl | rfl | rfl | rfl | rfl | rfl
    · exact f0
    · exact f1
    · exact f2
    · exact f3
    · exact f4
    · exact f5
  · rw [eU29, uM_na (by omega), eU25, uM_na (by omega), eU21, uM_na (by omega), eU17, uM_na (by omega), eU13, uM_na (by omega), eU10, uM_na (by omega), eU5, uM_na n2, eU2, uM_na n1, eU1, uM_na n1]
set_option maxHeartbeats 4000000 in
set_option maxRecDepth 100000 in
theorem mX2_begin3 {g : gX} (V : vM) (hk : kok V 1 12) (i x y : Int32) (hl : ptV V 1 12 i = 3) : MM g jX2_begin V [.ref (g.2.1 26), .ref (g.2.1 1), .int i, .int x, .int y] (eV (fun U => U 26 3 = 3 ∧ U 26 2 = 1 ∧ U 40 0 = 0 ∧ (∀ j, j < 8 → U 42 j = cst x y (fun j => nbV V 1 13 i (nI j)) j) ∧ frH V U)) := by
  refine MM.of plX2_begin (Nat.le_of_ble_eq_true rfl) ?_
  obtain ⟨Q, hQ⟩ : ∃ Q : Option Value → vM → Prop, Q = (eV (fun U => U 26 3 = 3 ∧ U 26 2 = 1 ∧ U 40 0 = 0 ∧ (∀ j, j < 8 → U 42 j = cst x y (fun j => nbV V 1 13 i (nI j)) j) ∧ frH V U)) := ⟨_, rfl⟩
  rw [← hQ]
  show XX g jX2_begin Q V 0 [(0, .ref (g.2.1 26)), (1, .ref (g.2.1 1)), (2, .int i), (3, .int x), (4, .int y)] []
  refine x_aload_n dX2_begin_0 0 rfl ?_
  refine x_aload_n dX2_begin_1 1 rfl ?_
  refine x_iload_n dX2_begin_2 2 rfl ?_
  refine x_callV (K := jX5_pointsOf) [.int i] lk_X2_27 ⟨⟨rfl, rfl⟩, Nat.le_of_ble_eq_true rfl, Nat.le_of_ble_eq_true rfl⟩ rfl rfl (mX5_pointsOf V isP1 (by assumption) i) rfl (Nat.le_of_ble_eq_true rfl) rfl dX2_begin_3 (kpI ?_)
  refine x_topi (y := 3) (hl) ?_
  refine x_putI fp_X2_24 rfl rfl dX2_begin_6 ?_
  obtain ⟨U1, eU1⟩ : ∃ v_v : vM, v_v = uM V 26 3 3 := ⟨_, rfl⟩
  refine YY.V eU1.symm ?_
  refine x_aload_n dX2_begin_9 0 rfl ?_
  refine x_iconst (v := 1) dX2_begin_10 (by decide) ?_
  refine x_putI fp_X2_20 rfl rfl dX2_begin_11 ?_
  obtain ⟨U2, eU2⟩ : ∃ v_v : vM, v_v = uM U1 26 2 1 := ⟨_, rfl⟩
  refine YY.V eU2.symm ?_
  refine x_aload_n dX2_begin_14 0 rfl ?_
  refine x_getR fl_X2_16 rfl rfl dX2_begin_15 ?_
  refine x_iconst (v := 0) dX2_begin_18 (by decide) ?_
  refine x_iconst (v := 0) dX2_begin_19 (by decide) ?_
  have q3 : (0 : Int32) = nI 0 := rfl
  refine YY.S (st' := [.int 0, .int (nI 0), .ref (g.2.1 40)]) (by rw [q3]) ?_
  have b4 : vp_in (nI 0) 7 := by exact vp_in_nI (by omega) (by decide)
  refine x_iast rfl b4 dX2_begin_20 ?_
  refine YY.V (V' := uM U2 40 0 0) (by rw [nI_clamp (by omega)]) ?_
  obtain ⟨U5, eU5⟩ : ∃ v_v : vM, v_v = uM U2 40 0 0 := ⟨_, rfl⟩
  refine YY.V eU5.symm ?_
  refine x_aload_n dX2_begin_21 0 rfl ?_
  refine x_getR fl_X2_11 rfl rfl dX2_begin_22 ?_
  refine x_iconst (v := 0) dX2_begin_25 (by decide) ?_
  have q6 : (0 : Int32) = nI 0 := rfl
  refine YY.S (st' := [.int (nI 0), .ref (g.2.1 39)]) (by rw [q6]) ?_
  have b7 : vp_in (nI 0) 7 := by exact vp_in_nI (by omega) (by decide)
  refine x_aaldP rfl b7 dX2_begin_26 ?_
  refine YY.S (st' := [.ref (g.2.1 42)]) (by rw [nI_clamp (by omega)]) ?_
  refine x_astore 5 [(5, .ref (g.2.1 42)), (0, .ref (g.2.1 26)), (1, .ref (g.2.1 1)), (2, .int i), (3, .int x), (4, .int y)] dX2_begin_27 (by decide) rfl ?_
  refine x_aload dX2_begin_29 0 rfl ?_
  refine x_iconst (v := 0) dX2_begin_31 (by decide) ?_
  refine x_iload_n dX2_begin_32 4 rfl ?_
  have q8 : (0 : Int32) = nI 0 := rfl
  refine YY.S (st' := [.int x, .int (nI 0), .ref (g.2.1 42)]) (by rw [q8]) ?_
  have b9 : vp_in (nI 0) 8 := by exact vp_in_nI (by omega) (by decide)
  refine x_iast rfl b9 dX2_begin_33 ?_
  refine YY.V (V' := uM U5 42 0 x) (by rw [nI_clamp (by omega)]) ?_
  obtain ⟨U10, eU10⟩ : ∃ v_v : vM, v_v = uM U5 42 0 x := ⟨_, rfl⟩
  refine YY.V eU10.symm ?_
  refine x_aload dX2_begin_34 0 rfl ?_
  refine x_iconst (v := 1) dX2_begin_36 (by decide) ?_
  refine x_iload dX2_begin_37 5 rfl ?_
  have q11 : (1 : Int32) = nI 1 := rfl
  refine YY.S (st' := [.int y, .int (nI 1), .ref (g.2.1 42)]) (by rw [q11]) ?_
  have b12 : vp_in (nI 1) 8 := by exact vp_in_nI (by omega) (by decide)
  refine x_iast rfl b12 dX2_begin_39 ?_
  refine YY.V (V' := uM U10 42 1 y) (by rw [nI_clamp (by omega)]) ?_
  obtain ⟨U13, eU13⟩ : ∃ v_v : vM, v_v = uM U10 42 1 y := ⟨_, rfl⟩
  refine YY.V eU13.symm ?_
  refine x_iconst (v := 0) dX2_begin_40 (by decide) ?_
  refine x_istore 6 [(6, .int 0), (5, .ref (g.2.1 42)), (0, .ref (g.2.1 26)), (1, .ref (g.2.1 1)), (2, .int i), (3, .int x), (4, .int y)] dX2_begin_41 (by decide) rfl ?_
  refine x_iload dX2_begin_43 0 rfl ?_
  refine x_iconst (v := 2) dX2_begin_45 (by decide) ?_
  refine x_aload_n dX2_begin_46 2 rfl ?_
  refine x_getI fl_X2_24 rfl rfl dX2_begin_47 ?_
  refine x_topi (y := 3) (by rw [eU13, uM_na (by decide), eU10, uM_na (by decide), eU5, uM_na (by decide), eU2, uM_ni (by decide), eU1, uM_hit]) ?_
  refine x_imul dX2_begin_50 ?_
  refine x_topi (y := 6) (by decide) ?_
  refine x_icmp_ge 74 dX2_begin_51 (by decide) (fun c14 => by exfalso; revert c14; decide) (fun c14 => ?_)
  refine x_aload dX2_begin_54 1 rfl ?_
  refine x_iload dX2_begin_56 0 rfl ?_
  refine x_iconst (v := 2) dX2_begin_58 (by decide) ?_
  refine x_iadd dX2_begin_59 ?_
  refine x_topi (y := 2) (by decide) ?_
  refine x_aload_n dX2_begin_60 3 rfl ?_
  refine x_iload_n dX2_begin_61 4 rfl ?_
  refine x_iload dX2_begin_62 0 rfl ?_
  refine x_callV (K := jX5_numberOf) [.int i, .int 0] lk_X2_33 ⟨⟨rfl, rfl⟩, Nat.le_of_ble_eq_true rfl, Nat.le_of_ble_eq_true rfl⟩ rfl rfl (mX5_numberOf U13 isP1 (szok_kept (by simp [eU13, eU10, eU5, eU2, eU1, uM_at]) hk.1) i 0) rfl (Nat.le_of_ble_eq_true rfl) rfl dX2_begin_64 (kpI ?_)
  refine x_topi (y := nbV V 1 13 i 0) (nbV_kept (by simp [eU13, eU10, eU5, eU2, eU1, uM_at]) (fun i => by simp [eU13, eU10, eU5, eU2, eU1, uM_at]) _ _) ?_
  have q15 : (2 : Int32) = nI 2 := rfl
  refine YY.S (st' := [.int (nbV V 1 13 i 0), .int (nI 2), .ref (g.2.1 42)]) (by rw [q15]) ?_
  have b16 : vp_in (nI 2) 8 := by exact vp_in_nI (by omega) (by decide)
  refine x_iast rfl b16 dX2_begin_67 ?_
  refine YY.V (V' := uM U13 42 2 (nbV V 1 13 i 0)) (by rw [nI_clamp (by omega)]) ?_
  obtain ⟨U17, eU17⟩ : ∃ v_v : vM, v_v = uM U13 42 2 (nbV V 1 13 i 0) := ⟨_, rfl⟩
  refine YY.V eU17.symm ?_
  refine x_iinc 6 (v := 1) 0 [(6, .int 1), (5, .ref (g.2.1 42)), (0, .ref (g.2.1 26)), (1, .ref (g.2.1 1)), (2, .int i), (3, .int x), (4, .int y)] dX2_begin_68 rfl (by decide) (by decide) rfl ?_
  refine x_goto 43 dX2_begin_71 (by decide) ?_
  refine x_iload dX2_begin_43 0 rfl ?_
  refine x_iconst (v := 2) dX2_begin_45 (by decide) ?_
  refine x_aload_n dX2_begin_46 2 rfl ?_
  refine x_getI fl_X2_24 rfl rfl dX2_begin_47 ?_
  refine x_topi (y := 3) (by rw [eU17, uM_na (by decide), eU13, uM_na (by decide), eU10, uM_na (by decide), eU5, uM_na (by decide), eU2, uM_ni (by decide), eU1, uM_hit]) ?_
  refine x_imul dX2_begin_50 ?_
  refine x_topi (y := 6) (by decide) ?_
  refine x_icmp_ge 74 dX2_begin_51 (by decide) (fun c18 => by exfalso; revert c18; decide) (fun c18 => ?_)
  refine x_aload dX2_begin_54 1 rfl ?_
  refine x_iload dX2_begin_56 0 rfl ?_
  refine x_iconst (v := 2) dX2_begin_58 (by decide) ?_
  refine x_iadd dX2_begin_59 ?_
  refine x_topi (y := 3) (by decide) ?_
  refine x_aload_n dX2_begin_60 3 rfl ?_
  refine x_iload_n dX2_begin_61 4 rfl ?_
  refine x_iload dX2_begin_62 0 rfl ?_
  refine x_callV (K := jX5_numberOf) [.int i, .int 1] lk_X2_33 ⟨⟨rfl, rfl⟩, Nat.le_of_ble_eq_true rfl, Nat.le_of_ble_eq_true rfl⟩ rfl rfl (mX5_numberOf U17 isP1 (szok_kept (by simp [eU17, eU13, eU10, eU5, eU2, eU1, uM_at]) hk.1) i 1) rfl (Nat.le_of_ble_eq_true rfl) rfl dX2_begin_64 (kpI ?_)
  refine x_topi (y := nbV V 1 13 i 1) (nbV_kept (by simp [eU17, eU13, eU10, eU5, eU2, eU1, uM_at]) (fun i => by simp [eU17, eU13, eU10, eU5, eU2, eU1, uM_at]) _ _) ?_
  have q19 : (3 : Int32) = nI 3 := rfl
  refine YY.S (st' := [.int (nbV V 1 13 i 1), .int (nI 3), .ref (g.2.1 42)]) (by rw [q19]) ?_
  have b20 : vp_in (nI 3) 8 := by exact vp_in_nI (by omega) (by decide)
  refine x_iast rfl b20 dX2_begin_67 ?_
  refine YY.V (V' := uM U17 42 3 (nbV V 1 13 i 1)) (by rw [nI_clamp (by omega)]) ?_
  obtain ⟨U21, eU21⟩ : ∃ v_v : vM, v_v = uM U17 42 3 (nbV V 1 13 i 1) := ⟨_, rfl⟩
  refine YY.V eU21.symm ?_
  refine x_iinc 6 (v := 2) 0 [(6, .int 2), (5, .ref (g.2.1 42)), (0, .ref (g.2.1 26)), (1, .ref (g.2.1 1)), (2, .int i), (3, .int x), (4, .int y)] dX2_begin_68 rfl (by decide) (by decide) rfl ?_
  refine x_goto 43 dX2_begin_71 (by decide) ?_
  refine x_iload dX2_begin_43 0 rfl ?_
  refine x_iconst (v := 2) dX2_begin_45 (by decide) ?_
  refine x_aload_n dX2_begin_46 2 rfl ?_
  refine x_getI fl_X2_24 rfl rfl dX2_begin_47 ?_
  refine x_topi (y := 3) (by rw [eU21, uM_na (by decide), eU17, uM_na (by decide), eU13, uM_na (by decide), eU10, uM_na (by decide), eU5, uM_na (by decide), eU2, uM_ni (by decide), eU1, uM_hit]) ?_
  refine x_imul dX2_begin_50 ?_
  refine x_topi (y := 6) (by decide) ?_
  refine x_icmp_ge 74 dX2_begin_51 (by decide) (fun c22 => by exfalso; revert c22; decide) (fun c22 => ?_)
  refine x_aload dX2_begin_54 1 rfl ?_
  refine x_iload dX2_begin_56 0 rfl ?_
  refine x_iconst (v := 2) dX2_begin_58 (by decide) ?_
  refine x_iadd dX2_begin_59 ?_
  refine x_topi (y := 4) (by decide) ?_
  refine x_aload_n dX2_begin_60 3 rfl ?_
  refine x_iload_n dX2_begin_61 4 rfl ?_
  refine x_iload dX2_begin_62 0 rfl ?_
  refine x_callV (K := jX5_numberOf) [.int i, .int 2] lk_X2_33 ⟨⟨rfl, rfl⟩, Nat.le_of_ble_eq_true rfl, Nat.le_of_ble_eq_true rfl⟩ rfl rfl (mX5_numberOf U21 isP1 (szok_kept (by simp [eU21, eU17, eU13, eU10, eU5, eU2, eU1, uM_at]) hk.1) i 2) rfl (Nat.le_of_ble_eq_true rfl) rfl dX2_begin_64 (kpI ?_)
  refine x_topi (y := nbV V 1 13 i 2) (nbV_kept (by simp [eU21, eU17, eU13, eU10, eU5, eU2, eU1, uM_at]) (fun i => by simp [eU21, eU17, eU13, eU10, eU5, eU2, eU1, uM_at]) _ _) ?_
  have q23 : (4 : Int32) = nI 4 := rfl
  refine YY.S (st' := [.int (nbV V 1 13 i 2), .int (nI 4), .ref (g.2.1 42)]) (by rw [q23]) ?_
  have b24 : vp_in (nI 4) 8 := by exact vp_in_nI (by omega) (by decide)
  refine x_iast rfl b24 dX2_begin_67 ?_
  refine YY.V (V' := uM U21 42 4 (nbV V 1 13 i 2)) (by rw [nI_clamp (by omega)]) ?_
  obtain ⟨U25, eU25⟩ : ∃ v_v : vM, v_v = uM U21 42 4 (nbV V 1 13 i 2) := ⟨_, rfl⟩
  refine YY.V eU25.symm ?_
  refine x_iinc 6 (v := 3) 0 [(6, .int 3), (5, .ref (g.2.1 42)), (0, .ref (g.2.1 26)), (1, .ref (g.2.1 1)), (2, .int i), (3, .int x), (4, .int y)] dX2_begin_68 rfl (by decide) (by decide) rfl ?_
  refine x_goto 43 dX2_begin_71 (by decide) ?_
  refine x_iload dX2_begin_43 0 rfl ?_
  refine x_iconst (v := 2) dX2_begin_45 (by decide) ?_
  refine x_aload_n dX2_begin_46 2 rfl ?_
  refine x_getI fl_X2_24 rfl rfl dX2_begin_47 ?_
  refine x_topi (y := 3) (by rw [eU25, uM_na (by decide), eU21, uM_na (by decide), eU17, uM_na (by decide), eU13, uM_na (by decide), eU10, uM_na (by decide), eU5, uM_na (by decide), eU2, uM_ni (by decide), eU1, uM_hit]) ?_
  refine x_imul dX2_begin_50 ?_
  refine x_topi (y := 6) (by decide) ?_
  refine x_icmp_ge 74 dX2_begin_51 (by decide) (fun c26 => by exfalso; revert c26; decide) (fun c26 => ?_)
  refine x_aload dX2_begin_54 1 rfl ?_
  refine x_iload dX2_begin_56 0 rfl ?_
  refine x_iconst (v := 2) dX2_begin_58 (by decide) ?_
  refine x_iadd dX2_begin_59 ?_
  refine x_topi (y := 5) (by decide) ?_
  refine x_aload_n dX2_begin_60 3 rfl ?_
  refine x_iload_n dX2_begin_61 4 rfl ?_
  refine x_iload dX2_begin_62 0 rfl ?_
  refine x_callV (K := jX5_numberOf) [.int i, .int 3] lk_X2_33 ⟨⟨rfl, rfl⟩, Nat.le_of_ble_eq_true rfl, Nat.le_of_ble_eq_true rfl⟩ rfl rfl (mX5_numberOf U25 isP1 (szok_kept (by simp [eU25, eU21, eU17, eU13, eU10, eU5, eU2, eU1, uM_at]) hk.1) i 3) rfl (Nat.le_of_ble_eq_true rfl) rfl dX2_begin_64 (kpI ?_)
  refine x_topi (y := nbV V 1 13 i 3) (nbV_kept (by simp [eU25, eU21, eU17, eU13, eU10, eU5, eU2, eU1, uM_at]) (fun i => by simp [eU25, eU21, eU17, eU13, eU10, eU5, eU2, eU1, uM_at]) _ _) ?_
  have q27 : (5 : Int32) = nI 5 := rfl
  refine YY.S (st' := [.int (nbV V 1 13 i 3), .int (nI 5), .ref (g.2.1 42)]) (by rw [q27]) ?_
  have b28 : vp_in (nI 5) 8 := by exact vp_in_nI (by omega) (by decide)
  refine x_iast rfl b28 dX2_begin_67 ?_
  refine YY.V (V' := uM U25 42 5 (nbV V 1 13 i 3)) (by rw [nI_clamp (by omega)]) ?_
  obtain ⟨U29, eU29⟩ : ∃ v_v : vM, v_v = uM U25 42 5 (nbV V 1 13 i 3) := ⟨_, rfl⟩
  refine YY.V eU29.symm ?_
  refine x_iinc 6 (v := 4) 0 [(6, .int 4), (5, .ref (g.2.1 42)), (0, .ref (g.2.1 26)), (1, .ref (g.2.1 1)), (2, .int i), (3, .int x), (4, .int y)] dX2_begin_68 rfl (by decide) (by decide) rfl ?_
  refine x_goto 43 dX2_begin_71 (by decide) ?_
  refine x_iload dX2_begin_43 0 rfl ?_
  refine x_iconst (v := 2) dX2_begin_45 (by decide) ?_
  refine x_aload_n dX2_begin_46 2 rfl ?_
  refine x_getI fl_X2_24 rfl rfl dX2_begin_47 ?_
  refine x_topi (y := 3) (by rw [eU29, uM_na (by decide), eU25, uM_na (by decide), eU21, uM_na (by decide), eU17, uM_na (by decide), eU13, uM_na (by decide), eU10, uM_na (by decide), eU5, uM_na (by decide), eU2, uM_ni (by decide), eU1, uM_hit]) ?_
  refine x_imul dX2_begin_50 ?_
  refine x_topi (y := 6) (by decide) ?_
  refine x_icmp_ge 74 dX2_begin_51 (by decide) (fun c30 => by exfalso; revert c30; decide) (fun c30 => ?_)
  refine x_aload dX2_begin_54 1 rfl ?_
  refine x_iload dX2_begin_56 0 rfl ?_
  refine x_iconst (v := 2) dX2_begin_58 (by decide) ?_
  refine x_iadd dX2_begin_59 ?_
  refine x_topi (y := 6) (by decide) ?_
  refine x_aload_n dX2_begin_60 3 rfl ?_
  refine x_iload_n dX2_begin_61 4 rfl ?_
  refine x_iload dX2_begin_62 0 rfl ?_
  refine x_callV (K := jX5_numberOf) [.int i, .int 4] lk_X2_33 ⟨⟨rfl, rfl⟩, Nat.le_of_ble_eq_true rfl, Nat.le_of_ble_eq_true rfl⟩ rfl rfl (mX5_numberOf U29 isP1 (szok_kept (by simp [eU29, eU25, eU21, eU17, eU13, eU10, eU5, eU2, eU1, uM_at]) hk.1) i 4) rfl (Nat.le_of_ble_eq_true rfl) rfl dX2_begin_64 (kpI ?_)
  refine x_topi (y := nbV V 1 13 i 4) (nbV_kept (by simp [eU29, eU25, eU21, eU17, eU13, eU10, eU5, eU2, eU1, uM_at]) (fun i => by simp [eU29, eU25, eU21, eU17, eU13, eU10, eU5, eU2, eU1, uM_at]) _ _) ?_
  have q31 : (6 : Int32) = nI 6 := rfl
  refine YY.S (st' := [.int (nbV V 1 13 i 4), .int (nI 6), .ref (g.2.1 42)]) (by rw [q31]) ?_
  have b32 : vp_in (nI 6) 8 := by exact vp_in_nI (by omega) (by decide)
  refine x_iast rfl b32 dX2_begin_67 ?_
  refine YY.V (V' := uM U29 42 6 (nbV V 1 13 i 4)) (by rw [nI_clamp (by omega)]) ?_
  obtain ⟨U33, eU33⟩ : ∃ v_v : vM, v_v = uM U29 42 6 (nbV V 1 13 i 4) := ⟨_, rfl⟩
  refine YY.V eU33.symm ?_
  refine x_iinc 6 (v := 5) 0 [(6, .int 5), (5, .ref (g.2.1 42)), (0, .ref (g.2.1 26)), (1, .ref (g.2.1 1)), (2, .int i), (3, .int x), (4, .int y)] dX2_begin_68 rfl (by decide) (by decide) rfl ?_
  refine x_goto 43 dX2_begin_71 (by decide) ?_
  refine x_iload dX2_begin_43 0 rfl ?_
  refine x_iconst (v := 2) dX2_begin_45 (by decide) ?_
  refine x_aload_n dX2_begin_46 2 rfl ?_
  refine x_getI fl_X2_24 rfl rfl dX2_begin_47 ?_
  refine x_topi (y := 3) (by rw [eU33, uM_na (by decide), eU29, uM_na (by decide), eU25, uM_na (by decide), eU21, uM_na (by decide), eU17, uM_na (by decide), eU13, uM_na (by decide), eU10, uM_na (by decide), eU5, uM_na (by decide), eU2, uM_ni (by decide), eU1, uM_hit]) ?_
  refine x_imul dX2_begin_50 ?_
  refine x_topi (y := 6) (by decide) ?_
  refine x_icmp_ge 74 dX2_begin_51 (by decide) (fun c34 => by exfalso; revert c34; decide) (fun c34 => ?_)
  refine x_aload dX2_begin_54 1 rfl ?_
  refine x_iload dX2_begin_56 0 rfl ?_
  refine x_iconst (v := 2) dX2_begin_58 (by decide) ?_
  refine x_iadd dX2_begin_59 ?_
  refine x_topi (y := 7) (by decide) ?_
  refine x_aload_n dX2_begin_60 3 rfl ?_
  refine x_iload_n dX2_begin_61 4 rfl ?_
  refine x_iload dX2_begin_62 0 rfl ?_
  refine x_callV (K := jX5_numberOf) [.int i, .int 5] lk_X2_33 ⟨⟨rfl, rfl⟩, Nat.le_of_ble_eq_true rfl, Nat.le_of_ble_eq_true rfl⟩ rfl rfl (mX5_numberOf U33 isP1 (szok_kept (by simp [eU33, eU29, eU25, eU21, eU17, eU13, eU10, eU5, eU2, eU1, uM_at]) hk.1) i 5) rfl (Nat.le_of_ble_eq_true rfl) rfl dX2_begin_64 (kpI ?_)
  refine x_topi (y := nbV V 1 13 i 5) (nbV_kept (by simp [eU33, eU29, eU25, eU21, eU17, eU13, eU10, eU5, eU2, eU1, uM_at]) (fun i => by simp [eU33, eU29, eU25, eU21, eU17, eU13, eU10, eU5, eU2, eU1, uM_at]) _ _) ?_
  have q35 : (7 : Int32) = nI 7 := rfl
  refine YY.S (st' := [.int (nbV V 1 13 i 5), .int (nI 7), .ref (g.2.1 42)]) (by rw [q35]) ?_
  have b36 : vp_in (nI 7) 8 := by exact vp_in_nI (by omega) (by decide)
  refine x_iast rfl b36 dX2_begin_67 ?_
  refine YY.V (V' := uM U33 42 7 (nbV V 1 13 i 5)) (by rw [nI_clamp (by omega)]) ?_
  obtain ⟨U37, eU37⟩ : ∃ v_v : vM, v_v = uM U33 42 7 (nbV V 1 13 i 5) := ⟨_, rfl⟩
  refine YY.V eU37.symm ?_
  refine x_iinc 6 (v := 6) 0 [(6, .int 6), (5, .ref (g.2.1 42)), (0, .ref (g.2.1 26)), (1, .ref (g.2.1 1)), (2, .int i), (3, .int x), (4, .int y)] dX2_begin_68 rfl (by decide) (by decide) rfl ?_
  refine x_goto 43 dX2_begin_71 (by decide) ?_
  refine x_iload dX2_begin_43 0 rfl ?_
  refine x_iconst (v := 2) dX2_begin_45 (by decide) ?_
  refine x_aload_n dX2_begin_46 2 rfl ?_
  refine x_getI fl_X2_24 rfl rfl dX2_begin_47 ?_
  refine x_topi (y := 3) (by rw [eU37, uM_na (by decide), eU33, uM_na (by decide), eU29, uM_na (by decide), eU25, uM_na (by decide), eU21, uM_na (by decide), eU17, uM_na (by decide), eU13, uM_na (by decide), eU10, uM_na (by decide), eU5, uM_na (by decide), eU2, uM_ni (by decide), eU1, uM_hit]) ?_
  refine x_imul dX2_begin_50 ?_
  refine x_topi (y := 6) (by decide) ?_
  refine x_icmp_ge 74 dX2_begin_51 (by decide) (fun c38 => ?_) (fun c38 => by exfalso; revert c38; decide)
  refine x_vret dX2_begin_74 rfl ?_
  rw [hQ]
  have f0 : U37 42 0 = x := by rw [eU37, uM_ni (by decide), eU33, uM_ni (by decide), eU29, uM_ni (by decide), eU25, uM_ni (by decide), eU21, uM_ni (by decide), eU17, uM_ni (by decide), eU13, uM_ni (by decide), eU10, uM_hit]
  have f1 : U37 42 1 = y := by rw [eU37, uM_ni (by decide), eU33, uM_ni (by decide), eU29, uM_ni (by decide), eU25, uM_ni (by decide), eU21, uM_ni (by decide), eU17, uM_ni (by decide), eU13, uM_hit]
  have f2 : U37 42 2 = nbV V 1 13 i 0 := by rw [eU37, uM_ni (by decide), eU33, uM_ni (by decide), eU29, uM_ni (by decide), eU25, uM_ni (by decide), eU21, uM_ni (by decide), eU17, uM_hit]
  have f3 : U37 42 3 = nbV V 1 13 i 1 := by rw [eU37, uM_ni (by decide), eU33, uM_ni (by decide), eU29, uM_ni (by decide), eU25, uM_ni (by decide), eU21, uM_hit]
  have f4 : U37 42 4 = nbV V 1 13 i 2 := by rw [eU37, uM_ni (by decide), eU33, uM_ni (by decide), eU29, uM_ni (by decide), eU25, uM_hit]
  have f5 : U37 42 5 = nbV V 1 13 i 3 := by rw [eU37, uM_ni (by decide), eU33, uM_ni (by decide), eU29, uM_hit]
  have f6 : U37 42 6 = nbV V 1 13 i 4 := by rw [eU37, uM_ni (by decide), eU33, uM_hit]
  have f7 : U37 42 7 = nbV V 1 13 i 5 := by rw [eU37, uM_hit]
  have g3 : U37 26 3 = 3 := by rw [eU37, uM_na (by decide), eU33, uM_na (by decide), eU29, uM_na (by decide), eU25, uM_na (by decide), eU21, uM_na (by decide), eU17, uM_na (by decide), eU13, uM_na (by decide), eU10, uM_na (by decide), eU5, uM_na (by decide), eU2, uM_ni (by decide), eU1, uM_hit]
  have g2 : U37 26 2 = 1 := by rw [eU37, uM_na (by decide), eU33, uM_na (by decide), eU29, uM_na (by decide), eU25, uM_na (by decide), eU21, uM_na (by decide), eU17, uM_na (by decide), eU13, uM_na (by decide), eU10, uM_na (by decide), eU5, uM_na (by decide), eU2, uM_hit]
  have g0 : U37 40 0 = 0 := by rw [eU37, uM_na (by decide), eU33, uM_na (by decide), eU29, uM_na (by decide), eU25, uM_na (by decide), eU21, uM_na (by decide), eU17, uM_na (by decide), eU13, uM_na (by decide), eU10, uM_na (by decide), eU5, uM_hit]
  refine ⟨rfl, g3, g2, g0, fun i hi => ?_, fun a i n1 n2 n3 => ?_⟩
  · have : i = 0 ∨ i = 1 ∨ i = 2 ∨ i = 3 ∨ i = 4 ∨ i = 5 ∨ i = 6 ∨ i = 7 := by omega
    rcases this with rfl | rfl | rfl | rfl | rfl | rfl | rfl | rfl
    · exact f0
    · exact f1
    · exact f2
    · exact f3
    · exact f4
    · exact f5
    · exact f6
    · exact f7
  · rw [eU37, uM_na (by omega), eU33, uM_na (by omega), eU29, uM_na (by omega), eU25, uM_na (by omega), eU21, uM_na (by omega), eU17, uM_na (by omega), eU13, uM_na (by omega), eU10, uM_na (by omega), eU5, uM_na n2, eU2, uM_na n1, eU1, uM_na n1]
set_option maxHeartbeats 1000000 in
set_option maxRecDepth 100000 in
theorem mX2_hasMore {g : gX} (V : vM) : MM g jX2_hasMore V [.ref (g.2.1 26)] (pI V (iB (0 < V 26 2))) := by
  refine MM.of plX2_hasMore (Nat.le_of_ble_eq_true rfl) ?_
  obtain ⟨Q, hQ⟩ : ∃ Q : Option Value → vM → Prop, Q = (pI V (iB (0 < V 26 2))) := ⟨_, rfl⟩
  rw [← hQ]
  show XX g jX2_hasMore Q V 0 [(0, .ref (g.2.1 26))] []
  refine x_aload_n dX2_hasMore_0 0 rfl ?_
  refine x_getI fl_X2_20 rfl rfl dX2_hasMore_1 ?_
  have jn3 : ∀ (z2 : Int32), (((V 26 2) ≤ 0 ∧ z2 = 0) ∨ (¬ (V 26 2) ≤ 0 ∧ z2 = 1)) → XX g jX2_hasMore Q V 12 [(0, .ref (g.2.1 26))] [.int z2] := by
    intro z2 hj4
    refine x_zret dX2_hasMore_12 rfl (by exact nar01 (by first | exact Or.inl rfl | exact Or.inr rfl | grind)) ?_
    rw [hQ]
    refine ⟨rfl, ?_⟩
    congr 2
    unfold iB
    grind
  refine x_if_le 11 dX2_hasMore_4 (by decide) (fun c1 => ?_) (fun c1 => ?_)
  · refine x_iconst (v := 0) dX2_hasMore_11 (by decide) ?_
    exact jn3 _ (Or.inl ⟨c1, rfl⟩)
  · refine x_iconst (v := 1) dX2_hasMore_7 (by decide) ?_
    refine x_goto 12 dX2_hasMore_8 (by decide) ?_
    exact jn3 _ (Or.inr ⟨c1, rfl⟩)
set_option maxHeartbeats 1000000 in
set_option maxRecDepth 100000 in
theorem mX2_nextX2 {g : gX} (V : vM) (m : Nat) (hm : m < 7) (hw : V 26 2 = nI (m + 1)) (hl : V 26 3 = 2) : MM g jX2_nextX V [.ref (g.2.1 26)] (pI V (V (42 + m) 4)) := by
  refine MM.of plX2_nextX (Nat.le_of_ble_eq_true rfl) ?_
  obtain ⟨Q, hQ⟩ : ∃ Q : Option Value → vM → Prop, Q = (pI V (V (42 + m) 4)) := ⟨_, rfl⟩
  rw [← hQ]
  show XX g jX2_nextX Q V 0 [(0, .ref (g.2.1 26))] []
  refine x_aload_n dX2_nextX_0 0 rfl ?_
  refine x_getI fl_X2_20 rfl rfl dX2_nextX_1 ?_
  refine x_topi (hw) ?_
  refine x_if_le 28 dX2_nextX_4 (by decide) (fun c1 => by exfalso; exact absurd c1 (nI_nle (by omega) (by omega))) (fun c1 => ?_)
  refine x_aload_n dX2_nextX_7 0 rfl ?_
  refine x_getR fl_X2_11 rfl rfl dX2_nextX_8 ?_
  refine x_aload_n dX2_nextX_11 0 rfl ?_
  refine x_getI fl_X2_20 rfl rfl dX2_nextX_12 ?_
  refine x_topi (hw) ?_
  refine x_iconst (v := 1) dX2_nextX_15 (by decide) ?_
  refine x_isub dX2_nextX_16 ?_
  refine x_topi (y := nI m) (nI_pred _) ?_
  have b2 : vp_in (nI m) 7 := by exact vp_in_nI (by omega) (by decide)
  refine x_aaldP rfl b2 dX2_nextX_17 ?_
  refine YY.S (st' := [.ref (g.2.1 (42 + m))]) (by rw [nI_clamp (by omega)]) ?_
  refine x_iconst (v := 2) dX2_nextX_18 (by decide) ?_
  refine x_aload_n dX2_nextX_19 0 rfl ?_
  refine x_getI fl_X2_24 rfl rfl dX2_nextX_20 ?_
  refine x_topi (hl) ?_
  refine x_imul dX2_nextX_23 ?_
  refine x_topi (y := 4) (by decide) ?_
  have q3 : (4 : Int32) = nI 4 := rfl
  refine YY.S (st' := [.int (nI 4), .ref (g.2.1 (42 + m))]) (by rw [q3]) ?_
  have b4 : vp_in (nI 4) 8 := by exact vp_in_nI (by omega) (by decide)
  refine x_iald (shRow m (by omega)) b4 dX2_nextX_24 ?_
  refine x_topi (y := V (42 + m) 4) (by rw [nI_clamp (by omega)]) ?_
  refine x_goto 29 dX2_nextX_25 (by decide) ?_
  refine x_iret dX2_nextX_29 rfl ?_
  rw [hQ]
  exact ⟨rfl, rfl⟩
set_option maxHeartbeats 1000000 in
set_option maxRecDepth 100000 in
theorem mX2_nextY2 {g : gX} (V : vM) (m : Nat) (hm : m < 7) (hw : V 26 2 = nI (m + 1)) (hl : V 26 3 = 2) : MM g jX2_nextY V [.ref (g.2.1 26)] (pI V (V (42 + m) 5)) := by
  refine MM.of plX2_nextY (Nat.le_of_ble_eq_true rfl) ?_
  obtain ⟨Q, hQ⟩ : ∃ Q : Option Value → vM → Prop, Q = (pI V (V (42 + m) 5)) := ⟨_, rfl⟩
  rw [← hQ]
  show XX g jX2_nextY Q V 0 [(0, .ref (g.2.1 26))] []
  refine x_aload_n dX2_nextY_0 0 rfl ?_
  refine x_getI fl_X2_20 rfl rfl dX2_nextY_1 ?_
  refine x_topi (hw) ?_
  refine x_if_le 30 dX2_nextY_4 (by decide) (fun c1 => by exfalso; exact absurd c1 (nI_nle (by omega) (by omega))) (fun c1 => ?_)
  refine x_aload_n dX2_nextY_7 0 rfl ?_
  refine x_getR fl_X2_11 rfl rfl dX2_nextY_8 ?_
  refine x_aload_n dX2_nextY_11 0 rfl ?_
  refine x_getI fl_X2_20 rfl rfl dX2_nextY_12 ?_
  refine x_topi (hw) ?_
  refine x_iconst (v := 1) dX2_nextY_15 (by decide) ?_
  refine x_isub dX2_nextY_16 ?_
  refine x_topi (y := nI m) (nI_pred _) ?_
  have b2 : vp_in (nI m) 7 := by exact vp_in_nI (by omega) (by decide)
  refine x_aaldP rfl b2 dX2_nextY_17 ?_
  refine YY.S (st' := [.ref (g.2.1 (42 + m))]) (by rw [nI_clamp (by omega)]) ?_
  refine x_iconst (v := 2) dX2_nextY_18 (by decide) ?_
  refine x_aload_n dX2_nextY_19 0 rfl ?_
  refine x_getI fl_X2_24 rfl rfl dX2_nextY_20 ?_
  refine x_topi (hl) ?_
  refine x_imul dX2_nextY_23 ?_
  refine x_topi (y := 4) (by decide) ?_
  refine x_iconst (v := 1) dX2_nextY_24 (by decide) ?_
  refine x_iadd dX2_nextY_25 ?_
  refine x_topi (y := 5) (by decide) ?_
  have q3 : (5 : Int32) = nI 5 := rfl
  refine YY.S (st' := [.int (nI 5), .ref (g.2.1 (42 + m))]) (by rw [q3]) ?_
  have b4 : vp_in (nI 5) 8 := by exact vp_in_nI (by omega) (by decide)
  refine x_iald (shRow m (by omega)) b4 dX2_nextY_26 ?_
  refine x_topi (y := V (42 + m) 5) (by rw [nI_clamp (by omega)]) ?_
  refine x_goto 31 dX2_nextY_27 (by decide) ?_
  refine x_iret dX2_nextY_31 rfl ?_
  rw [hQ]
  exact ⟨rfl, rfl⟩
set_option maxHeartbeats 1000000 in
set_option maxRecDepth 100000 in
theorem mX2_nextX3 {g : gX} (V : vM) (m : Nat) (hm : m < 7) (hw : V 26 2 = nI (m + 1)) (hl : V 26 3 = 3) : MM g jX2_nextX V [.ref (g.2.1 26)] (pI V (V (42 + m) 6)) := by
  refine MM.of plX2_nextX (Nat.le_of_ble_eq_true rfl) ?_
  obtain ⟨Q, hQ⟩ : ∃ Q : Option Value → vM → Prop, Q = (pI V (V (42 + m) 6)) := ⟨_, rfl⟩
  rw [← hQ]
  show XX g jX2_nextX Q V 0 [(0, .ref (g.2.1 26))] []
  refine x_aload_n dX2_nextX_0 0 rfl ?_
  refine x_getI fl_X2_20 rfl rfl dX2_nextX_1 ?_
  refine x_topi (hw) ?_
  refine x_if_le 28 dX2_nextX_4 (by decide) (fun c1 => by exfalso; exact absurd c1 (nI_nle (by omega) (by omega))) (fun c1 => ?_)
  refine x_aload_n dX2_nextX_7 0 rfl ?_
  refine x_getR fl_X2_11 rfl rfl dX2_nextX_8 ?_
  refine x_aload_n dX2_nextX_11 0 rfl ?_
  refine x_getI fl_X2_20 rfl rfl dX2_nextX_12 ?_
  refine x_topi (hw) ?_
  refine x_iconst (v := 1) dX2_nextX_15 (by decide) ?_
  refine x_isub dX2_nextX_16 ?_
  refine x_topi (y := nI m) (nI_pred _) ?_
  have b2 : vp_in (nI m) 7 := by exact vp_in_nI (by omega) (by decide)
  refine x_aaldP rfl b2 dX2_nextX_17 ?_
  refine YY.S (st' := [.ref (g.2.1 (42 + m))]) (by rw [nI_clamp (by omega)]) ?_
  refine x_iconst (v := 2) dX2_nextX_18 (by decide) ?_
  refine x_aload_n dX2_nextX_19 0 rfl ?_
  refine x_getI fl_X2_24 rfl rfl dX2_nextX_20 ?_
  refine x_topi (hl) ?_
  refine x_imul dX2_nextX_23 ?_
  refine x_topi (y := 6) (by decide) ?_
  have q3 : (6 : Int32) = nI 6 := rfl
  refine YY.S (st' := [.int (nI 6), .ref (g.2.1 (42 + m))]) (by rw [q3]) ?_
  have b4 : vp_in (nI 6) 8 := by exact vp_in_nI (by omega) (by decide)
  refine x_iald (shRow m (by omega)) b4 dX2_nextX_24 ?_
  refine x_topi (y := V (42 + m) 6) (by rw [nI_clamp (by omega)]) ?_
  refine x_goto 29 dX2_nextX_25 (by decide) ?_
  refine x_iret dX2_nextX_29 rfl ?_
  rw [hQ]
  exact ⟨rfl, rfl⟩
set_option maxHeartbeats 1000000 in
set_option maxRecDepth 100000 in
theorem mX2_nextY3 {g : gX} (V : vM) (m : Nat) (hm : m < 7) (hw : V 26 2 = nI (m + 1)) (hl : V 26 3 = 3) : MM g jX2_nextY V [.ref (g.2.1 26)] (pI V (V (42 + m) 7)) := by
  refine MM.of plX2_nextY (Nat.le_of_ble_eq_true rfl) ?_
  obtain ⟨Q, hQ⟩ : ∃ Q : Option Value → vM → Prop, Q = (pI V (V (42 + m) 7)) := ⟨_, rfl⟩
  rw [← hQ]
  show XX g jX2_nextY Q V 0 [(0, .ref (g.2.1 26))] []
  refine x_aload_n dX2_nextY_0 0 rfl ?_
  refine x_getI fl_X2_20 rfl rfl dX2_nextY_1 ?_
  refine x_topi (hw) ?_
  refine x_if_le 30 dX2_nextY_4 (by decide) (fun c1 => by exfalso; exact absurd c1 (nI_nle (by omega) (by omega))) (fun c1 => ?_)
  refine x_aload_n dX2_nextY_7 0 rfl ?_
  refine x_getR fl_X2_11 rfl rfl dX2_nextY_8 ?_
  refine x_aload_n dX2_nextY_11 0 rfl ?_
  refine x_getI fl_X2_20 rfl rfl dX2_nextY_12 ?_
  refine x_topi (hw) ?_
  refine x_iconst (v := 1) dX2_nextY_15 (by decide) ?_
  refine x_isub dX2_nextY_16 ?_
  refine x_topi (y := nI m) (nI_pred _) ?_
  have b2 : vp_in (nI m) 7 := by exact vp_in_nI (by omega) (by decide)
  refine x_aaldP rfl b2 dX2_nextY_17 ?_
  refine YY.S (st' := [.ref (g.2.1 (42 + m))]) (by rw [nI_clamp (by omega)]) ?_
  refine x_iconst (v := 2) dX2_nextY_18 (by decide) ?_
  refine x_aload_n dX2_nextY_19 0 rfl ?_
  refine x_getI fl_X2_24 rfl rfl dX2_nextY_20 ?_
  refine x_topi (hl) ?_
  refine x_imul dX2_nextY_23 ?_
  refine x_topi (y := 6) (by decide) ?_
  refine x_iconst (v := 1) dX2_nextY_24 (by decide) ?_
  refine x_iadd dX2_nextY_25 ?_
  refine x_topi (y := 7) (by decide) ?_
  have q3 : (7 : Int32) = nI 7 := rfl
  refine YY.S (st' := [.int (nI 7), .ref (g.2.1 (42 + m))]) (by rw [q3]) ?_
  have b4 : vp_in (nI 7) 8 := by exact vp_in_nI (by omega) (by decide)
  refine x_iald (shRow m (by omega)) b4 dX2_nextY_26 ?_
  refine x_topi (y := V (42 + m) 7) (by rw [nI_clamp (by omega)]) ?_
  refine x_goto 31 dX2_nextY_27 (by decide) ?_
  refine x_iret dX2_nextY_31 rfl ?_
  rw [hQ]
  exact ⟨rfl, rfl⟩
set_option maxHeartbeats 1000000 in
set_option maxRecDepth 100000 in
theorem mX2_dropNext {g : gX} (V : vM) (m : Nat) (hm : m < 7) (hw : V 26 2 = nI (m + 1)) : MM g jX2_dropNext V [.ref (g.2.1 26)] (dV (uM V 26 2 (nI m))) := by
  refine MM.of plX2_dropNext (Nat.le_of_ble_eq_true rfl) ?_
  obtain ⟨Q, hQ⟩ : ∃ Q : Option Value → vM → Prop, Q = (dV (uM V 26 2 (nI m))) := ⟨_, rfl⟩
  rw [← hQ]
  show XX g jX2_dropNext Q V 0 [(0, .ref (g.2.1 26))] []
  refine x_aload_n dX2_dropNext_0 0 rfl ?_
  refine x_getI fl_X2_20 rfl rfl dX2_dropNext_1 ?_
  refine x_topi (hw) ?_
  refine x_if_le 17 dX2_dropNext_4 (by decide) (fun c1 => by exfalso; exact absurd c1 (nI_nle (by omega) (by omega))) (fun c1 => ?_)
  refine x_aload_n dX2_dropNext_7 0 rfl ?_
  refine x_dup dX2_dropNext_8 rfl ?_
  refine x_getI fl_X2_20 rfl rfl dX2_dropNext_9 ?_
  refine x_topi (hw) ?_
  refine x_iconst (v := 1) dX2_dropNext_12 (by decide) ?_
  refine x_isub dX2_dropNext_13 ?_
  refine x_topi (y := nI m) (nI_pred _) ?_
  refine x_putI fp_X2_20 rfl rfl dX2_dropNext_14 ?_
  obtain ⟨U2, eU2⟩ : ∃ v_v : vM, v_v = uM V 26 2 (nI m) := ⟨_, rfl⟩
  refine YY.V eU2.symm ?_
  refine x_vret dX2_dropNext_17 rfl ?_
  rw [hQ]
  subst_vars
  exact ⟨rfl, rfl⟩
/-- the class's flat cells hold the pure state -/
def FRC (V : vM) (S : FS) : Prop := V 6 7 = nI S.1 ∧ V 6 8 = nI S.2.1 ∧ (∀ i, i < S.1 → V 20 i = S.2.2 0 i ∧ V 21 i = S.2.2 1 i ∧ V 22 i = S.2.2 2 i ∧ V 23 i = S.2.2 3 i) ∧ (∀ j, j ≤ S.2.1 → V 24 j = S.2.2 4 j) ∧ (∀ j, j < S.2.1 → V 25 j = S.2.2 6 j)
def SOK (S : FS) : Prop := 0 < S.1 ∧ 0 < S.2.1 ∧ S.2.1 ≤ 24 ∧ ∀ i, i < S.1 → inR (S.2.2 0 i) ∧ inR (S.2.2 1 i)
theorem fadd_sz (S : FS) (c : Nat) (x y : Int32) : (fadd S c x y).1 ≤ S.1 + 1 ∧ S.1 ≤ (fadd S c x y).1 ∧ (fadd S c x y).2.1 = S.2.1 := by
  unfold fadd
  split
  · exact ⟨by omega, by omega, rfl⟩
  · exact ⟨Nat.le_refl _, by show S.1 ≤ S.1 + 1; omega, rfl⟩
theorem fadd_ok {S : FS} (h : SOK S) (c : Nat) {x y : Int32} (hx : inR x) (hy : inR y) : SOK (fadd S c x y) := by
  unfold fadd
  split
  · exact h
  · obtain ⟨h1, h2, h3, h4⟩ := h
    refine ⟨by show 0 < S.1 + 1; omega, h2, h3, fun i hi => ?_⟩
    have hi : i < S.1 + 1 := hi
    by_cases e : i = S.1
    · subst e
      exact ⟨by simp [fpsh, uM_at, hx], by simp [fpsh, uM_at, hy]⟩
    · have := h4 i (by omega)
      exact ⟨by simp [fpsh, uM_at, e, this.1], by simp [fpsh, uM_at, e, this.2]⟩
theorem natAbs_r {a b : Int32} (ha : inR a) (hb : inR b) : (a - b).toInt.natAbs ≤ 8000 := by
  unfold inR at *
  have a1 := Int32.le_iff_toInt_le.mp ha.1
  have a2 := Int32.le_iff_toInt_le.mp ha.2
  have b1 := Int32.le_iff_toInt_le.mp hb.1
  have b2 := Int32.le_iff_toInt_le.mp hb.2
  rw [show (-4000 : Int32).toInt = -4000 from rfl] at a1 b1
  rw [show (4000 : Int32).toInt = 4000 from rfl] at a2 b2
  rw [fb_subI (by omega) (by omega)]
  omega
/-- addVertex on the class's cells is fadd -/
theorem FRC_add {V : vM} {S : FS} (h : FRC V S) (c : Nat) (x y : Int32) (h0 : 0 < S.1) :
    FRC (if x - V 20 (S.1 - 1) = 0 ∧ y - V 21 (S.1 - 1) = 0 then V else cap V S.1 S.2.1 (nI c) x y (V 22 (S.1 - 1) + lenI (x - V 20 (S.1 - 1)) (y - V 21 (S.1 - 1)))) (fadd S c x y) := by
  obtain ⟨h1, h2, h3, h4, h5⟩ := h
  obtain ⟨e0, e1, e2, -⟩ := h3 (S.1 - 1) (by omega)
  rw [e0, e1, e2]
  unfold fadd
  by_cases q : x - S.2.2 0 (S.1 - 1) = 0 ∧ y - S.2.2 1 (S.1 - 1) = 0
  · rw [if_pos q, if_pos q]
    exact ⟨h1, h2, h3, h4, h5⟩
  · rw [if_neg q, if_neg q]
    unfold cap fpsh flenS
    refine ⟨?_, ?_, fun i hi => ?_, fun j hj => ?_, fun j hj => ?_⟩
    · simp [uM_at]
    · simp [uM_at, h2]
    · have hi : i < S.1 + 1 := hi
      by_cases e : i = S.1
      · subst e
        simp [uM_at]
      · have := h3 i (by omega)
        simp [uM_at, e, this]
    · have hj : j ≤ S.2.1 := hj
      by_cases e : j = S.2.1
      · subst e
        simp [uM_at]
      · simp [uM_at, e, h4 j hj]
    · have hj : j < S.2.1 := hj
      simp [uM_at, h5 j hj]
/-- what addCurve's loop keeps: the pieces wait in the halver, the flattening stands at S, all that is to come gives R -/
def AC (l : Nat) (t : Int32) (c : Nat) (B : Nat) (R : FS) (V0 U : vM) (st : STK) (S : FS) : Prop :=
  U 26 2 = nI st.length ∧ U 26 3 = nI l ∧ SRl U l st ∧ okL st ∧ rgS l st ∧ FRC U S ∧ SOK S ∧ fstk l t c st S = R ∧ S.1 + slv st ≤ B ∧
  ∀ a i, a ≠ 6 → (a < 20 ∨ 24 < a) → a ≠ 26 → a ≠ 40 → (a < 42 ∨ 49 ≤ a) → U a i = V0 a i
theorem okL_tail {h : Nat} {p : Nat → Int32} {r : STK} (H : okL ((h, p) :: r)) : okL r := by
  obtain ⟨-, -, h3⟩ := H
  cases r with
  | nil => trivial
  | cons q r =>
    obtain ⟨h, p⟩ := q
    obtain ⟨a, b, c⟩ := h3
    exact ⟨by omega, b, c⟩
theorem slv_pos (h : Nat) (p : Nat → Int32) (r : STK) : 1 + slv r ≤ slv ((h, p) :: r) := by
  show 1 + slv r ≤ 2 ^ (6 - h) + slv r
  have := Nat.two_pow_pos (6 - h)
  omega
theorem FRC.kept {V U : vM} {S : FS} (h : FRC V S) (hk : ∀ a i, (a = 6 ∨ 20 ≤ a ∧ a ≤ 25) → U a i = V a i) : FRC U S := by
  obtain ⟨h1, h2, h3, h4, h5⟩ := h
  refine ⟨by rw [hk 6 7 (by omega)]; exact h1, by rw [hk 6 8 (by omega)]; exact h2, fun i hi => ?_, fun j hj => by rw [hk 24 j (by omega)]; exact h4 j hj, fun j hj => by rw [hk 25 j (by omega)]; exact h5 j hj⟩
  rw [hk 20 i (by omega), hk 21 i (by omega), hk 22 i (by omega), hk 23 i (by omega)]
  exact h3 i hi
theorem fsub_leaf {l : Nat} {t : Int32} {c h : Nat} {p q : Nat → Int32} (hl : l = 2 ∨ l = 3) (hpq : ∀ i, i < 2 * l + 2 → q i = p i) (hh : h = 6 ∨ flt l q t) (S : FS) : fsub l t c (6 - h) p S = fadd S c (q (2 * l)) (q (2 * l + 1)) := by
  rw [hpq (2 * l) (by omega), hpq (2 * l + 1) (by omega)]
  rcases hh with rfl | hf
  · rfl
  · cases h : 6 - h with
    | zero => rfl
    | succ k =>
      rw [fsub, if_pos (bP_1.mpr ((flt_cong hl hpq t).mp hf))]
theorem AC_init {l : Nat} (hl : l = 2 ∨ l = 3) {t : Int32} {c : Nat} {V U : vM} {p0 q0 : Nat → Int32} {S0 : FS} (hS : SOK S0) (hF : FRC V S0) (hp0 : ∀ j, j < 2 * l + 2 → p0 j = q0 j) (hpr : ∀ j, j < 2 * l + 2 → inR (p0 j))
    (b1 : U 26 2 = 1) (b2 : U 26 3 = nI l) (b3 : U 40 0 = 0) (b4 : ∀ j, j < 2 * l + 2 → U 42 j = q0 j) (b5 : frH V U) : AC l t c (S0.1 + 64) (fsub l t c 6 p0 S0) V U [(0, p0)] S0 := by
  refine ⟨b1, b2, ⟨b3, fun i hi => ?_, trivial⟩, ⟨Nat.zero_le _, by omega, trivial⟩, ⟨hpr, trivial⟩, hF.kept (fun a i q => b5 a i (by omega) (by omega) (by omega)), hS, rfl, ?_, fun a i n1 n2 n3 n4 n5 => b5 a i n3 n4 n5⟩
  · show U 42 i = p0 i
    rw [b4 i hi, hp0 i hi]
  · show S0.1 + (2 ^ (6 - 0) + 0) ≤ S0.1 + 64
    omega
/-- one piece that is flat (or halved enough) is taken off: its vertex comes to the flattening -/
theorem AC_step {l : Nat} (hl : l = 2 ∨ l = 3) {t : Int32} {c B : Nat} {R : FS} {V0 U0 U U2 U3 : vM} {st : STK} {S : FS} {h : Nat} {p : Nat → Int32} {r : STK}
    (H : AC l t c B R V0 U0 st S) (K : HS l t U0 st U ((h, p) :: r)) (hf : h = 6 ∨ flt l (U (42 + r.length)) t)
    (e2 : U2 = if U (42 + r.length) (2 * l) - U 20 (S.1 - 1) = 0 ∧ U (42 + r.length) (2 * l + 1) - U 21 (S.1 - 1) = 0 then U else cap U S.1 S.2.1 (nI c) (U (42 + r.length) (2 * l)) (U (42 + r.length) (2 * l + 1)) (U 22 (S.1 - 1) + lenI (U (42 + r.length) (2 * l) - U 20 (S.1 - 1)) (U (42 + r.length) (2 * l + 1) - U 21 (S.1 - 1))))
    (e3 : U3 = uM U2 26 2 (nI r.length)) : AC l t c B R V0 U3 r (fadd S c (U (42 + r.length) (2 * l)) (U (42 + r.length) (2 * l + 1))) := by
  obtain ⟨a1, a2, a3, a4, a5, a6, a7, a8, a9, a10⟩ := H
  obtain ⟨k1, k2, ⟨s1, s2, s3⟩, k4, ⟨g1, g2⟩, k6, k7, k8⟩ := K
  have hU6 : FRC U S := a6.kept (fun a i q => k8 a i (by omega) (by omega) (by omega))
  have hrl : r.length ≤ 6 := by have := k4.1; have := k4.2.1; omega
  have hx : inR (U (42 + r.length) (2 * l)) := by rw [s2 _ (by omega)]; exact g1 _ (by omega)
  have hy : inR (U (42 + r.length) (2 * l + 1)) := by rw [s2 _ (by omega)]; exact g1 _ (by omega)
  have hfr : ∀ a i, a ≠ 6 → (a < 20 ∨ 24 < a) → U2 a i = U a i := by
    intro a i n1 n2
    rw [e2]
    split
    · rfl
    · unfold cap
      rw [uM_na (by omega), uM_na (by omega), uM_na (by omega), uM_na (by omega), uM_na (by omega), uM_na (by omega)]
  have hF : FRC U2 (fadd S c (U (42 + r.length) (2 * l)) (U (42 + r.length) (2 * l + 1))) := by rw [e2]; exact FRC_add hU6 c _ _ a7.1
  have h3 : ∀ a i, a ≠ 26 → U3 a i = U2 a i := fun a i n => by rw [e3, uM_na n]
  refine ⟨by rw [e3, uM_hit], ?_, ?_, okL_tail k4, g2, hF.kept (fun a i q => h3 a i (by omega)), fadd_ok a7 c hx hy, ?_, ?_, fun a i n1 n2 n3 n4 n5 => ?_⟩
  · rw [e3, uM_ni (by decide), hfr 26 3 (by decide) (by omega)]; exact k2
  · refine s3.kept (fun j hj => ⟨?_, fun i => ?_⟩)
    · rw [h3 40 j (by decide), hfr 40 j (by decide) (by omega)]
    · rw [h3 _ i (by omega), hfr _ i (by omega) (by omega)]
  · rw [← a8, ← k6 c S]
    show fstk l t c r _ = fstk l t c r (fsub l t c (6 - h) p S)
    rw [fsub_leaf hl s2 hf S]
  · have := fadd_sz S c (U (42 + r.length) (2 * l)) (U (42 + r.length) (2 * l + 1))
    have := slv_pos h p r
    omega
  · rw [h3 a i n3, hfr a i n1 n2, k8 a i n3 n4 n5]
    exact a10 a i n1 n2 n3 n4 n5
set_option maxHeartbeats 4000000 in
set_option maxRecDepth 100000 in
theorem mX1_addCurve2 {g : gX} (V : vM) (hk : kok V 1 12) (c : Nat) (t : Int32) (hl : ptV V 1 12 (nI c) = 2) (p0 : Nat → Int32) (hp0 : ∀ j, j < 6 → p0 j = cst (nbV V 1 13 (nI c - 1) (2 * ptV V 1 12 (nI c - 1) - 2)) (nbV V 1 13 (nI c - 1) (2 * ptV V 1 12 (nI c - 1) - 1)) (fun j => nbV V 1 13 (nI c) (nI j)) j) (hpr : ∀ j, j < 6 → inR (p0 j)) {S0 : FS} (hF : FRC V S0) (hS : SOK S0) (hB : S0.1 + 64 ≤ 1536) : MM g jX1_addCurve V [.ref (g.2.1 6), .ref (g.2.1 1), .int (nI c), .int t] (eV (fun U => FRC U (fsub 2 t c 6 p0 S0) ∧ SOK (fsub 2 t c 6 p0 S0) ∧ (fsub 2 t c 6 p0 S0).1 ≤ S0.1 + 64 ∧ ∀ a i, a ≠ 6 → (a < 20 ∨ 24 < a) → a ≠ 26 → a ≠ 40 → (a < 42 ∨ 49 ≤ a) → U a i = V a i)) := by
  refine MM.of plX1_addCurve (Nat.le_of_ble_eq_true rfl) ?_
  obtain ⟨Q, hQ⟩ : ∃ Q : Option Value → vM → Prop, Q = (eV (fun U => FRC U (fsub 2 t c 6 p0 S0) ∧ SOK (fsub 2 t c 6 p0 S0) ∧ (fsub 2 t c 6 p0 S0).1 ≤ S0.1 + 64 ∧ ∀ a i, a ≠ 6 → (a < 20 ∨ 24 < a) → a ≠ 26 → a ≠ 40 → (a < 42 ∨ 49 ≤ a) → U a i = V a i)) := ⟨_, rfl⟩
  rw [← hQ]
  show XX g jX1_addCurve Q V 0 [(0, .ref (g.2.1 6)), (1, .ref (g.2.1 1)), (2, .int (nI c)), (3, .int t)] []
  refine x_aload_n dX1_addCurve_0 0 rfl ?_
  refine x_getR fl_X1_34 rfl rfl dX1_addCurve_1 ?_
  refine x_aload_n dX1_addCurve_4 1 rfl ?_
  refine x_iload_n dX1_addCurve_5 2 rfl ?_
  refine x_aload_n dX1_addCurve_6 1 rfl ?_
  refine x_iload_n dX1_addCurve_7 2 rfl ?_
  refine x_iconst (v := 1) dX1_addCurve_8 (by decide) ?_
  refine x_isub dX1_addCurve_9 ?_
  refine x_callV (K := jX5_endX) [.int ((nI c) - 1)] lk_X1_52 ⟨⟨rfl, rfl⟩, Nat.le_of_ble_eq_true rfl, Nat.le_of_ble_eq_true rfl⟩ rfl rfl (mX5_endX V isP1 hk ((nI c) - 1)) rfl (Nat.le_of_ble_eq_true rfl) rfl dX1_addCurve_10 (kpI ?_)
  refine x_aload_n dX1_addCurve_13 1 rfl ?_
  refine x_iload_n dX1_addCurve_14 2 rfl ?_
  refine x_iconst (v := 1) dX1_addCurve_15 (by decide) ?_
  refine x_isub dX1_addCurve_16 ?_
  refine x_callV (K := jX5_endY) [.int ((nI c) - 1)] lk_X1_55 ⟨⟨rfl, rfl⟩, Nat.le_of_ble_eq_true rfl, Nat.le_of_ble_eq_true rfl⟩ rfl rfl (mX5_endY V isP1 hk ((nI c) - 1)) rfl (Nat.le_of_ble_eq_true rfl) rfl dX1_addCurve_17 (kpI ?_)
  refine x_callV (K := jX2_begin) [.ref (g.2.1 1), .int (nI c), .int (nbV V 1 13 ((nI c) - 1) (2 * ptV V 1 12 ((nI c) - 1) - 2)), .int (nbV V 1 13 ((nI c) - 1) (2 * ptV V 1 12 ((nI c) - 1) - 1))] lk_X1_73 ⟨⟨rfl, rfl⟩, Nat.le_of_ble_eq_true rfl, Nat.le_of_ble_eq_true rfl⟩ rfl rfl (mX2_begin2 V hk (nI c) (nbV V 1 13 ((nI c) - 1) (2 * ptV V 1 12 ((nI c) - 1) - 2)) (nbV V 1 13 ((nI c) - 1) (2 * ptV V 1 12 ((nI c) - 1) - 1)) hl) rfl (Nat.le_of_ble_eq_true rfl) rfl dX1_addCurve_20 (keV fun U1 hU2 => ?_)
  refine x_iconst (v := 0) dX1_addCurve_23 (by decide) ?_
  refine x_istore 4 [(4, .int 0), (0, .ref (g.2.1 6)), (1, .ref (g.2.1 1)), (2, .int (nI c)), (3, .int t)] dX1_addCurve_24 (by decide) rfl ?_
  have lp3 : ∀ (fu : Nat) (i : Nat) (stk : STK) (S : FS) (U : vM), (i ≤ 64) → (slv stk ≤ 64 - i) → (AC 2 t c (S0.1 + 64) (fsub 2 t c 6 p0 S0) V U stk S) → (64 - i) < fu → XX g jX1_addCurve Q U 26 [(4, .int (nI i)), (0, .ref (g.2.1 6)), (1, .ref (g.2.1 1)), (2, .int (nI c)), (3, .int t)] [] := by
    intro fu
    induction fu with
    | zero => intro _ _ _ _ _ _ _ hmz; exact absurd hmz (Nat.not_lt_zero _)
    | succ fu ih =>
      intro i stk S U hi hsl hA hmz
      refine x_iload dX1_addCurve_26 0 rfl ?_
      refine x_bipush (v := 64) dX1_addCurve_28 (by decide) ?_
      refine x_icmp_ge 83 dX1_addCurve_30 (by decide) (fun c4 => ?_) (fun c4 => ?_)
      · have c4n : 64 ≤ i := (nl_le (a := 64) (b := i) (rfl) (rfl) (by omega) (by omega)).mp c4
        refine x_vret dX1_addCurve_83 rfl ?_
        rw [hQ]
        refine ⟨rfl, ?_⟩
        have hnil : stk = [] := by
          cases stk with
          | nil => rfl
          | cons q r => exfalso; obtain ⟨qh, qp⟩ := q; have := slv_pos qh qp r; first | (rw [hA.1] at *; have hlen : r.length ≤ 6 := (by have := hA.2.2.2.1.1; have := hA.2.2.2.1.2.1; omega); exact absurd (show ¬ (0 : Int32) < nI (r.length + 1) by assumption) (fun q => q (nI_lt (a := 0) (by omega) (by omega)))) | omega
        subst hnil
        obtain ⟨-, -, -, -, -, q6, q7, q8, q9, q10⟩ := hA
        have q8 : S = fsub 2 t c 6 p0 S0 := q8
        rw [← q8]
        exact ⟨q6, q7, by simpa [slv] using q9, q10⟩
      · have c4n : i < 64 := Nat.not_le.mp (fun q => c4 ((nl_le (a := 64) (b := i) (rfl) (rfl) (by omega) (by omega)).mpr q))
        refine x_aload_n dX1_addCurve_33 1 rfl ?_
        refine x_getR fl_X1_34 rfl rfl dX1_addCurve_34 ?_
        refine x_callV (K := jX2_hasMore) [] lk_X1_77 ⟨⟨rfl, rfl⟩, Nat.le_of_ble_eq_true rfl, Nat.le_of_ble_eq_true rfl⟩ rfl rfl (mX2_hasMore U) rfl (Nat.le_of_ble_eq_true rfl) rfl dX1_addCurve_37 (kpI ?_)
        refine x_if_eq 83 dX1_addCurve_40 (by decide) (fun c5 => ?_) (fun c5 => ?_)
        · have c5n : ¬ (0 < U 26 2) := iB_0.mp c5
          refine x_vret dX1_addCurve_83 rfl ?_
          rw [hQ]
          refine ⟨rfl, ?_⟩
          have hnil : stk = [] := by
            cases stk with
            | nil => rfl
            | cons q r => exfalso; obtain ⟨qh, qp⟩ := q; have := slv_pos qh qp r; first | (rw [hA.1] at *; have hlen : r.length ≤ 6 := (by have := hA.2.2.2.1.1; have := hA.2.2.2.1.2.1; omega); exact absurd (show ¬ (0 : Int32) < nI (r.length + 1) by assumption) (fun q => q (nI_lt (a := 0) (by omega) (by omega)))) | omega
          subst hnil
          obtain ⟨-, -, -, -, -, q6, q7, q8, q9, q10⟩ := hA
          have q8 : S = fsub 2 t c 6 p0 S0 := q8
          rw [← q8]
          exact ⟨q6, q7, by simpa [slv] using q9, q10⟩
        · have c5n : (0 < U 26 2) := Classical.not_not.mp (fun q => c5 (iB_0.mpr q))
          obtain ⟨h1, p1, r1, rfl⟩ : ∃ h1 p1 r1, stk = (h1, p1) :: r1 := by
            cases stk with
            | nil => rw [hA.1] at *; exact absurd (show (0 : Int32) < nI 0 by assumption) (by decide)
            | cons q r => exact ⟨q.1, q.2, r, rfl⟩
          refine x_aload_n dX1_addCurve_43 1 rfl ?_
          refine x_getR fl_X1_34 rfl rfl dX1_addCurve_44 ?_
          refine x_iload_n dX1_addCurve_47 4 rfl ?_
          refine x_callV (K := jX2_halveNext) [.int t] lk_X1_81 ⟨⟨rfl, rfl⟩, Nat.le_of_ble_eq_true rfl, Nat.le_of_ble_eq_true rfl⟩ rfl rfl (mX2_halveNext2 U t (st0 := (h1, p1) :: r1) (HS.rf hA.1 hA.2.1 hA.2.2.1 hA.2.2.2.1 hA.2.2.2.2.1)) rfl (Nat.le_of_ble_eq_true rfl) rfl dX1_addCurve_48 (keV fun U6 hU7 => ?_)
          obtain ⟨h, p, r, hK, hflat⟩ := hU7
          have hr6 : r.length ≤ 6 := by have := hK.2.2.2.1.1; have := hK.2.2.2.1.2.1; omega
          have hw1 : U6 26 2 = nI (r.length + 1) := hK.1
          have hl1 : U6 26 3 = 2 := hK.2.1
          have hF1 : FRC U6 S := hA.2.2.2.2.2.1.kept (fun a i q => hK.2.2.2.2.2.2.2 a i (by omega) (by omega) (by omega))
          refine x_aload_n dX1_addCurve_51 1 rfl ?_
          refine x_iload_n dX1_addCurve_52 3 rfl ?_
          refine x_aload_n dX1_addCurve_53 1 rfl ?_
          refine x_getR fl_X1_34 rfl rfl dX1_addCurve_54 ?_
          refine x_callV (K := jX2_nextX) [] lk_X1_85 ⟨⟨rfl, rfl⟩, Nat.le_of_ble_eq_true rfl, Nat.le_of_ble_eq_true rfl⟩ rfl rfl (mX2_nextX2 U6 r.length (by omega) hw1 hl1) rfl (Nat.le_of_ble_eq_true rfl) rfl dX1_addCurve_57 (kpI ?_)
          refine x_aload_n dX1_addCurve_60 1 rfl ?_
          refine x_getR fl_X1_34 rfl rfl dX1_addCurve_61 ?_
          refine x_callV (K := jX2_nextY) [] lk_X1_89 ⟨⟨rfl, rfl⟩, Nat.le_of_ble_eq_true rfl, Nat.le_of_ble_eq_true rfl⟩ rfl rfl (mX2_nextY2 U6 r.length (by omega) hw1 hl1) rfl (Nat.le_of_ble_eq_true rfl) rfl dX1_addCurve_64 (kpI ?_)
          have hxr : inR (U6 (42 + r.length) 4) ∧ inR (U6 (42 + r.length) 5) := by obtain ⟨-, -, ⟨-, q2, -⟩, -, ⟨q4, -⟩, -⟩ := hK; exact ⟨by rw [q2 _ (by omega)]; exact q4 _ (by omega), by rw [q2 _ (by omega)]; exact q4 _ (by omega)⟩
          have hS1 := hA.2.2.2.2.2.2.1
          have hlast := hS1.2.2.2 (S.1 - 1) (by have := hS1.1; omega)
          have hl20 := hF1.2.2.1 (S.1 - 1) (by have := hS1.1; omega)
          have hB1 : S.1 < 1536 := by have := hA.2.2.2.2.2.2.2.2.1; have := slv_pos h1 p1 r1; omega
          refine x_callV (K := jX1_addVertex) [.int (nI c), .int (U6 (42 + r.length) 4), .int (U6 (42 + r.length) 5)] lk_X1_66 ⟨⟨rfl, rfl⟩, Nat.le_of_ble_eq_true rfl, Nat.le_of_ble_eq_true rfl⟩ rfl rfl (mX1_addVertex U6 hF1.1 hF1.2.1 hS1.1 hB1 hS1.2.2.1 (nI c) (U6 (42 + r.length) 4) (U6 (42 + r.length) 5) (by rw [hl20.1]; exact natAbs_r hxr.1 hlast.1) (by rw [hl20.2.1]; exact natAbs_r hxr.2 hlast.2)) rfl (Nat.le_of_ble_eq_true rfl) rfl dX1_addCurve_67 (kdV ?_)
          obtain ⟨U8, eU8⟩ : ∃ v_v : vM, v_v = if (U6 (42 + r.length) 4) - U6 20 (S.1 - 1) = 0 ∧ (U6 (42 + r.length) 5) - U6 21 (S.1 - 1) = 0 then U6 else cap U6 S.1 S.2.1 (nI c) (U6 (42 + r.length) 4) (U6 (42 + r.length) 5) (U6 22 (S.1 - 1) + lenI ((U6 (42 + r.length) 4) - U6 20 (S.1 - 1)) ((U6 (42 + r.length) 5) - U6 21 (S.1 - 1))) := ⟨_, rfl⟩
          refine YY.V eU8.symm ?_
          have hw2 : U8 26 2 = nI (r.length + 1) := by rw [eU8]; split; (exact hw1); (unfold cap; simp [uM_at, hw1])
          refine x_aload_n dX1_addCurve_70 1 rfl ?_
          refine x_getR fl_X1_34 rfl rfl dX1_addCurve_71 ?_
          refine x_callV (K := jX2_dropNext) [] lk_X1_92 ⟨⟨rfl, rfl⟩, Nat.le_of_ble_eq_true rfl, Nat.le_of_ble_eq_true rfl⟩ rfl rfl (mX2_dropNext U8 r.length (by omega) hw2) rfl (Nat.le_of_ble_eq_true rfl) rfl dX1_addCurve_74 (kdV ?_)
          obtain ⟨U9, eU9⟩ : ∃ v_v : vM, v_v = uM U8 26 2 (nI r.length) := ⟨_, rfl⟩
          refine YY.V eU9.symm ?_
          refine x_iinc 4 (v := (nI i) + 1) 0 [(4, .int ((nI i) + 1)), (0, .ref (g.2.1 6)), (1, .ref (g.2.1 1)), (2, .int (nI c)), (3, .int t)] dX1_addCurve_77 rfl (by rfl) (by decide) rfl ?_
          refine x_goto 26 dX1_addCurve_80 (by decide) ?_
          refine YY.L (lv' := [(4, .int (nI (i + 1))), (0, .ref (g.2.1 6)), (1, .ref (g.2.1 1)), (2, .int (nI c)), (3, .int t)]) (by first | rfl | (simp only [nI_1]; done) | (simp only [← nI_add]; rfl)) ?_
          exact ih (i + 1) r (fadd S c (U6 (42 + r.length) 4) (U6 (42 + r.length) 5)) U9 (by omega) (by have := slv_pos h p r; have := hK.2.2.2.2.2.2.1; omega) (by exact AC_step (by omega) hA hK hflat eU8 eU9) (by omega)
  refine YY.L (lv' := [(4, .int (nI 0)), (0, .ref (g.2.1 6)), (1, .ref (g.2.1 1)), (2, .int (nI c)), (3, .int t)]) (by rfl) ?_
  exact lp3 _ 0 ([(0, p0)]) S0 U1 (by omega) (by simp [slv]) (by exact AC_init (by omega) hS hF hp0 hpr hU2.2.1 hU2.1 hU2.2.2.1 hU2.2.2.2.1 hU2.2.2.2.2) (Nat.lt_succ_self _)
set_option maxHeartbeats 4000000 in
set_option maxRecDepth 100000 in
theorem mX1_addCurve3 {g : gX} (V : vM) (hk : kok V 1 12) (c : Nat) (t : Int32) (hl : ptV V 1 12 (nI c) = 3) (p0 : Nat → Int32) (hp0 : ∀ j, j < 8 → p0 j = cst (nbV V 1 13 (nI c - 1) (2 * ptV V 1 12 (nI c - 1) - 2)) (nbV V 1 13 (nI c - 1) (2 * ptV V 1 12 (nI c - 1) - 1)) (fun j => nbV V 1 13 (nI c) (nI j)) j) (hpr : ∀ j, j < 8 → inR (p0 j)) {S0 : FS} (hF : FRC V S0) (hS : SOK S0) (hB : S0.1 + 64 ≤ 1536) : MM g jX1_addCurve V [.ref (g.2.1 6), .ref (g.2.1 1), .int (nI c), .int t] (eV (fun U => FRC U (fsub 3 t c 6 p0 S0) ∧ SOK (fsub 3 t c 6 p0 S0) ∧ (fsub 3 t c 6 p0 S0).1 ≤ S0.1 + 64 ∧ ∀ a i, a ≠ 6 → (a < 20 ∨ 24 < a) → a ≠ 26 → a ≠ 40 → (a < 42 ∨ 49 ≤ a) → U a i = V a i)) := by
  refine MM.of plX1_addCurve (Nat.le_of_ble_eq_true rfl) ?_
  obtain ⟨Q, hQ⟩ : ∃ Q : Option Value → vM → Prop, Q = (eV (fun U => FRC U (fsub 3 t c 6 p0 S0) ∧ SOK (fsub 3 t c 6 p0 S0) ∧ (fsub 3 t c 6 p0 S0).1 ≤ S0.1 + 64 ∧ ∀ a i, a ≠ 6 → (a < 20 ∨ 24 < a) → a ≠ 26 → a ≠ 40 → (a < 42 ∨ 49 ≤ a) → U a i = V a i)) := ⟨_, rfl⟩
  rw [← hQ]
  show XX g jX1_addCurve Q V 0 [(0, .ref (g.2.1 6)), (1, .ref (g.2.1 1)), (2, .int (nI c)), (3, .int t)] []
  refine x_aload_n dX1_addCurve_0 0 rfl ?_
  refine x_getR fl_X1_34 rfl rfl dX1_addCurve_1 ?_
  refine x_aload_n dX1_addCurve_4 1 rfl ?_
  refine x_iload_n dX1_addCurve_5 2 rfl ?_
  refine x_aload_n dX1_addCurve_6 1 rfl ?_
  refine x_iload_n dX1_addCurve_7 2 rfl ?_
  refine x_iconst (v := 1) dX1_addCurve_8 (by decide) ?_
  refine x_isub dX1_addCurve_9 ?_
  refine x_callV (K := jX5_endX) [.int ((nI c) - 1)] lk_X1_52 ⟨⟨rfl, rfl⟩, Nat.le_of_ble_eq_true rfl, Nat.le_of_ble_eq_true rfl⟩ rfl rfl (mX5_endX V isP1 hk ((nI c) - 1)) rfl (Nat.le_of_ble_eq_true rfl) rfl dX1_addCurve_10 (kpI ?_)
  refine x_aload_n dX1_addCurve_13 1 rfl ?_
  refine x_iload_n dX1_addCurve_14 2 rfl ?_
  refine x_iconst (v := 1) dX1_addCurve_15 (by decide) ?_
  refine x_isub dX1_addCurve_16 ?_
  refine x_callV (K := jX5_endY) [.int ((nI c) - 1)] lk_X1_55 ⟨⟨rfl, rfl⟩, Nat.le_of_ble_eq_true rfl, Nat.le_of_ble_eq_true rfl⟩ rfl rfl (mX5_endY V isP1 hk ((nI c) - 1)) rfl (Nat.le_of_ble_eq_true rfl) rfl dX1_addCurve_17 (kpI ?_)
  refine x_callV (K := jX2_begin) [.ref (g.2.1 1), .int (nI c), .int (nbV V 1 13 ((nI c) - 1) (2 * ptV V 1 12 ((nI c) - 1) - 2)), .int (nbV V 1 13 ((nI c) - 1) (2 * ptV V 1 12 ((nI c) - 1) - 1))] lk_X1_73 ⟨⟨rfl, rfl⟩, Nat.le_of_ble_eq_true rfl, Nat.le_of_ble_eq_true rfl⟩ rfl rfl (mX2_begin3 V hk (nI c) (nbV V 1 13 ((nI c) - 1) (2 * ptV V 1 12 ((nI c) - 1) - 2)) (nbV V 1 13 ((nI c) - 1) (2 * ptV V 1 12 ((nI c) - 1) - 1)) hl) rfl (Nat.le_of_ble_eq_true rfl) rfl dX1_addCurve_20 (keV fun U1 hU2 => ?_)
  refine x_iconst (v := 0) dX1_addCurve_23 (by decide) ?_
  refine x_istore 4 [(4, .int 0), (0, .ref (g.2.1 6)), (1, .ref (g.2.1 1)), (2, .int (nI c)), (3, .int t)] dX1_addCurve_24 (by decide) rfl ?_
  have lp3 : ∀ (fu : Nat) (i : Nat) (stk : STK) (S : FS) (U : vM), (i ≤ 64) → (slv stk ≤ 64 - i) → (AC 3 t c (S0.1 + 64) (fsub 3 t c 6 p0 S0) V U stk S) → (64 - i) < fu → XX g jX1_addCurve Q U 26 [(4, .int (nI i)), (0, .ref (g.2.1 6)), (1, .ref (g.2.1 1)), (2, .int (nI c)), (3, .int t)] [] := by
    intro fu
    induction fu with
    | zero => intro _ _ _ _ _ _ _ hmz; exact absurd hmz (Nat.not_lt_zero _)
    | succ fu ih =>
      intro i stk S U hi hsl hA hmz
      refine x_iload dX1_addCurve_26 0 rfl ?_
      refine x_bipush (v := 64) dX1_addCurve_28 (by decide) ?_
      refine x_icmp_ge 83 dX1_addCurve_30 (by decide) (fun c4 => ?_) (fun c4 => ?_)
      · have c4n : 64 ≤ i := (nl_le (a := 64) (b := i) (rfl) (rfl) (by omega) (by omega)).mp c4
        refine x_vret dX1_addCurve_83 rfl ?_
        rw [hQ]
        refine ⟨rfl, ?_⟩
        have hnil : stk = [] := by
          cases stk with
          | nil => rfl
          | cons q r => exfalso; obtain ⟨qh, qp⟩ := q; have := slv_pos qh qp r; first | (rw [hA.1] at *; have hlen : r.length ≤ 6 := (by have := hA.2.2.2.1.1; have := hA.2.2.2.1.2.1; omega); exact absurd (show ¬ (0 : Int32) < nI (r.length + 1) by assumption) (fun q => q (nI_lt (a := 0) (by omega) (by omega)))) | omega
        subst hnil
        obtain ⟨-, -, -, -, -, q6, q7, q8, q9, q10⟩ := hA
        have q8 : S = fsub 3 t c 6 p0 S0 := q8
        rw [← q8]
        exact ⟨q6, q7, by simpa [slv] using q9, q10⟩
      · have c4n : i < 64 := Nat.not_le.mp (fun q => c4 ((nl_le (a := 64) (b := i) (rfl) (rfl) (by omega) (by omega)).mpr q))
        refine x_aload_n dX1_addCurve_33 1 rfl ?_
        refine x_getR fl_X1_34 rfl rfl dX1_addCurve_34 ?_
        refine x_callV (K := jX2_hasMore) [] lk_X1_77 ⟨⟨rfl, rfl⟩, Nat.le_of_ble_eq_true rfl, Nat.le_of_ble_eq_true rfl⟩ rfl rfl (mX2_hasMore U) rfl (Nat.le_of_ble_eq_true rfl) rfl dX1_addCurve_37 (kpI ?_)
        refine x_if_eq 83 dX1_addCurve_40 (by decide) (fun c5 => ?_) (fun c5 => ?_)
        · have c5n : ¬ (0 < U 26 2) := iB_0.mp c5
          refine x_vret dX1_addCurve_83 rfl ?_
          rw [hQ]
          refine ⟨rfl, ?_⟩
          have hnil : stk = [] := by
            cases stk with
            | nil => rfl
            | cons q r => exfalso; obtain ⟨qh, qp⟩ := q; have := slv_pos qh qp r; first | (rw [hA.1] at *; have hlen : r.length ≤ 6 := (by have := hA.2.2.2.1.1; have := hA.2.2.2.1.2.1; omega); exact absurd (show ¬ (0 : Int32) < nI (r.length + 1) by assumption) (fun q => q (nI_lt (a := 0) (by omega) (by omega)))) | omega
          subst hnil
          obtain ⟨-, -, -, -, -, q6, q7, q8, q9, q10⟩ := hA
          have q8 : S = fsub 3 t c 6 p0 S0 := q8
          rw [← q8]
          exact ⟨q6, q7, by simpa [slv] using q9, q10⟩
        · have c5n : (0 < U 26 2) := Classical.not_not.mp (fun q => c5 (iB_0.mpr q))
          obtain ⟨h1, p1, r1, rfl⟩ : ∃ h1 p1 r1, stk = (h1, p1) :: r1 := by
            cases stk with
            | nil => rw [hA.1] at *; exact absurd (show (0 : Int32) < nI 0 by assumption) (by decide)
            | cons q r => exact ⟨q.1, q.2, r, rfl⟩
          refine x_aload_n dX1_addCurve_43 1 rfl ?_
          refine x_getR fl_X1_34 rfl rfl dX1_addCurve_44 ?_
          refine x_iload_n dX1_addCurve_47 4 rfl ?_
          refine x_callV (K := jX2_halveNext) [.int t] lk_X1_81 ⟨⟨rfl, rfl⟩, Nat.le_of_ble_eq_true rfl, Nat.le_of_ble_eq_true rfl⟩ rfl rfl (mX2_halveNext3 U t (st0 := (h1, p1) :: r1) (HS.rf hA.1 hA.2.1 hA.2.2.1 hA.2.2.2.1 hA.2.2.2.2.1)) rfl (Nat.le_of_ble_eq_true rfl) rfl dX1_addCurve_48 (keV fun U6 hU7 => ?_)
          obtain ⟨h, p, r, hK, hflat⟩ := hU7
          have hr6 : r.length ≤ 6 := by have := hK.2.2.2.1.1; have := hK.2.2.2.1.2.1; omega
          have hw1 : U6 26 2 = nI (r.length + 1) := hK.1
          have hl1 : U6 26 3 = 3 := hK.2.1
          have hF1 : FRC U6 S := hA.2.2.2.2.2.1.kept (fun a i q => hK.2.2.2.2.2.2.2 a i (by omega) (by omega) (by omega))
          refine x_aload_n dX1_addCurve_51 1 rfl ?_
          refine x_iload_n dX1_addCurve_52 3 rfl ?_
          refine x_aload_n dX1_addCurve_53 1 rfl ?_
          refine x_getR fl_X1_34 rfl rfl dX1_addCurve_54 ?_
          refine x_callV (K := jX2_nextX) [] lk_X1_85 ⟨⟨rfl, rfl⟩, Nat.le_of_ble_eq_true rfl, Nat.le_of_ble_eq_true rfl⟩ rfl rfl (mX2_nextX3 U6 r.length (by omega) hw1 hl1) rfl (Nat.le_of_ble_eq_true rfl) rfl dX1_addCurve_57 (kpI ?_)
          refine x_aload_n dX1_addCurve_60 1 rfl ?_
          refine x_getR fl_X1_34 rfl rfl dX1_addCurve_61 ?_
          refine x_callV (K := jX2_nextY) [] lk_X1_89 ⟨⟨rfl, rfl⟩, Nat.le_of_ble_eq_true rfl, Nat.le_of_ble_eq_true rfl⟩ rfl rfl (mX2_nextY3 U6 r.length (by omega) hw1 hl1) rfl (Nat.le_of_ble_eq_true rfl) rfl dX1_addCurve_64 (kpI ?_)
          have hxr : inR (U6 (42 + r.length) 6) ∧ inR (U6 (42 + r.length) 7) := by obtain ⟨-, -, ⟨-, q2, -⟩, -, ⟨q4, -⟩, -⟩ := hK; exact ⟨by rw [q2 _ (by omega)]; exact q4 _ (by omega), by rw [q2 _ (by omega)]; exact q4 _ (by omega)⟩
          have hS1 := hA.2.2.2.2.2.2.1
          have hlast := hS1.2.2.2 (S.1 - 1) (by have := hS1.1; omega)
          have hl20 := hF1.2.2.1 (S.1 - 1) (by have := hS1.1; omega)
          have hB1 : S.1 < 1536 := by have := hA.2.2.2.2.2.2.2.2.1; have := slv_pos h1 p1 r1; omega
          refine x_callV (K := jX1_addVertex) [.int (nI c), .int (U6 (42 + r.length) 6), .int (U6 (42 + r.length) 7)] lk_X1_66 ⟨⟨rfl, rfl⟩, Nat.le_of_ble_eq_true rfl, Nat.le_of_ble_eq_true rfl⟩ rfl rfl (mX1_addVertex U6 hF1.1 hF1.2.1 hS1.1 hB1 hS1.2.2.1 (nI c) (U6 (42 + r.length) 6) (U6 (42 + r.length) 7) (by rw [hl20.1]; exact natAbs_r hxr.1 hlast.1) (by rw [hl20.2.1]; exact natAbs_r hxr.2 hlast.2)) rfl (Nat.le_of_ble_eq_true rfl) rfl dX1_addCurve_67 (kdV ?_)
          obtain ⟨U8, eU8⟩ : ∃ v_v : vM, v_v = if (U6 (42 + r.length) 6) - U6 20 (S.1 - 1) = 0 ∧ (U6 (42 + r.length) 7) - U6 21 (S.1 - 1) = 0 then U6 else cap U6 S.1 S.2.1 (nI c) (U6 (42 + r.length) 6) (U6 (42 + r.length) 7) (U6 22 (S.1 - 1) + lenI ((U6 (42 + r.length) 6) - U6 20 (S.1 - 1)) ((U6 (42 + r.length) 7) - U6 21 (S.1 - 1))) := ⟨_, rfl⟩
          refine YY.V eU8.symm ?_
          have hw2 : U8 26 2 = nI (r.length + 1) := by rw [eU8]; split; (exact hw1); (unfold cap; simp [uM_at, hw1])
          refine x_aload_n dX1_addCurve_70 1 rfl ?_
          refine x_getR fl_X1_34 rfl rfl dX1_addCurve_71 ?_
          refine x_callV (K := jX2_dropNext) [] lk_X1_92 ⟨⟨rfl, rfl⟩, Nat.le_of_ble_eq_true rfl, Nat.le_of_ble_eq_true rfl⟩ rfl rfl (mX2_dropNext U8 r.length (by omega) hw2) rfl (Nat.le_of_ble_eq_true rfl) rfl dX1_addCurve_74 (kdV ?_)
          obtain ⟨U9, eU9⟩ : ∃ v_v : vM, v_v = uM U8 26 2 (nI r.length) := ⟨_, rfl⟩
          refine YY.V eU9.symm ?_
          refine x_iinc 4 (v := (nI i) + 1) 0 [(4, .int ((nI i) + 1)), (0, .ref (g.2.1 6)), (1, .ref (g.2.1 1)), (2, .int (nI c)), (3, .int t)] dX1_addCurve_77 rfl (by rfl) (by decide) rfl ?_
          refine x_goto 26 dX1_addCurve_80 (by decide) ?_
          refine YY.L (lv' := [(4, .int (nI (i + 1))), (0, .ref (g.2.1 6)), (1, .ref (g.2.1 1)), (2, .int (nI c)), (3, .int t)]) (by first | rfl | (simp only [nI_1]; done) | (simp only [← nI_add]; rfl)) ?_
          exact ih (i + 1) r (fadd S c (U6 (42 + r.length) 6) (U6 (42 + r.length) 7)) U9 (by omega) (by have := slv_pos h p r; have := hK.2.2.2.2.2.2.1; omega) (by exact AC_step (by omega) hA hK hflat eU8 eU9) (by omega)
  refine YY.L (lv' := [(4, .int (nI 0)), (0, .ref (g.2.1 6)), (1, .ref (g.2.1 1)), (2, .int (nI c)), (3, .int t)]) (by rfl) ?_
  exact lp3 _ 0 ([(0, p0)]) S0 U1 (by omega) (by simp [slv]) (by exact AC_init (by omega) hS hF hp0 hpr hU2.2.1 hU2.1 hU2.2.2.1 hU2.2.2.2.1 hU2.2.2.2.2) (Nat.lt_succ_self _)
