def frT (V U : vM) (q : Nat) : Prop := ∀ b i, ¬ (b = 49 ∧ (i = 18 ∨ i = 19 ∨ i = 22)) → ¬ (b = 60 ∧ (i = q ∨ i = q + 1)) → U b i = V b i
theorem frT.of {V U W1 W2 W3 : vM} {q : Nat} {x y z : Int32} (h : frS V U) (e1 : W1 = uM U 49 22 z) (e2 : W2 = uM W1 60 q x) (e3 : W3 = uM W2 60 (q + 1) y) : frT V W3 q := fun b i h1 h2 => by
  rw [e3, uM_at, if_neg (fun w => h2 ⟨w.1, Or.inr w.2⟩), e2, uM_at, if_neg (fun w => h2 ⟨w.1, Or.inl w.2⟩), e1, uM_at, if_neg (fun w => h1 ⟨w.1, Or.inr (Or.inr w.2)⟩)]
  exact h b i (fun w => h1 ⟨w.1, by omega⟩)
def PairP (V : vM) (P : Nat → Int32) (n : Nat) (k sm : Int32) (c cm : Nat) (p : Int32 × Int32 × Int32 × Int32) (X O : Nat → Int32) (A B : Int32) (G : Prop) (q : Nat) (U : vM) : Prop := frT V U q ∧ ∃ a', MR U P n a' ∧ ((U 49 19 = 1 ∧ Bad P n a') ∨ (U 49 19 = 0 ∧ ∃ v d ng x0, 0 < d ∧ rRun P a' = some ((k, sm, ng), (c + 1, v, d, cm), p, upd X c x0, O) ∧ NE P n a' ((k, sm, ng), (c + 1, v, d, cm), p, upd X c x0, O) ∧ U 60 q = x0 + A ∧ U 60 (q + 1) = rSg v ng + B ∧ U 49 22 = bP (¬ (G ∧ inR (x0 + A) ∧ inR (rSg v ng + B)))))
theorem PairP.b {V U : vM} {P : Nat → Int32} {n : Nat} {k sm : Int32} {c cm : Nat} {p : Int32 × Int32 × Int32 × Int32} {X O : Nat → Int32} {A B : Int32} {G : Prop} {q : Nat} (h : PairP V P n k sm c cm p X O A B G q U) : U 49 19 = 0 ∨ U 49 19 = 1 := by
  obtain ⟨-, a', -, ⟨q, -⟩ | ⟨q, -⟩⟩ := h
  · exact Or.inr q
  · exact Or.inl q
set_option maxHeartbeats 2000000 in
set_option maxRecDepth 100000 in
theorem mX10_readPair0 {g : gX} {V : vM} {P : Nat → Int32} {n a : Nat} {k : Int32} {c cm : Nat} {p : Int32 × Int32 × Int32 × Int32} {X O : Nat → Int32} (hMR : MR V P n a) (h19 : V 49 19 = 0) (hs : rRun P a = some ((k, 0, 0), (c, 0, 0, cm), p, X, O)) (hc : c + 1 < rNd k) {x y : Int32} {G : Prop} (hx : V 49 23 = x) (hy : V 49 24 = y) (h22 : V 49 22 = bP (¬ G)) (q : Nat) (hq : q + 1 < 840) : MM g jX10_readPair V [.ref (g.2.1 49), .int (nI q), .int 0] (eV (PairP V P n k 0 c cm p X O 0 0 G q)) := by
  refine MM.of plX10_readPair (Nat.le_of_ble_eq_true rfl) ?_
  obtain ⟨Q, hQ⟩ : ∃ Q : Option Value → vM → Prop, Q = (eV (PairP V P n k 0 c cm p X O 0 0 G q)) := ⟨_, rfl⟩
  rw [← hQ]
  show XX g jX10_readPair Q V 0 [(0, .ref (g.2.1 49)), (1, .int (nI q)), (2, .int 0)] []
  have han := hMR.2.2.2.1
  have hn120 := hMR.2.2.2.2
  refine x_aload_n dX10_readPair_0 0 rfl ?_
  refine x_callV (K := jX10_readNumber) [] lk_X10_147 ⟨⟨rfl, rfl⟩, Nat.le_of_ble_eq_true rfl, Nat.le_of_ble_eq_true rfl⟩ rfl rfl (mX10_readNumber hMR h19 hs (by omega)) rfl (Nat.le_of_ble_eq_true rfl) rfl dX10_readPair_1 (keI fun r3 U1 hU2 => ?_)
  obtain ⟨hF1, a1, hM1, hO1⟩ := hU2
  refine x_istore_n 3 [(3, .int r3), (0, .ref (g.2.1 49)), (1, .int (nI q)), (2, .int 0)] dX10_readPair_4 rfl (by decide) rfl ?_
  refine x_aload_n dX10_readPair_5 1 rfl ?_
  refine x_getI fl_X10_143 rfl rfl dX10_readPair_6 ?_
  refine x_if_ne 16 dX10_readPair_9 (by decide) (fun c4 => ?_) (fun c4 => ?_)
  · have hB1 := (hO1.resolve_right (fun q => absurd q.1 (by assumption)))
    refine x_aload_n dX10_readPair_16 1 rfl ?_
    refine x_getI fl_X10_143 rfl rfl dX10_readPair_17 ?_
    refine x_if_eq 27 dX10_readPair_20 (by decide) (fun c5 => by exfalso; exact absurd c5 (by assumption)) (fun c5 => ?_)
    refine x_iconst (v := 0) dX10_readPair_23 (by decide) ?_
    refine x_goto 31 dX10_readPair_24 (by decide) ?_
    refine x_istore 4 [(4, .int 0), (3, .int r3), (0, .ref (g.2.1 49)), (1, .int (nI q)), (2, .int 0)] dX10_readPair_31 (by decide) rfl ?_
    refine x_iload_n dX10_readPair_33 1 rfl ?_
    refine x_iload_n dX10_readPair_34 4 rfl ?_
    refine x_if_eq 45 dX10_readPair_35 (by decide) (fun c6 => ?_) (fun c6 => by exfalso; revert c6; decide)
    refine x_iconst (v := 0) dX10_readPair_45 (by decide) ?_
    refine x_iadd dX10_readPair_46 ?_
    refine x_istore_n 3 [(3, .int (r3 + 0)), (4, .int 0), (0, .ref (g.2.1 49)), (1, .int (nI q)), (2, .int 0)] dX10_readPair_47 rfl (by decide) rfl ?_
    refine x_iload dX10_readPair_48 1 rfl ?_
    refine x_iload_n dX10_readPair_50 4 rfl ?_
    refine x_if_eq 61 dX10_readPair_51 (by decide) (fun c7 => ?_) (fun c7 => by exfalso; revert c7; decide)
    refine x_iconst (v := 0) dX10_readPair_61 (by decide) ?_
    refine x_iadd dX10_readPair_62 ?_
    refine x_topi (y := 0) (by decide) ?_
    refine x_istore 4 [(4, .int 0), (3, .int (r3 + 0)), (0, .ref (g.2.1 49)), (1, .int (nI q)), (2, .int 0)] dX10_readPair_63 (by decide) rfl ?_
    refine x_aload_n dX10_readPair_65 2 rfl ?_
    refine x_aload_n dX10_readPair_66 2 rfl ?_
    refine x_getI fl_X10_159 rfl rfl dX10_readPair_67 ?_
    refine x_topi ((hF1 49 22 (by decide)).trans h22) ?_
    refine x_if_ne 95 dX10_readPair_70 (by decide) (fun c8 => ?_) (fun c8 => ?_)
    · have c8n : (¬ G) := Classical.not_not.mp (fun q => c8 (bP_0.mpr q))
      refine x_iconst (v := 1) dX10_readPair_95 (by decide) ?_
      refine x_goto 100 dX10_readPair_96 (by decide) ?_
      have z9 : (1 : Int32) = 0 ∨ (1 : Int32) = 1 := by first | exact Or.inl rfl | exact Or.inr rfl | grind
      refine x_putZ fp_X10_159 rfl rfl z9 dX10_readPair_100 ?_
      obtain ⟨U10, eU10⟩ : ∃ v_v : vM, v_v = uM U1 49 22 1 := ⟨_, rfl⟩
      refine YY.V eU10.symm ?_
      refine x_aload_n dX10_readPair_103 2 rfl ?_
      refine x_getR fl_X10_41 rfl rfl dX10_readPair_104 ?_
      refine x_iload_n dX10_readPair_107 3 rfl ?_
      refine x_iload_n dX10_readPair_108 1 rfl ?_
      have b11 : vp_in (nI q) 840 := by exact vp_in_nI (by omega) (by decide)
      refine x_iast rfl b11 dX10_readPair_109 ?_
      refine YY.V (V' := uM U10 60 q (r3 + 0)) (by rw [nI_clamp (by omega)]) ?_
      obtain ⟨U12, eU12⟩ : ∃ v_v : vM, v_v = uM U10 60 q (r3 + 0) := ⟨_, rfl⟩
      refine YY.V eU12.symm ?_
      refine x_aload_n dX10_readPair_110 2 rfl ?_
      refine x_getR fl_X10_41 rfl rfl dX10_readPair_111 ?_
      refine x_iload_n dX10_readPair_114 3 rfl ?_
      refine x_iconst (v := 1) dX10_readPair_115 (by decide) ?_
      refine x_iadd dX10_readPair_116 ?_
      refine x_iload dX10_readPair_117 0 rfl ?_
      have q13 : ((nI q) + 1 : Int32) = nI (q + 1) := nadd (rfl) (rfl)
      refine YY.S (st' := [.int 0, .int (nI (q + 1)), .ref (g.2.1 60)]) (by rw [q13]) ?_
      have b14 : vp_in (nI (q + 1)) 840 := by exact vp_in_nI (by omega) (by decide)
      refine x_iast rfl b14 dX10_readPair_119 ?_
      refine YY.V (V' := uM U12 60 (q + 1) 0) (by rw [nI_clamp (by omega)]) ?_
      obtain ⟨U15, eU15⟩ : ∃ v_v : vM, v_v = uM U12 60 (q + 1) 0 := ⟨_, rfl⟩
      refine YY.V eU15.symm ?_
      refine x_vret dX10_readPair_120 rfl ?_
      rw [hQ]
      have hFT := frT.of (q := q) hF1 eU10 eU12 eU15
      have hMM := ((hM1.set eU10 (by decide) (by decide)).row eU12).row eU15
      have h19W : U15 49 19 = U1 49 19 := by rw [eU15, uM_na (by decide), eU12, uM_na (by decide), eU10, uM_ni (by decide)]
      exact ⟨rfl, hFT, a1, hMM, Or.inl ⟨h19W.trans hB1.1, hB1.2⟩⟩
    · have c8n : ¬ (¬ G) := bP_0.mp c8
      refine x_aload_n dX10_readPair_73 2 rfl ?_
      refine x_getI fl_X10_143 rfl rfl dX10_readPair_74 ?_
      refine x_if_ne 99 dX10_readPair_77 (by decide) (fun c16 => ?_) (fun c16 => by exfalso; exact absurd c16 (by assumption))
      refine x_iconst (v := 0) dX10_readPair_99 (by decide) ?_
      have z17 : (0 : Int32) = 0 ∨ (0 : Int32) = 1 := by first | exact Or.inl rfl | exact Or.inr rfl | grind
      refine x_putZ fp_X10_159 rfl rfl z17 dX10_readPair_100 ?_
      obtain ⟨U18, eU18⟩ : ∃ v_v : vM, v_v = uM U1 49 22 0 := ⟨_, rfl⟩
      refine YY.V eU18.symm ?_
      refine x_aload_n dX10_readPair_103 2 rfl ?_
      refine x_getR fl_X10_41 rfl rfl dX10_readPair_104 ?_
      refine x_iload_n dX10_readPair_107 3 rfl ?_
      refine x_iload_n dX10_readPair_108 1 rfl ?_
      have b19 : vp_in (nI q) 840 := by exact vp_in_nI (by omega) (by decide)
      refine x_iast rfl b19 dX10_readPair_109 ?_
      refine YY.V (V' := uM U18 60 q (r3 + 0)) (by rw [nI_clamp (by omega)]) ?_
      obtain ⟨U20, eU20⟩ : ∃ v_v : vM, v_v = uM U18 60 q (r3 + 0) := ⟨_, rfl⟩
      refine YY.V eU20.symm ?_
      refine x_aload_n dX10_readPair_110 2 rfl ?_
      refine x_getR fl_X10_41 rfl rfl dX10_readPair_111 ?_
      refine x_iload_n dX10_readPair_114 3 rfl ?_
      refine x_iconst (v := 1) dX10_readPair_115 (by decide) ?_
      refine x_iadd dX10_readPair_116 ?_
      refine x_iload dX10_readPair_117 0 rfl ?_
      have q21 : ((nI q) + 1 : Int32) = nI (q + 1) := nadd (rfl) (rfl)
      refine YY.S (st' := [.int 0, .int (nI (q + 1)), .ref (g.2.1 60)]) (by rw [q21]) ?_
      have b22 : vp_in (nI (q + 1)) 840 := by exact vp_in_nI (by omega) (by decide)
      refine x_iast rfl b22 dX10_readPair_119 ?_
      refine YY.V (V' := uM U20 60 (q + 1) 0) (by rw [nI_clamp (by omega)]) ?_
      obtain ⟨U23, eU23⟩ : ∃ v_v : vM, v_v = uM U20 60 (q + 1) 0 := ⟨_, rfl⟩
      refine YY.V eU23.symm ?_
      refine x_vret dX10_readPair_120 rfl ?_
      rw [hQ]
      have hFT := frT.of (q := q) hF1 eU18 eU20 eU23
      have hMM := ((hM1.set eU18 (by decide) (by decide)).row eU20).row eU23
      have h19W : U23 49 19 = U1 49 19 := by rw [eU23, uM_na (by decide), eU20, uM_na (by decide), eU18, uM_ni (by decide)]
      exact ⟨rfl, hFT, a1, hMM, Or.inl ⟨h19W.trans hB1.1, hB1.2⟩⟩
  · obtain ⟨h191, v1, d1, ng1, ez1, hd1, hs1, hN1⟩ := hO1.resolve_left (fun q => absurd (q.1.symm.trans (by assumption)) (by decide))
    refine x_aload_n dX10_readPair_12 1 rfl ?_
    refine x_callV (K := jX10_readComma) [] lk_X10_150 ⟨⟨rfl, rfl⟩, Nat.le_of_ble_eq_true rfl, Nat.le_of_ble_eq_true rfl⟩ rfl rfl (mX10_readComma hM1 h191 hs1 hd1 hc hN1) rfl (Nat.le_of_ble_eq_true rfl) rfl dX10_readPair_13 (keV fun U24 hU25 => ?_)
    obtain ⟨hF2a, a2, hM2, hO2⟩ := hU25
    have hF2 := hF1.trans hF2a
    refine x_aload_n dX10_readPair_16 1 rfl ?_
    refine x_getI fl_X10_143 rfl rfl dX10_readPair_17 ?_
    refine x_if_eq 27 dX10_readPair_20 (by decide) (fun c26 => ?_) (fun c26 => ?_)
    · obtain ⟨h192, hs2⟩ := hO2.resolve_left (fun q => absurd (q.1.symm.trans (by assumption)) (by decide))
      refine x_aload_n dX10_readPair_27 1 rfl ?_
      refine x_callV (K := jX10_readNumber) [] lk_X10_147 ⟨⟨rfl, rfl⟩, Nat.le_of_ble_eq_true rfl, Nat.le_of_ble_eq_true rfl⟩ rfl rfl (mX10_readNumber hM2 h192 hs2 hc) rfl (Nat.le_of_ble_eq_true rfl) rfl dX10_readPair_28 (keI fun r29 U27 hU28 => ?_)
      obtain ⟨hF3a, a3, hM3, hO3⟩ := hU28
      have hF3 := hF2.trans hF3a
      refine x_istore 4 [(4, .int r29), (3, .int r3), (0, .ref (g.2.1 49)), (1, .int (nI q)), (2, .int 0)] dX10_readPair_31 (by decide) rfl ?_
      refine x_iload_n dX10_readPair_33 1 rfl ?_
      refine x_iload_n dX10_readPair_34 4 rfl ?_
      refine x_if_eq 45 dX10_readPair_35 (by decide) (fun c30 => ?_) (fun c30 => by exfalso; revert c30; decide)
      refine x_iconst (v := 0) dX10_readPair_45 (by decide) ?_
      refine x_iadd dX10_readPair_46 ?_
      refine x_istore_n 3 [(3, .int (r3 + 0)), (4, .int r29), (0, .ref (g.2.1 49)), (1, .int (nI q)), (2, .int 0)] dX10_readPair_47 rfl (by decide) rfl ?_
      refine x_iload dX10_readPair_48 1 rfl ?_
      refine x_iload_n dX10_readPair_50 4 rfl ?_
      refine x_if_eq 61 dX10_readPair_51 (by decide) (fun c31 => ?_) (fun c31 => by exfalso; revert c31; decide)
      refine x_iconst (v := 0) dX10_readPair_61 (by decide) ?_
      refine x_iadd dX10_readPair_62 ?_
      refine x_istore 4 [(4, .int (r29 + 0)), (3, .int (r3 + 0)), (0, .ref (g.2.1 49)), (1, .int (nI q)), (2, .int 0)] dX10_readPair_63 (by decide) rfl ?_
      refine x_aload_n dX10_readPair_65 2 rfl ?_
      refine x_aload_n dX10_readPair_66 2 rfl ?_
      refine x_getI fl_X10_159 rfl rfl dX10_readPair_67 ?_
      refine x_topi ((hF3 49 22 (by decide)).trans h22) ?_
      refine x_if_ne 95 dX10_readPair_70 (by decide) (fun c32 => ?_) (fun c32 => ?_)
      · have c32n : (¬ G) := Classical.not_not.mp (fun q => c32 (bP_0.mpr q))
        refine x_iconst (v := 1) dX10_readPair_95 (by decide) ?_
        refine x_goto 100 dX10_readPair_96 (by decide) ?_
        have z33 : (1 : Int32) = 0 ∨ (1 : Int32) = 1 := by first | exact Or.inl rfl | exact Or.inr rfl | grind
        refine x_putZ fp_X10_159 rfl rfl z33 dX10_readPair_100 ?_
        obtain ⟨U34, eU34⟩ : ∃ v_v : vM, v_v = uM U27 49 22 1 := ⟨_, rfl⟩
        refine YY.V eU34.symm ?_
        refine x_aload_n dX10_readPair_103 2 rfl ?_
        refine x_getR fl_X10_41 rfl rfl dX10_readPair_104 ?_
        refine x_iload_n dX10_readPair_107 3 rfl ?_
        refine x_iload_n dX10_readPair_108 1 rfl ?_
        have b35 : vp_in (nI q) 840 := by exact vp_in_nI (by omega) (by decide)
        refine x_iast rfl b35 dX10_readPair_109 ?_
        refine YY.V (V' := uM U34 60 q (r3 + 0)) (by rw [nI_clamp (by omega)]) ?_
        obtain ⟨U36, eU36⟩ : ∃ v_v : vM, v_v = uM U34 60 q (r3 + 0) := ⟨_, rfl⟩
        refine YY.V eU36.symm ?_
        refine x_aload_n dX10_readPair_110 2 rfl ?_
        refine x_getR fl_X10_41 rfl rfl dX10_readPair_111 ?_
        refine x_iload_n dX10_readPair_114 3 rfl ?_
        refine x_iconst (v := 1) dX10_readPair_115 (by decide) ?_
        refine x_iadd dX10_readPair_116 ?_
        refine x_iload dX10_readPair_117 0 rfl ?_
        have q37 : ((nI q) + 1 : Int32) = nI (q + 1) := nadd (rfl) (rfl)
        refine YY.S (st' := [.int (r29 + 0), .int (nI (q + 1)), .ref (g.2.1 60)]) (by rw [q37]) ?_
        have b38 : vp_in (nI (q + 1)) 840 := by exact vp_in_nI (by omega) (by decide)
        refine x_iast rfl b38 dX10_readPair_119 ?_
        refine YY.V (V' := uM U36 60 (q + 1) (r29 + 0)) (by rw [nI_clamp (by omega)]) ?_
        obtain ⟨U39, eU39⟩ : ∃ v_v : vM, v_v = uM U36 60 (q + 1) (r29 + 0) := ⟨_, rfl⟩
        refine YY.V eU39.symm ?_
        refine x_vret dX10_readPair_120 rfl ?_
        rw [hQ]
        have hFT := frT.of (q := q) hF3 eU34 eU36 eU39
        have hMM := ((hM3.set eU34 (by decide) (by decide)).row eU36).row eU39
        have h19W : U39 49 19 = U27 49 19 := by rw [eU39, uM_na (by decide), eU36, uM_na (by decide), eU34, uM_ni (by decide)]
        refine ⟨rfl, hFT, a3, hMM, ?_⟩
        rcases hO3 with hB3 | hG3
        · exact Or.inl ⟨h19W.trans hB3.1, hB3.2⟩
        · obtain ⟨h193, v3, d3, ng3, ez3, hd3, hs3, hN3⟩ := hG3
          refine Or.inr ⟨h19W.trans h193, v3, d3, ng3, rSg v1 ng1, hd3, hs3, hN3, by rw [eU39, uM_ni (by omega), eU36, uM_hit, ez1], by rw [eU39, uM_hit, ez3], ?_⟩
          rw [eU39, uM_na (by decide), eU36, uM_na (by decide), eU34, uM_hit, ← ez1, ← ez3]
          exact (bP_t (fun q => absurd q.1 (by assumption))).symm
      · have c32n : ¬ (¬ G) := bP_0.mp c32
        refine x_aload_n dX10_readPair_73 2 rfl ?_
        refine x_getI fl_X10_143 rfl rfl dX10_readPair_74 ?_
        refine x_if_ne 99 dX10_readPair_77 (by decide) (fun c40 => ?_) (fun c40 => ?_)
        · refine x_iconst (v := 0) dX10_readPair_99 (by decide) ?_
          have z41 : (0 : Int32) = 0 ∨ (0 : Int32) = 1 := by first | exact Or.inl rfl | exact Or.inr rfl | grind
          refine x_putZ fp_X10_159 rfl rfl z41 dX10_readPair_100 ?_
          obtain ⟨U42, eU42⟩ : ∃ v_v : vM, v_v = uM U27 49 22 0 := ⟨_, rfl⟩
          refine YY.V eU42.symm ?_
          refine x_aload_n dX10_readPair_103 2 rfl ?_
          refine x_getR fl_X10_41 rfl rfl dX10_readPair_104 ?_
          refine x_iload_n dX10_readPair_107 3 rfl ?_
          refine x_iload_n dX10_readPair_108 1 rfl ?_
          have b43 : vp_in (nI q) 840 := by exact vp_in_nI (by omega) (by decide)
          refine x_iast rfl b43 dX10_readPair_109 ?_
          refine YY.V (V' := uM U42 60 q (r3 + 0)) (by rw [nI_clamp (by omega)]) ?_
          obtain ⟨U44, eU44⟩ : ∃ v_v : vM, v_v = uM U42 60 q (r3 + 0) := ⟨_, rfl⟩
          refine YY.V eU44.symm ?_
          refine x_aload_n dX10_readPair_110 2 rfl ?_
          refine x_getR fl_X10_41 rfl rfl dX10_readPair_111 ?_
          refine x_iload_n dX10_readPair_114 3 rfl ?_
          refine x_iconst (v := 1) dX10_readPair_115 (by decide) ?_
          refine x_iadd dX10_readPair_116 ?_
          refine x_iload dX10_readPair_117 0 rfl ?_
          have q45 : ((nI q) + 1 : Int32) = nI (q + 1) := nadd (rfl) (rfl)
          refine YY.S (st' := [.int (r29 + 0), .int (nI (q + 1)), .ref (g.2.1 60)]) (by rw [q45]) ?_
          have b46 : vp_in (nI (q + 1)) 840 := by exact vp_in_nI (by omega) (by decide)
          refine x_iast rfl b46 dX10_readPair_119 ?_
          refine YY.V (V' := uM U44 60 (q + 1) (r29 + 0)) (by rw [nI_clamp (by omega)]) ?_
          obtain ⟨U47, eU47⟩ : ∃ v_v : vM, v_v = uM U44 60 (q + 1) (r29 + 0) := ⟨_, rfl⟩
          refine YY.V eU47.symm ?_
          refine x_vret dX10_readPair_120 rfl ?_
          rw [hQ]
          have hFT := frT.of (q := q) hF3 eU42 eU44 eU47
          have hMM := ((hM3.set eU42 (by decide) (by decide)).row eU44).row eU47
          have h19W : U47 49 19 = U27 49 19 := by rw [eU47, uM_na (by decide), eU44, uM_na (by decide), eU42, uM_ni (by decide)]
          refine ⟨rfl, hFT, a3, hMM, ?_⟩
          rcases hO3 with hB3 | hG3
          · exact Or.inl ⟨h19W.trans hB3.1, hB3.2⟩
          · exact absurd hG3.1 (by assumption)
        · refine x_iload_n dX10_readPair_80 1 rfl ?_
          refine x_callS (K := jX10_isPlace) [.int (r3 + 0)] lk_X10_84 ⟨⟨rfl, rfl⟩, Nat.le_of_ble_eq_true rfl, Nat.le_of_ble_eq_true rfl⟩ (mX10_isPlace U27 (r3 + 0)) rfl (Nat.le_of_ble_eq_true rfl) rfl dX10_readPair_81 (kpI ?_)
          refine x_if_eq 95 dX10_readPair_84 (by decide) (fun c48 => ?_) (fun c48 => ?_)
          · have c48n : ¬ (-4000 ≤ (r3 + 0) ∧ (r3 + 0) ≤ 4000) := iB_0.mp c48
            refine x_iconst (v := 1) dX10_readPair_95 (by decide) ?_
            refine x_goto 100 dX10_readPair_96 (by decide) ?_
            have z49 : (1 : Int32) = 0 ∨ (1 : Int32) = 1 := by first | exact Or.inl rfl | exact Or.inr rfl | grind
            refine x_putZ fp_X10_159 rfl rfl z49 dX10_readPair_100 ?_
            obtain ⟨U50, eU50⟩ : ∃ v_v : vM, v_v = uM U27 49 22 1 := ⟨_, rfl⟩
            refine YY.V eU50.symm ?_
            refine x_aload_n dX10_readPair_103 2 rfl ?_
            refine x_getR fl_X10_41 rfl rfl dX10_readPair_104 ?_
            refine x_iload_n dX10_readPair_107 3 rfl ?_
            refine x_iload_n dX10_readPair_108 1 rfl ?_
            have b51 : vp_in (nI q) 840 := by exact vp_in_nI (by omega) (by decide)
            refine x_iast rfl b51 dX10_readPair_109 ?_
            refine YY.V (V' := uM U50 60 q (r3 + 0)) (by rw [nI_clamp (by omega)]) ?_
            obtain ⟨U52, eU52⟩ : ∃ v_v : vM, v_v = uM U50 60 q (r3 + 0) := ⟨_, rfl⟩
            refine YY.V eU52.symm ?_
            refine x_aload_n dX10_readPair_110 2 rfl ?_
            refine x_getR fl_X10_41 rfl rfl dX10_readPair_111 ?_
            refine x_iload_n dX10_readPair_114 3 rfl ?_
            refine x_iconst (v := 1) dX10_readPair_115 (by decide) ?_
            refine x_iadd dX10_readPair_116 ?_
            refine x_iload dX10_readPair_117 0 rfl ?_
            have q53 : ((nI q) + 1 : Int32) = nI (q + 1) := nadd (rfl) (rfl)
            refine YY.S (st' := [.int (r29 + 0), .int (nI (q + 1)), .ref (g.2.1 60)]) (by rw [q53]) ?_
            have b54 : vp_in (nI (q + 1)) 840 := by exact vp_in_nI (by omega) (by decide)
            refine x_iast rfl b54 dX10_readPair_119 ?_
            refine YY.V (V' := uM U52 60 (q + 1) (r29 + 0)) (by rw [nI_clamp (by omega)]) ?_
            obtain ⟨U55, eU55⟩ : ∃ v_v : vM, v_v = uM U52 60 (q + 1) (r29 + 0) := ⟨_, rfl⟩
            refine YY.V eU55.symm ?_
            refine x_vret dX10_readPair_120 rfl ?_
            rw [hQ]
            have hFT := frT.of (q := q) hF3 eU50 eU52 eU55
            have hMM := ((hM3.set eU50 (by decide) (by decide)).row eU52).row eU55
            have h19W : U55 49 19 = U27 49 19 := by rw [eU55, uM_na (by decide), eU52, uM_na (by decide), eU50, uM_ni (by decide)]
            refine ⟨rfl, hFT, a3, hMM, ?_⟩
            rcases hO3 with hB3 | hG3
            · exact Or.inl ⟨h19W.trans hB3.1, hB3.2⟩
            · obtain ⟨h193, v3, d3, ng3, ez3, hd3, hs3, hN3⟩ := hG3
              refine Or.inr ⟨h19W.trans h193, v3, d3, ng3, rSg v1 ng1, hd3, hs3, hN3, by rw [eU55, uM_ni (by omega), eU52, uM_hit, ez1], by rw [eU55, uM_hit, ez3], ?_⟩
              rw [eU55, uM_na (by decide), eU52, uM_na (by decide), eU50, uM_hit, ← ez1, ← ez3]
              exact (bP_t (fun q => by first | exact absurd q.2.1 (by assumption) | exact absurd q.2.2 (by assumption))).symm
          · have c48n : (-4000 ≤ (r3 + 0) ∧ (r3 + 0) ≤ 4000) := Classical.not_not.mp (fun q => c48 (iB_0.mpr q))
            refine x_iload dX10_readPair_87 0 rfl ?_
            refine x_callS (K := jX10_isPlace) [.int (r29 + 0)] lk_X10_84 ⟨⟨rfl, rfl⟩, Nat.le_of_ble_eq_true rfl, Nat.le_of_ble_eq_true rfl⟩ (mX10_isPlace U27 (r29 + 0)) rfl (Nat.le_of_ble_eq_true rfl) rfl dX10_readPair_89 (kpI ?_)
            refine x_if_ne 99 dX10_readPair_92 (by decide) (fun c56 => ?_) (fun c56 => ?_)
            · have c56n : (-4000 ≤ (r29 + 0) ∧ (r29 + 0) ≤ 4000) := Classical.not_not.mp (fun q => c56 (iB_0.mpr q))
              refine x_iconst (v := 0) dX10_readPair_99 (by decide) ?_
              have z57 : (0 : Int32) = 0 ∨ (0 : Int32) = 1 := by first | exact Or.inl rfl | exact Or.inr rfl | grind
              refine x_putZ fp_X10_159 rfl rfl z57 dX10_readPair_100 ?_
              obtain ⟨U58, eU58⟩ : ∃ v_v : vM, v_v = uM U27 49 22 0 := ⟨_, rfl⟩
              refine YY.V eU58.symm ?_
              refine x_aload_n dX10_readPair_103 2 rfl ?_
              refine x_getR fl_X10_41 rfl rfl dX10_readPair_104 ?_
              refine x_iload_n dX10_readPair_107 3 rfl ?_
              refine x_iload_n dX10_readPair_108 1 rfl ?_
              have b59 : vp_in (nI q) 840 := by exact vp_in_nI (by omega) (by decide)
              refine x_iast rfl b59 dX10_readPair_109 ?_
              refine YY.V (V' := uM U58 60 q (r3 + 0)) (by rw [nI_clamp (by omega)]) ?_
              obtain ⟨U60, eU60⟩ : ∃ v_v : vM, v_v = uM U58 60 q (r3 + 0) := ⟨_, rfl⟩
              refine YY.V eU60.symm ?_
              refine x_aload_n dX10_readPair_110 2 rfl ?_
              refine x_getR fl_X10_41 rfl rfl dX10_readPair_111 ?_
              refine x_iload_n dX10_readPair_114 3 rfl ?_
              refine x_iconst (v := 1) dX10_readPair_115 (by decide) ?_
              refine x_iadd dX10_readPair_116 ?_
              refine x_iload dX10_readPair_117 0 rfl ?_
              have q61 : ((nI q) + 1 : Int32) = nI (q + 1) := nadd (rfl) (rfl)
              refine YY.S (st' := [.int (r29 + 0), .int (nI (q + 1)), .ref (g.2.1 60)]) (by rw [q61]) ?_
              have b62 : vp_in (nI (q + 1)) 840 := by exact vp_in_nI (by omega) (by decide)
              refine x_iast rfl b62 dX10_readPair_119 ?_
              refine YY.V (V' := uM U60 60 (q + 1) (r29 + 0)) (by rw [nI_clamp (by omega)]) ?_
              obtain ⟨U63, eU63⟩ : ∃ v_v : vM, v_v = uM U60 60 (q + 1) (r29 + 0) := ⟨_, rfl⟩
              refine YY.V eU63.symm ?_
              refine x_vret dX10_readPair_120 rfl ?_
              rw [hQ]
              have hFT := frT.of (q := q) hF3 eU58 eU60 eU63
              have hMM := ((hM3.set eU58 (by decide) (by decide)).row eU60).row eU63
              have h19W : U63 49 19 = U27 49 19 := by rw [eU63, uM_na (by decide), eU60, uM_na (by decide), eU58, uM_ni (by decide)]
              refine ⟨rfl, hFT, a3, hMM, ?_⟩
              rcases hO3 with hB3 | hG3
              · exact Or.inl ⟨h19W.trans hB3.1, hB3.2⟩
              · obtain ⟨h193, v3, d3, ng3, ez3, hd3, hs3, hN3⟩ := hG3
                refine Or.inr ⟨h19W.trans h193, v3, d3, ng3, rSg v1 ng1, hd3, hs3, hN3, by rw [eU63, uM_ni (by omega), eU60, uM_hit, ez1], by rw [eU63, uM_hit, ez3], ?_⟩
                rw [eU63, uM_na (by decide), eU60, uM_na (by decide), eU58, uM_hit, ← ez1, ← ez3]
                exact (bP_f (fun q => q ⟨Classical.not_not.mp (by assumption), by assumption, by assumption⟩)).symm
            · have c56n : ¬ (-4000 ≤ (r29 + 0) ∧ (r29 + 0) ≤ 4000) := iB_0.mp c56
              refine x_iconst (v := 1) dX10_readPair_95 (by decide) ?_
              refine x_goto 100 dX10_readPair_96 (by decide) ?_
              have z64 : (1 : Int32) = 0 ∨ (1 : Int32) = 1 := by first | exact Or.inl rfl | exact Or.inr rfl | grind
              refine x_putZ fp_X10_159 rfl rfl z64 dX10_readPair_100 ?_
              obtain ⟨U65, eU65⟩ : ∃ v_v : vM, v_v = uM U27 49 22 1 := ⟨_, rfl⟩
              refine YY.V eU65.symm ?_
              refine x_aload_n dX10_readPair_103 2 rfl ?_
              refine x_getR fl_X10_41 rfl rfl dX10_readPair_104 ?_
              refine x_iload_n dX10_readPair_107 3 rfl ?_
              refine x_iload_n dX10_readPair_108 1 rfl ?_
              have b66 : vp_in (nI q) 840 := by exact vp_in_nI (by omega) (by decide)
              refine x_iast rfl b66 dX10_readPair_109 ?_
              refine YY.V (V' := uM U65 60 q (r3 + 0)) (by rw [nI_clamp (by omega)]) ?_
              obtain ⟨U67, eU67⟩ : ∃ v_v : vM, v_v = uM U65 60 q (r3 + 0) := ⟨_, rfl⟩
              refine YY.V eU67.symm ?_
              refine x_aload_n dX10_readPair_110 2 rfl ?_
              refine x_getR fl_X10_41 rfl rfl dX10_readPair_111 ?_
              refine x_iload_n dX10_readPair_114 3 rfl ?_
              refine x_iconst (v := 1) dX10_readPair_115 (by decide) ?_
              refine x_iadd dX10_readPair_116 ?_
              refine x_iload dX10_readPair_117 0 rfl ?_
              have q68 : ((nI q) + 1 : Int32) = nI (q + 1) := nadd (rfl) (rfl)
              refine YY.S (st' := [.int (r29 + 0), .int (nI (q + 1)), .ref (g.2.1 60)]) (by rw [q68]) ?_
              have b69 : vp_in (nI (q + 1)) 840 := by exact vp_in_nI (by omega) (by decide)
              refine x_iast rfl b69 dX10_readPair_119 ?_
              refine YY.V (V' := uM U67 60 (q + 1) (r29 + 0)) (by rw [nI_clamp (by omega)]) ?_
              obtain ⟨U70, eU70⟩ : ∃ v_v : vM, v_v = uM U67 60 (q + 1) (r29 + 0) := ⟨_, rfl⟩
              refine YY.V eU70.symm ?_
              refine x_vret dX10_readPair_120 rfl ?_
              rw [hQ]
              have hFT := frT.of (q := q) hF3 eU65 eU67 eU70
              have hMM := ((hM3.set eU65 (by decide) (by decide)).row eU67).row eU70
              have h19W : U70 49 19 = U27 49 19 := by rw [eU70, uM_na (by decide), eU67, uM_na (by decide), eU65, uM_ni (by decide)]
              refine ⟨rfl, hFT, a3, hMM, ?_⟩
              rcases hO3 with hB3 | hG3
              · exact Or.inl ⟨h19W.trans hB3.1, hB3.2⟩
              · obtain ⟨h193, v3, d3, ng3, ez3, hd3, hs3, hN3⟩ := hG3
                refine Or.inr ⟨h19W.trans h193, v3, d3, ng3, rSg v1 ng1, hd3, hs3, hN3, by rw [eU70, uM_ni (by omega), eU67, uM_hit, ez1], by rw [eU70, uM_hit, ez3], ?_⟩
                rw [eU70, uM_na (by decide), eU67, uM_na (by decide), eU65, uM_hit, ← ez1, ← ez3]
                exact (bP_t (fun q => by first | exact absurd q.2.1 (by assumption) | exact absurd q.2.2 (by assumption))).symm
    · have hB2 := (hO2.resolve_right (fun q => absurd q.1 (by assumption)))
      refine x_iconst (v := 0) dX10_readPair_23 (by decide) ?_
      refine x_goto 31 dX10_readPair_24 (by decide) ?_
      refine x_istore 4 [(4, .int 0), (3, .int r3), (0, .ref (g.2.1 49)), (1, .int (nI q)), (2, .int 0)] dX10_readPair_31 (by decide) rfl ?_
      refine x_iload_n dX10_readPair_33 1 rfl ?_
      refine x_iload_n dX10_readPair_34 4 rfl ?_
      refine x_if_eq 45 dX10_readPair_35 (by decide) (fun c71 => ?_) (fun c71 => by exfalso; revert c71; decide)
      refine x_iconst (v := 0) dX10_readPair_45 (by decide) ?_
      refine x_iadd dX10_readPair_46 ?_
      refine x_istore_n 3 [(3, .int (r3 + 0)), (4, .int 0), (0, .ref (g.2.1 49)), (1, .int (nI q)), (2, .int 0)] dX10_readPair_47 rfl (by decide) rfl ?_
      refine x_iload dX10_readPair_48 1 rfl ?_
      refine x_iload_n dX10_readPair_50 4 rfl ?_
      refine x_if_eq 61 dX10_readPair_51 (by decide) (fun c72 => ?_) (fun c72 => by exfalso; revert c72; decide)
      refine x_iconst (v := 0) dX10_readPair_61 (by decide) ?_
      refine x_iadd dX10_readPair_62 ?_
      refine x_topi (y := 0) (by decide) ?_
      refine x_istore 4 [(4, .int 0), (3, .int (r3 + 0)), (0, .ref (g.2.1 49)), (1, .int (nI q)), (2, .int 0)] dX10_readPair_63 (by decide) rfl ?_
      refine x_aload_n dX10_readPair_65 2 rfl ?_
      refine x_aload_n dX10_readPair_66 2 rfl ?_
      refine x_getI fl_X10_159 rfl rfl dX10_readPair_67 ?_
      refine x_topi ((hF2 49 22 (by decide)).trans h22) ?_
      refine x_if_ne 95 dX10_readPair_70 (by decide) (fun c73 => ?_) (fun c73 => ?_)
      · have c73n : (¬ G) := Classical.not_not.mp (fun q => c73 (bP_0.mpr q))
        refine x_iconst (v := 1) dX10_readPair_95 (by decide) ?_
        refine x_goto 100 dX10_readPair_96 (by decide) ?_
        have z74 : (1 : Int32) = 0 ∨ (1 : Int32) = 1 := by first | exact Or.inl rfl | exact Or.inr rfl | grind
        refine x_putZ fp_X10_159 rfl rfl z74 dX10_readPair_100 ?_
        obtain ⟨U75, eU75⟩ : ∃ v_v : vM, v_v = uM U24 49 22 1 := ⟨_, rfl⟩
        refine YY.V eU75.symm ?_
        refine x_aload_n dX10_readPair_103 2 rfl ?_
        refine x_getR fl_X10_41 rfl rfl dX10_readPair_104 ?_
        refine x_iload_n dX10_readPair_107 3 rfl ?_
        refine x_iload_n dX10_readPair_108 1 rfl ?_
        have b76 : vp_in (nI q) 840 := by exact vp_in_nI (by omega) (by decide)
        refine x_iast rfl b76 dX10_readPair_109 ?_
        refine YY.V (V' := uM U75 60 q (r3 + 0)) (by rw [nI_clamp (by omega)]) ?_
        obtain ⟨U77, eU77⟩ : ∃ v_v : vM, v_v = uM U75 60 q (r3 + 0) := ⟨_, rfl⟩
        refine YY.V eU77.symm ?_
        refine x_aload_n dX10_readPair_110 2 rfl ?_
        refine x_getR fl_X10_41 rfl rfl dX10_readPair_111 ?_
        refine x_iload_n dX10_readPair_114 3 rfl ?_
        refine x_iconst (v := 1) dX10_readPair_115 (by decide) ?_
        refine x_iadd dX10_readPair_116 ?_
        refine x_iload dX10_readPair_117 0 rfl ?_
        have q78 : ((nI q) + 1 : Int32) = nI (q + 1) := nadd (rfl) (rfl)
        refine YY.S (st' := [.int 0, .int (nI (q + 1)), .ref (g.2.1 60)]) (by rw [q78]) ?_
        have b79 : vp_in (nI (q + 1)) 840 := by exact vp_in_nI (by omega) (by decide)
        refine x_iast rfl b79 dX10_readPair_119 ?_
        refine YY.V (V' := uM U77 60 (q + 1) 0) (by rw [nI_clamp (by omega)]) ?_
        obtain ⟨U80, eU80⟩ : ∃ v_v : vM, v_v = uM U77 60 (q + 1) 0 := ⟨_, rfl⟩
        refine YY.V eU80.symm ?_
        refine x_vret dX10_readPair_120 rfl ?_
        rw [hQ]
        have hFT := frT.of (q := q) hF2 eU75 eU77 eU80
        have hMM := ((hM2.set eU75 (by decide) (by decide)).row eU77).row eU80
        have h19W : U80 49 19 = U24 49 19 := by rw [eU80, uM_na (by decide), eU77, uM_na (by decide), eU75, uM_ni (by decide)]
        exact ⟨rfl, hFT, a2, hMM, Or.inl ⟨h19W.trans hB2.1, hB2.2⟩⟩
      · have c73n : ¬ (¬ G) := bP_0.mp c73
        refine x_aload_n dX10_readPair_73 2 rfl ?_
        refine x_getI fl_X10_143 rfl rfl dX10_readPair_74 ?_
        refine x_if_ne 99 dX10_readPair_77 (by decide) (fun c81 => ?_) (fun c81 => by exfalso; exact absurd c81 (by assumption))
        refine x_iconst (v := 0) dX10_readPair_99 (by decide) ?_
        have z82 : (0 : Int32) = 0 ∨ (0 : Int32) = 1 := by first | exact Or.inl rfl | exact Or.inr rfl | grind
        refine x_putZ fp_X10_159 rfl rfl z82 dX10_readPair_100 ?_
        obtain ⟨U83, eU83⟩ : ∃ v_v : vM, v_v = uM U24 49 22 0 := ⟨_, rfl⟩
        refine YY.V eU83.symm ?_
        refine x_aload_n dX10_readPair_103 2 rfl ?_
        refine x_getR fl_X10_41 rfl rfl dX10_readPair_104 ?_
        refine x_iload_n dX10_readPair_107 3 rfl ?_
        refine x_iload_n dX10_readPair_108 1 rfl ?_
        have b84 : vp_in (nI q) 840 := by exact vp_in_nI (by omega) (by decide)
        refine x_iast rfl b84 dX10_readPair_109 ?_
        refine YY.V (V' := uM U83 60 q (r3 + 0)) (by rw [nI_clamp (by omega)]) ?_
        obtain ⟨U85, eU85⟩ : ∃ v_v : vM, v_v = uM U83 60 q (r3 + 0) := ⟨_, rfl⟩
        refine YY.V eU85.symm ?_
        refine x_aload_n dX10_readPair_110 2 rfl ?_
        refine x_getR fl_X10_41 rfl rfl dX10_readPair_111 ?_
        refine x_iload_n dX10_readPair_114 3 rfl ?_
        refine x_iconst (v := 1) dX10_readPair_115 (by decide) ?_
        refine x_iadd dX10_readPair_116 ?_
        refine x_iload dX10_readPair_117 0 rfl ?_
        have q86 : ((nI q) + 1 : Int32) = nI (q + 1) := nadd (rfl) (rfl)
        refine YY.S (st' := [.int 0, .int (nI (q + 1)), .ref (g.2.1 60)]) (by rw [q86]) ?_
        have b87 : vp_in (nI (q + 1)) 840 := by exact vp_in_nI (by omega) (by decide)
        refine x_iast rfl b87 dX10_readPair_119 ?_
        refine YY.V (V' := uM U85 60 (q + 1) 0) (by rw [nI_clamp (by omega)]) ?_
        obtain ⟨U88, eU88⟩ : ∃ v_v : vM, v_v = uM U85 60 (q + 1) 0 := ⟨_, rfl⟩
        refine YY.V eU88.symm ?_
        refine x_vret dX10_readPair_120 rfl ?_
        rw [hQ]
        have hFT := frT.of (q := q) hF2 eU83 eU85 eU88
        have hMM := ((hM2.set eU83 (by decide) (by decide)).row eU85).row eU88
        have h19W : U88 49 19 = U24 49 19 := by rw [eU88, uM_na (by decide), eU85, uM_na (by decide), eU83, uM_ni (by decide)]
        exact ⟨rfl, hFT, a2, hMM, Or.inl ⟨h19W.trans hB2.1, hB2.2⟩⟩
set_option maxHeartbeats 2000000 in
set_option maxRecDepth 100000 in
theorem mX10_readPair1 {g : gX} {V : vM} {P : Nat → Int32} {n a : Nat} {k : Int32} {c cm : Nat} {p : Int32 × Int32 × Int32 × Int32} {X O : Nat → Int32} (hMR : MR V P n a) (h19 : V 49 19 = 0) (hs : rRun P a = some ((k, 1, 0), (c, 0, 0, cm), p, X, O)) (hc : c + 1 < rNd k) {x y : Int32} {G : Prop} (hx : V 49 23 = x) (hy : V 49 24 = y) (h22 : V 49 22 = bP (¬ G)) (q : Nat) (hq : q + 1 < 840) : MM g jX10_readPair V [.ref (g.2.1 49), .int (nI q), .int 1] (eV (PairP V P n k 1 c cm p X O x y G q)) := by
  refine MM.of plX10_readPair (Nat.le_of_ble_eq_true rfl) ?_
  obtain ⟨Q, hQ⟩ : ∃ Q : Option Value → vM → Prop, Q = (eV (PairP V P n k 1 c cm p X O x y G q)) := ⟨_, rfl⟩
  rw [← hQ]
  show XX g jX10_readPair Q V 0 [(0, .ref (g.2.1 49)), (1, .int (nI q)), (2, .int 1)] []
  have han := hMR.2.2.2.1
  have hn120 := hMR.2.2.2.2
  refine x_aload_n dX10_readPair_0 0 rfl ?_
  refine x_callV (K := jX10_readNumber) [] lk_X10_147 ⟨⟨rfl, rfl⟩, Nat.le_of_ble_eq_true rfl, Nat.le_of_ble_eq_true rfl⟩ rfl rfl (mX10_readNumber hMR h19 hs (by omega)) rfl (Nat.le_of_ble_eq_true rfl) rfl dX10_readPair_1 (keI fun r3 U1 hU2 => ?_)
  obtain ⟨hF1, a1, hM1, hO1⟩ := hU2
  refine x_istore_n 3 [(3, .int r3), (0, .ref (g.2.1 49)), (1, .int (nI q)), (2, .int 1)] dX10_readPair_4 rfl (by decide) rfl ?_
  refine x_aload_n dX10_readPair_5 1 rfl ?_
  refine x_getI fl_X10_143 rfl rfl dX10_readPair_6 ?_
  refine x_if_ne 16 dX10_readPair_9 (by decide) (fun c4 => ?_) (fun c4 => ?_)
  · have hB1 := (hO1.resolve_right (fun q => absurd q.1 (by assumption)))
    refine x_aload_n dX10_readPair_16 1 rfl ?_
    refine x_getI fl_X10_143 rfl rfl dX10_readPair_17 ?_
    refine x_if_eq 27 dX10_readPair_20 (by decide) (fun c5 => by exfalso; exact absurd c5 (by assumption)) (fun c5 => ?_)
    refine x_iconst (v := 0) dX10_readPair_23 (by decide) ?_
    refine x_goto 31 dX10_readPair_24 (by decide) ?_
    refine x_istore 4 [(4, .int 0), (3, .int r3), (0, .ref (g.2.1 49)), (1, .int (nI q)), (2, .int 1)] dX10_readPair_31 (by decide) rfl ?_
    refine x_iload_n dX10_readPair_33 1 rfl ?_
    refine x_iload_n dX10_readPair_34 4 rfl ?_
    refine x_if_eq 45 dX10_readPair_35 (by decide) (fun c6 => by exfalso; revert c6; decide) (fun c6 => ?_)
    refine x_aload_n dX10_readPair_38 2 rfl ?_
    refine x_getI fl_X10_153 rfl rfl dX10_readPair_39 ?_
    refine x_topi ((hF1 49 23 (by decide)).trans hx) ?_
    refine x_goto 46 dX10_readPair_42 (by decide) ?_
    refine x_iadd dX10_readPair_46 ?_
    refine x_istore_n 3 [(3, .int (r3 + x)), (4, .int 0), (0, .ref (g.2.1 49)), (1, .int (nI q)), (2, .int 1)] dX10_readPair_47 rfl (by decide) rfl ?_
    refine x_iload dX10_readPair_48 1 rfl ?_
    refine x_iload_n dX10_readPair_50 4 rfl ?_
    refine x_if_eq 61 dX10_readPair_51 (by decide) (fun c7 => by exfalso; revert c7; decide) (fun c7 => ?_)
    refine x_aload_n dX10_readPair_54 2 rfl ?_
    refine x_getI fl_X10_156 rfl rfl dX10_readPair_55 ?_
    refine x_topi ((hF1 49 24 (by decide)).trans hy) ?_
    refine x_goto 62 dX10_readPair_58 (by decide) ?_
    refine x_iadd dX10_readPair_62 ?_
    refine x_istore 4 [(4, .int (0 + y)), (3, .int (r3 + x)), (0, .ref (g.2.1 49)), (1, .int (nI q)), (2, .int 1)] dX10_readPair_63 (by decide) rfl ?_
    refine x_aload_n dX10_readPair_65 2 rfl ?_
    refine x_aload_n dX10_readPair_66 2 rfl ?_
    refine x_getI fl_X10_159 rfl rfl dX10_readPair_67 ?_
    refine x_topi ((hF1 49 22 (by decide)).trans h22) ?_
    refine x_if_ne 95 dX10_readPair_70 (by decide) (fun c8 => ?_) (fun c8 => ?_)
    · have c8n : (¬ G) := Classical.not_not.mp (fun q => c8 (bP_0.mpr q))
      refine x_iconst (v := 1) dX10_readPair_95 (by decide) ?_
      refine x_goto 100 dX10_readPair_96 (by decide) ?_
      have z9 : (1 : Int32) = 0 ∨ (1 : Int32) = 1 := by first | exact Or.inl rfl | exact Or.inr rfl | grind
      refine x_putZ fp_X10_159 rfl rfl z9 dX10_readPair_100 ?_
      obtain ⟨U10, eU10⟩ : ∃ v_v : vM, v_v = uM U1 49 22 1 := ⟨_, rfl⟩
      refine YY.V eU10.symm ?_
      refine x_aload_n dX10_readPair_103 2 rfl ?_
      refine x_getR fl_X10_41 rfl rfl dX10_readPair_104 ?_
      refine x_iload_n dX10_readPair_107 3 rfl ?_
      refine x_iload_n dX10_readPair_108 1 rfl ?_
      have b11 : vp_in (nI q) 840 := by exact vp_in_nI (by omega) (by decide)
      refine x_iast rfl b11 dX10_readPair_109 ?_
      refine YY.V (V' := uM U10 60 q (r3 + x)) (by rw [nI_clamp (by omega)]) ?_
      obtain ⟨U12, eU12⟩ : ∃ v_v : vM, v_v = uM U10 60 q (r3 + x) := ⟨_, rfl⟩
      refine YY.V eU12.symm ?_
      refine x_aload_n dX10_readPair_110 2 rfl ?_
      refine x_getR fl_X10_41 rfl rfl dX10_readPair_111 ?_
      refine x_iload_n dX10_readPair_114 3 rfl ?_
      refine x_iconst (v := 1) dX10_readPair_115 (by decide) ?_
      refine x_iadd dX10_readPair_116 ?_
      refine x_iload dX10_readPair_117 0 rfl ?_
      have q13 : ((nI q) + 1 : Int32) = nI (q + 1) := nadd (rfl) (rfl)
      refine YY.S (st' := [.int (0 + y), .int (nI (q + 1)), .ref (g.2.1 60)]) (by rw [q13]) ?_
      have b14 : vp_in (nI (q + 1)) 840 := by exact vp_in_nI (by omega) (by decide)
      refine x_iast rfl b14 dX10_readPair_119 ?_
      refine YY.V (V' := uM U12 60 (q + 1) (0 + y)) (by rw [nI_clamp (by omega)]) ?_
      obtain ⟨U15, eU15⟩ : ∃ v_v : vM, v_v = uM U12 60 (q + 1) (0 + y) := ⟨_, rfl⟩
      refine YY.V eU15.symm ?_
      refine x_vret dX10_readPair_120 rfl ?_
      rw [hQ]
      have hFT := frT.of (q := q) hF1 eU10 eU12 eU15
      have hMM := ((hM1.set eU10 (by decide) (by decide)).row eU12).row eU15
      have h19W : U15 49 19 = U1 49 19 := by rw [eU15, uM_na (by decide), eU12, uM_na (by decide), eU10, uM_ni (by decide)]
      exact ⟨rfl, hFT, a1, hMM, Or.inl ⟨h19W.trans hB1.1, hB1.2⟩⟩
    · have c8n : ¬ (¬ G) := bP_0.mp c8
      refine x_aload_n dX10_readPair_73 2 rfl ?_
      refine x_getI fl_X10_143 rfl rfl dX10_readPair_74 ?_
      refine x_if_ne 99 dX10_readPair_77 (by decide) (fun c16 => ?_) (fun c16 => by exfalso; exact absurd c16 (by assumption))
      refine x_iconst (v := 0) dX10_readPair_99 (by decide) ?_
      have z17 : (0 : Int32) = 0 ∨ (0 : Int32) = 1 := by first | exact Or.inl rfl | exact Or.inr rfl | grind
      refine x_putZ fp_X10_159 rfl rfl z17 dX10_readPair_100 ?_
      obtain ⟨U18, eU18⟩ : ∃ v_v : vM, v_v = uM U1 49 22 0 := ⟨_, rfl⟩
      refine YY.V eU18.symm ?_
      refine x_aload_n dX10_readPair_103 2 rfl ?_
      refine x_getR fl_X10_41 rfl rfl dX10_readPair_104 ?_
      refine x_iload_n dX10_readPair_107 3 rfl ?_
      refine x_iload_n dX10_readPair_108 1 rfl ?_
      have b19 : vp_in (nI q) 840 := by exact vp_in_nI (by omega) (by decide)
      refine x_iast rfl b19 dX10_readPair_109 ?_
      refine YY.V (V' := uM U18 60 q (r3 + x)) (by rw [nI_clamp (by omega)]) ?_
      obtain ⟨U20, eU20⟩ : ∃ v_v : vM, v_v = uM U18 60 q (r3 + x) := ⟨_, rfl⟩
      refine YY.V eU20.symm ?_
      refine x_aload_n dX10_readPair_110 2 rfl ?_
      refine x_getR fl_X10_41 rfl rfl dX10_readPair_111 ?_
      refine x_iload_n dX10_readPair_114 3 rfl ?_
      refine x_iconst (v := 1) dX10_readPair_115 (by decide) ?_
      refine x_iadd dX10_readPair_116 ?_
      refine x_iload dX10_readPair_117 0 rfl ?_
      have q21 : ((nI q) + 1 : Int32) = nI (q + 1) := nadd (rfl) (rfl)
      refine YY.S (st' := [.int (0 + y), .int (nI (q + 1)), .ref (g.2.1 60)]) (by rw [q21]) ?_
      have b22 : vp_in (nI (q + 1)) 840 := by exact vp_in_nI (by omega) (by decide)
      refine x_iast rfl b22 dX10_readPair_119 ?_
      refine YY.V (V' := uM U20 60 (q + 1) (0 + y)) (by rw [nI_clamp (by omega)]) ?_
      obtain ⟨U23, eU23⟩ : ∃ v_v : vM, v_v = uM U20 60 (q + 1) (0 + y) := ⟨_, rfl⟩
      refine YY.V eU23.symm ?_
      refine x_vret dX10_readPair_120 rfl ?_
      rw [hQ]
      have hFT := frT.of (q := q) hF1 eU18 eU20 eU23
      have hMM := ((hM1.set eU18 (by decide) (by decide)).row eU20).row eU23
      have h19W : U23 49 19 = U1 49 19 := by rw [eU23, uM_na (by decide), eU20, uM_na (by decide), eU18, uM_ni (by decide)]
      exact ⟨rfl, hFT, a1, hMM, Or.inl ⟨h19W.trans hB1.1, hB1.2⟩⟩
  · obtain ⟨h191, v1, d1, ng1, ez1, hd1, hs1, hN1⟩ := hO1.resolve_left (fun q => absurd (q.1.symm.trans (by assumption)) (by decide))
    refine x_aload_n dX10_readPair_12 1 rfl ?_
    refine x_callV (K := jX10_readComma) [] lk_X10_150 ⟨⟨rfl, rfl⟩, Nat.le_of_ble_eq_true rfl, Nat.le_of_ble_eq_true rfl⟩ rfl rfl (mX10_readComma hM1 h191 hs1 hd1 hc hN1) rfl (Nat.le_of_ble_eq_true rfl) rfl dX10_readPair_13 (keV fun U24 hU25 => ?_)
    obtain ⟨hF2a, a2, hM2, hO2⟩ := hU25
    have hF2 := hF1.trans hF2a
    refine x_aload_n dX10_readPair_16 1 rfl ?_
    refine x_getI fl_X10_143 rfl rfl dX10_readPair_17 ?_
    refine x_if_eq 27 dX10_readPair_20 (by decide) (fun c26 => ?_) (fun c26 => ?_)
    · obtain ⟨h192, hs2⟩ := hO2.resolve_left (fun q => absurd (q.1.symm.trans (by assumption)) (by decide))
      refine x_aload_n dX10_readPair_27 1 rfl ?_
      refine x_callV (K := jX10_readNumber) [] lk_X10_147 ⟨⟨rfl, rfl⟩, Nat.le_of_ble_eq_true rfl, Nat.le_of_ble_eq_true rfl⟩ rfl rfl (mX10_readNumber hM2 h192 hs2 hc) rfl (Nat.le_of_ble_eq_true rfl) rfl dX10_readPair_28 (keI fun r29 U27 hU28 => ?_)
      obtain ⟨hF3a, a3, hM3, hO3⟩ := hU28
      have hF3 := hF2.trans hF3a
      refine x_istore 4 [(4, .int r29), (3, .int r3), (0, .ref (g.2.1 49)), (1, .int (nI q)), (2, .int 1)] dX10_readPair_31 (by decide) rfl ?_
      refine x_iload_n dX10_readPair_33 1 rfl ?_
      refine x_iload_n dX10_readPair_34 4 rfl ?_
      refine x_if_eq 45 dX10_readPair_35 (by decide) (fun c30 => by exfalso; revert c30; decide) (fun c30 => ?_)
      refine x_aload_n dX10_readPair_38 2 rfl ?_
      refine x_getI fl_X10_153 rfl rfl dX10_readPair_39 ?_
      refine x_topi ((hF3 49 23 (by decide)).trans hx) ?_
      refine x_goto 46 dX10_readPair_42 (by decide) ?_
      refine x_iadd dX10_readPair_46 ?_
      refine x_istore_n 3 [(3, .int (r3 + x)), (4, .int r29), (0, .ref (g.2.1 49)), (1, .int (nI q)), (2, .int 1)] dX10_readPair_47 rfl (by decide) rfl ?_
      refine x_iload dX10_readPair_48 1 rfl ?_
      refine x_iload_n dX10_readPair_50 4 rfl ?_
      refine x_if_eq 61 dX10_readPair_51 (by decide) (fun c31 => by exfalso; revert c31; decide) (fun c31 => ?_)
      refine x_aload_n dX10_readPair_54 2 rfl ?_
      refine x_getI fl_X10_156 rfl rfl dX10_readPair_55 ?_
      refine x_topi ((hF3 49 24 (by decide)).trans hy) ?_
      refine x_goto 62 dX10_readPair_58 (by decide) ?_
      refine x_iadd dX10_readPair_62 ?_
      refine x_istore 4 [(4, .int (r29 + y)), (3, .int (r3 + x)), (0, .ref (g.2.1 49)), (1, .int (nI q)), (2, .int 1)] dX10_readPair_63 (by decide) rfl ?_
      refine x_aload_n dX10_readPair_65 2 rfl ?_
      refine x_aload_n dX10_readPair_66 2 rfl ?_
      refine x_getI fl_X10_159 rfl rfl dX10_readPair_67 ?_
      refine x_topi ((hF3 49 22 (by decide)).trans h22) ?_
      refine x_if_ne 95 dX10_readPair_70 (by decide) (fun c32 => ?_) (fun c32 => ?_)
      · have c32n : (¬ G) := Classical.not_not.mp (fun q => c32 (bP_0.mpr q))
        refine x_iconst (v := 1) dX10_readPair_95 (by decide) ?_
        refine x_goto 100 dX10_readPair_96 (by decide) ?_
        have z33 : (1 : Int32) = 0 ∨ (1 : Int32) = 1 := by first | exact Or.inl rfl | exact Or.inr rfl | grind
        refine x_putZ fp_X10_159 rfl rfl z33 dX10_readPair_100 ?_
        obtain ⟨U34, eU34⟩ : ∃ v_v : vM, v_v = uM U27 49 22 1 := ⟨_, rfl⟩
        refine YY.V eU34.symm ?_
        refine x_aload_n dX10_readPair_103 2 rfl ?_
        refine x_getR fl_X10_41 rfl rfl dX10_readPair_104 ?_
        refine x_iload_n dX10_readPair_107 3 rfl ?_
        refine x_iload_n dX10_readPair_108 1 rfl ?_
        have b35 : vp_in (nI q) 840 := by exact vp_in_nI (by omega) (by decide)
        refine x_iast rfl b35 dX10_readPair_109 ?_
        refine YY.V (V' := uM U34 60 q (r3 + x)) (by rw [nI_clamp (by omega)]) ?_
        obtain ⟨U36, eU36⟩ : ∃ v_v : vM, v_v = uM U34 60 q (r3 + x) := ⟨_, rfl⟩
        refine YY.V eU36.symm ?_
        refine x_aload_n dX10_readPair_110 2 rfl ?_
        refine x_getR fl_X10_41 rfl rfl dX10_readPair_111 ?_
        refine x_iload_n dX10_readPair_114 3 rfl ?_
        refine x_iconst (v := 1) dX10_readPair_115 (by decide) ?_
        refine x_iadd dX10_readPair_116 ?_
        refine x_iload dX10_readPair_117 0 rfl ?_
        have q37 : ((nI q) + 1 : Int32) = nI (q + 1) := nadd (rfl) (rfl)
        refine YY.S (st' := [.int (r29 + y), .int (nI (q + 1)), .ref (g.2.1 60)]) (by rw [q37]) ?_
        have b38 : vp_in (nI (q + 1)) 840 := by exact vp_in_nI (by omega) (by decide)
        refine x_iast rfl b38 dX10_readPair_119 ?_
        refine YY.V (V' := uM U36 60 (q + 1) (r29 + y)) (by rw [nI_clamp (by omega)]) ?_
        obtain ⟨U39, eU39⟩ : ∃ v_v : vM, v_v = uM U36 60 (q + 1) (r29 + y) := ⟨_, rfl⟩
        refine YY.V eU39.symm ?_
        refine x_vret dX10_readPair_120 rfl ?_
        rw [hQ]
        have hFT := frT.of (q := q) hF3 eU34 eU36 eU39
        have hMM := ((hM3.set eU34 (by decide) (by decide)).row eU36).row eU39
        have h19W : U39 49 19 = U27 49 19 := by rw [eU39, uM_na (by decide), eU36, uM_na (by decide), eU34, uM_ni (by decide)]
        refine ⟨rfl, hFT, a3, hMM, ?_⟩
        rcases hO3 with hB3 | hG3
        · exact Or.inl ⟨h19W.trans hB3.1, hB3.2⟩
        · obtain ⟨h193, v3, d3, ng3, ez3, hd3, hs3, hN3⟩ := hG3
          refine Or.inr ⟨h19W.trans h193, v3, d3, ng3, rSg v1 ng1, hd3, hs3, hN3, by rw [eU39, uM_ni (by omega), eU36, uM_hit, ez1], by rw [eU39, uM_hit, ez3], ?_⟩
          rw [eU39, uM_na (by decide), eU36, uM_na (by decide), eU34, uM_hit, ← ez1, ← ez3]
          exact (bP_t (fun q => absurd q.1 (by assumption))).symm
      · have c32n : ¬ (¬ G) := bP_0.mp c32
        refine x_aload_n dX10_readPair_73 2 rfl ?_
        refine x_getI fl_X10_143 rfl rfl dX10_readPair_74 ?_
        refine x_if_ne 99 dX10_readPair_77 (by decide) (fun c40 => ?_) (fun c40 => ?_)
        · refine x_iconst (v := 0) dX10_readPair_99 (by decide) ?_
          have z41 : (0 : Int32) = 0 ∨ (0 : Int32) = 1 := by first | exact Or.inl rfl | exact Or.inr rfl | grind
          refine x_putZ fp_X10_159 rfl rfl z41 dX10_readPair_100 ?_
          obtain ⟨U42, eU42⟩ : ∃ v_v : vM, v_v = uM U27 49 22 0 := ⟨_, rfl⟩
          refine YY.V eU42.symm ?_
          refine x_aload_n dX10_readPair_103 2 rfl ?_
          refine x_getR fl_X10_41 rfl rfl dX10_readPair_104 ?_
          refine x_iload_n dX10_readPair_107 3 rfl ?_
          refine x_iload_n dX10_readPair_108 1 rfl ?_
          have b43 : vp_in (nI q) 840 := by exact vp_in_nI (by omega) (by decide)
          refine x_iast rfl b43 dX10_readPair_109 ?_
          refine YY.V (V' := uM U42 60 q (r3 + x)) (by rw [nI_clamp (by omega)]) ?_
          obtain ⟨U44, eU44⟩ : ∃ v_v : vM, v_v = uM U42 60 q (r3 + x) := ⟨_, rfl⟩
          refine YY.V eU44.symm ?_
          refine x_aload_n dX10_readPair_110 2 rfl ?_
          refine x_getR fl_X10_41 rfl rfl dX10_readPair_111 ?_
          refine x_iload_n dX10_readPair_114 3 rfl ?_
          refine x_iconst (v := 1) dX10_readPair_115 (by decide) ?_
          refine x_iadd dX10_readPair_116 ?_
          refine x_iload dX10_readPair_117 0 rfl ?_
          have q45 : ((nI q) + 1 : Int32) = nI (q + 1) := nadd (rfl) (rfl)
          refine YY.S (st' := [.int (r29 + y), .int (nI (q + 1)), .ref (g.2.1 60)]) (by rw [q45]) ?_
          have b46 : vp_in (nI (q + 1)) 840 := by exact vp_in_nI (by omega) (by decide)
          refine x_iast rfl b46 dX10_readPair_119 ?_
          refine YY.V (V' := uM U44 60 (q + 1) (r29 + y)) (by rw [nI_clamp (by omega)]) ?_
          obtain ⟨U47, eU47⟩ : ∃ v_v : vM, v_v = uM U44 60 (q + 1) (r29 + y) := ⟨_, rfl⟩
          refine YY.V eU47.symm ?_
          refine x_vret dX10_readPair_120 rfl ?_
          rw [hQ]
          have hFT := frT.of (q := q) hF3 eU42 eU44 eU47
          have hMM := ((hM3.set eU42 (by decide) (by decide)).row eU44).row eU47
          have h19W : U47 49 19 = U27 49 19 := by rw [eU47, uM_na (by decide), eU44, uM_na (by decide), eU42, uM_ni (by decide)]
          refine ⟨rfl, hFT, a3, hMM, ?_⟩
          rcases hO3 with hB3 | hG3
          · exact Or.inl ⟨h19W.trans hB3.1, hB3.2⟩
          · exact absurd hG3.1 (by assumption)
        · refine x_iload_n dX10_readPair_80 1 rfl ?_
          refine x_callS (K := jX10_isPlace) [.int (r3 + x)] lk_X10_84 ⟨⟨rfl, rfl⟩, Nat.le_of_ble_eq_true rfl, Nat.le_of_ble_eq_true rfl⟩ (mX10_isPlace U27 (r3 + x)) rfl (Nat.le_of_ble_eq_true rfl) rfl dX10_readPair_81 (kpI ?_)
          refine x_if_eq 95 dX10_readPair_84 (by decide) (fun c48 => ?_) (fun c48 => ?_)
          · have c48n : ¬ (-4000 ≤ (r3 + x) ∧ (r3 + x) ≤ 4000) := iB_0.mp c48
            refine x_iconst (v := 1) dX10_readPair_95 (by decide) ?_
            refine x_goto 100 dX10_readPair_96 (by decide) ?_
            have z49 : (1 : Int32) = 0 ∨ (1 : Int32) = 1 := by first | exact Or.inl rfl | exact Or.inr rfl | grind
            refine x_putZ fp_X10_159 rfl rfl z49 dX10_readPair_100 ?_
            obtain ⟨U50, eU50⟩ : ∃ v_v : vM, v_v = uM U27 49 22 1 := ⟨_, rfl⟩
            refine YY.V eU50.symm ?_
            refine x_aload_n dX10_readPair_103 2 rfl ?_
            refine x_getR fl_X10_41 rfl rfl dX10_readPair_104 ?_
            refine x_iload_n dX10_readPair_107 3 rfl ?_
            refine x_iload_n dX10_readPair_108 1 rfl ?_
            have b51 : vp_in (nI q) 840 := by exact vp_in_nI (by omega) (by decide)
            refine x_iast rfl b51 dX10_readPair_109 ?_
            refine YY.V (V' := uM U50 60 q (r3 + x)) (by rw [nI_clamp (by omega)]) ?_
            obtain ⟨U52, eU52⟩ : ∃ v_v : vM, v_v = uM U50 60 q (r3 + x) := ⟨_, rfl⟩
            refine YY.V eU52.symm ?_
            refine x_aload_n dX10_readPair_110 2 rfl ?_
            refine x_getR fl_X10_41 rfl rfl dX10_readPair_111 ?_
            refine x_iload_n dX10_readPair_114 3 rfl ?_
            refine x_iconst (v := 1) dX10_readPair_115 (by decide) ?_
            refine x_iadd dX10_readPair_116 ?_
            refine x_iload dX10_readPair_117 0 rfl ?_
            have q53 : ((nI q) + 1 : Int32) = nI (q + 1) := nadd (rfl) (rfl)
            refine YY.S (st' := [.int (r29 + y), .int (nI (q + 1)), .ref (g.2.1 60)]) (by rw [q53]) ?_
            have b54 : vp_in (nI (q + 1)) 840 := by exact vp_in_nI (by omega) (by decide)
            refine x_iast rfl b54 dX10_readPair_119 ?_
            refine YY.V (V' := uM U52 60 (q + 1) (r29 + y)) (by rw [nI_clamp (by omega)]) ?_
            obtain ⟨U55, eU55⟩ : ∃ v_v : vM, v_v = uM U52 60 (q + 1) (r29 + y) := ⟨_, rfl⟩
            refine YY.V eU55.symm ?_
            refine x_vret dX10_readPair_120 rfl ?_
            rw [hQ]
            have hFT := frT.of (q := q) hF3 eU50 eU52 eU55
            have hMM := ((hM3.set eU50 (by decide) (by decide)).row eU52).row eU55
            have h19W : U55 49 19 = U27 49 19 := by rw [eU55, uM_na (by decide), eU52, uM_na (by decide), eU50, uM_ni (by decide)]
            refine ⟨rfl, hFT, a3, hMM, ?_⟩
            rcases hO3 with hB3 | hG3
            · exact Or.inl ⟨h19W.trans hB3.1, hB3.2⟩
            · obtain ⟨h193, v3, d3, ng3, ez3, hd3, hs3, hN3⟩ := hG3
              refine Or.inr ⟨h19W.trans h193, v3, d3, ng3, rSg v1 ng1, hd3, hs3, hN3, by rw [eU55, uM_ni (by omega), eU52, uM_hit, ez1], by rw [eU55, uM_hit, ez3], ?_⟩
              rw [eU55, uM_na (by decide), eU52, uM_na (by decide), eU50, uM_hit, ← ez1, ← ez3]
              exact (bP_t (fun q => by first | exact absurd q.2.1 (by assumption) | exact absurd q.2.2 (by assumption))).symm
          · have c48n : (-4000 ≤ (r3 + x) ∧ (r3 + x) ≤ 4000) := Classical.not_not.mp (fun q => c48 (iB_0.mpr q))
            refine x_iload dX10_readPair_87 0 rfl ?_
            refine x_callS (K := jX10_isPlace) [.int (r29 + y)] lk_X10_84 ⟨⟨rfl, rfl⟩, Nat.le_of_ble_eq_true rfl, Nat.le_of_ble_eq_true rfl⟩ (mX10_isPlace U27 (r29 + y)) rfl (Nat.le_of_ble_eq_true rfl) rfl dX10_readPair_89 (kpI ?_)
            refine x_if_ne 99 dX10_readPair_92 (by decide) (fun c56 => ?_) (fun c56 => ?_)
            · have c56n : (-4000 ≤ (r29 + y) ∧ (r29 + y) ≤ 4000) := Classical.not_not.mp (fun q => c56 (iB_0.mpr q))
              refine x_iconst (v := 0) dX10_readPair_99 (by decide) ?_
              have z57 : (0 : Int32) = 0 ∨ (0 : Int32) = 1 := by first | exact Or.inl rfl | exact Or.inr rfl | grind
              refine x_putZ fp_X10_159 rfl rfl z57 dX10_readPair_100 ?_
              obtain ⟨U58, eU58⟩ : ∃ v_v : vM, v_v = uM U27 49 22 0 := ⟨_, rfl⟩
              refine YY.V eU58.symm ?_
              refine x_aload_n dX10_readPair_103 2 rfl ?_
              refine x_getR fl_X10_41 rfl rfl dX10_readPair_104 ?_
              refine x_iload_n dX10_readPair_107 3 rfl ?_
              refine x_iload_n dX10_readPair_108 1 rfl ?_
              have b59 : vp_in (nI q) 840 := by exact vp_in_nI (by omega) (by decide)
              refine x_iast rfl b59 dX10_readPair_109 ?_
              refine YY.V (V' := uM U58 60 q (r3 + x)) (by rw [nI_clamp (by omega)]) ?_
              obtain ⟨U60, eU60⟩ : ∃ v_v : vM, v_v = uM U58 60 q (r3 + x) := ⟨_, rfl⟩
              refine YY.V eU60.symm ?_
              refine x_aload_n dX10_readPair_110 2 rfl ?_
              refine x_getR fl_X10_41 rfl rfl dX10_readPair_111 ?_
              refine x_iload_n dX10_readPair_114 3 rfl ?_
              refine x_iconst (v := 1) dX10_readPair_115 (by decide) ?_
              refine x_iadd dX10_readPair_116 ?_
              refine x_iload dX10_readPair_117 0 rfl ?_
              have q61 : ((nI q) + 1 : Int32) = nI (q + 1) := nadd (rfl) (rfl)
              refine YY.S (st' := [.int (r29 + y), .int (nI (q + 1)), .ref (g.2.1 60)]) (by rw [q61]) ?_
              have b62 : vp_in (nI (q + 1)) 840 := by exact vp_in_nI (by omega) (by decide)
              refine x_iast rfl b62 dX10_readPair_119 ?_
              refine YY.V (V' := uM U60 60 (q + 1) (r29 + y)) (by rw [nI_clamp (by omega)]) ?_
              obtain ⟨U63, eU63⟩ : ∃ v_v : vM, v_v = uM U60 60 (q + 1) (r29 + y) := ⟨_, rfl⟩
              refine YY.V eU63.symm ?_
              refine x_vret dX10_readPair_120 rfl ?_
              rw [hQ]
              have hFT := frT.of (q := q) hF3 eU58 eU60 eU63
              have hMM := ((hM3.set eU58 (by decide) (by decide)).row eU60).row eU63
              have h19W : U63 49 19 = U27 49 19 := by rw [eU63, uM_na (by decide), eU60, uM_na (by decide), eU58, uM_ni (by decide)]
              refine ⟨rfl, hFT, a3, hMM, ?_⟩
              rcases hO3 with hB3 | hG3
              · exact Or.inl ⟨h19W.trans hB3.1, hB3.2⟩
              · obtain ⟨h193, v3, d3, ng3, ez3, hd3, hs3, hN3⟩ := hG3
                refine Or.inr ⟨h19W.trans h193, v3, d3, ng3, rSg v1 ng1, hd3, hs3, hN3, by rw [eU63, uM_ni (by omega), eU60, uM_hit, ez1], by rw [eU63, uM_hit, ez3], ?_⟩
                rw [eU63, uM_na (by decide), eU60, uM_na (by decide), eU58, uM_hit, ← ez1, ← ez3]
                exact (bP_f (fun q => q ⟨Classical.not_not.mp (by assumption), by assumption, by assumption⟩)).symm
            · have c56n : ¬ (-4000 ≤ (r29 + y) ∧ (r29 + y) ≤ 4000) := iB_0.mp c56
              refine x_iconst (v := 1) dX10_readPair_95 (by decide) ?_
              refine x_goto 100 dX10_readPair_96 (by decide) ?_
              have z64 : (1 : Int32) = 0 ∨ (1 : Int32) = 1 := by first | exact Or.inl rfl | exact Or.inr rfl | grind
              refine x_putZ fp_X10_159 rfl rfl z64 dX10_readPair_100 ?_
              obtain ⟨U65, eU65⟩ : ∃ v_v : vM, v_v = uM U27 49 22 1 := ⟨_, rfl⟩
              refine YY.V eU65.symm ?_
              refine x_aload_n dX10_readPair_103 2 rfl ?_
              refine x_getR fl_X10_41 rfl rfl dX10_readPair_104 ?_
              refine x_iload_n dX10_readPair_107 3 rfl ?_
              refine x_iload_n dX10_readPair_108 1 rfl ?_
              have b66 : vp_in (nI q) 840 := by exact vp_in_nI (by omega) (by decide)
              refine x_iast rfl b66 dX10_readPair_109 ?_
              refine YY.V (V' := uM U65 60 q (r3 + x)) (by rw [nI_clamp (by omega)]) ?_
              obtain ⟨U67, eU67⟩ : ∃ v_v : vM, v_v = uM U65 60 q (r3 + x) := ⟨_, rfl⟩
              refine YY.V eU67.symm ?_
              refine x_aload_n dX10_readPair_110 2 rfl ?_
              refine x_getR fl_X10_41 rfl rfl dX10_readPair_111 ?_
              refine x_iload_n dX10_readPair_114 3 rfl ?_
              refine x_iconst (v := 1) dX10_readPair_115 (by decide) ?_
              refine x_iadd dX10_readPair_116 ?_
              refine x_iload dX10_readPair_117 0 rfl ?_
              have q68 : ((nI q) + 1 : Int32) = nI (q + 1) := nadd (rfl) (rfl)
              refine YY.S (st' := [.int (r29 + y), .int (nI (q + 1)), .ref (g.2.1 60)]) (by rw [q68]) ?_
              have b69 : vp_in (nI (q + 1)) 840 := by exact vp_in_nI (by omega) (by decide)
              refine x_iast rfl b69 dX10_readPair_119 ?_
              refine YY.V (V' := uM U67 60 (q + 1) (r29 + y)) (by rw [nI_clamp (by omega)]) ?_
              obtain ⟨U70, eU70⟩ : ∃ v_v : vM, v_v = uM U67 60 (q + 1) (r29 + y) := ⟨_, rfl⟩
              refine YY.V eU70.symm ?_
              refine x_vret dX10_readPair_120 rfl ?_
              rw [hQ]
              have hFT := frT.of (q := q) hF3 eU65 eU67 eU70
              have hMM := ((hM3.set eU65 (by decide) (by decide)).row eU67).row eU70
              have h19W : U70 49 19 = U27 49 19 := by rw [eU70, uM_na (by decide), eU67, uM_na (by decide), eU65, uM_ni (by decide)]
              refine ⟨rfl, hFT, a3, hMM, ?_⟩
              rcases hO3 with hB3 | hG3
              · exact Or.inl ⟨h19W.trans hB3.1, hB3.2⟩
              · obtain ⟨h193, v3, d3, ng3, ez3, hd3, hs3, hN3⟩ := hG3
                refine Or.inr ⟨h19W.trans h193, v3, d3, ng3, rSg v1 ng1, hd3, hs3, hN3, by rw [eU70, uM_ni (by omega), eU67, uM_hit, ez1], by rw [eU70, uM_hit, ez3], ?_⟩
                rw [eU70, uM_na (by decide), eU67, uM_na (by decide), eU65, uM_hit, ← ez1, ← ez3]
                exact (bP_t (fun q => by first | exact absurd q.2.1 (by assumption) | exact absurd q.2.2 (by assumption))).symm
    · have hB2 := (hO2.resolve_right (fun q => absurd q.1 (by assumption)))
      refine x_iconst (v := 0) dX10_readPair_23 (by decide) ?_
      refine x_goto 31 dX10_readPair_24 (by decide) ?_
      refine x_istore 4 [(4, .int 0), (3, .int r3), (0, .ref (g.2.1 49)), (1, .int (nI q)), (2, .int 1)] dX10_readPair_31 (by decide) rfl ?_
      refine x_iload_n dX10_readPair_33 1 rfl ?_
      refine x_iload_n dX10_readPair_34 4 rfl ?_
      refine x_if_eq 45 dX10_readPair_35 (by decide) (fun c71 => by exfalso; revert c71; decide) (fun c71 => ?_)
      refine x_aload_n dX10_readPair_38 2 rfl ?_
      refine x_getI fl_X10_153 rfl rfl dX10_readPair_39 ?_
      refine x_topi ((hF2 49 23 (by decide)).trans hx) ?_
      refine x_goto 46 dX10_readPair_42 (by decide) ?_
      refine x_iadd dX10_readPair_46 ?_
      refine x_istore_n 3 [(3, .int (r3 + x)), (4, .int 0), (0, .ref (g.2.1 49)), (1, .int (nI q)), (2, .int 1)] dX10_readPair_47 rfl (by decide) rfl ?_
      refine x_iload dX10_readPair_48 1 rfl ?_
      refine x_iload_n dX10_readPair_50 4 rfl ?_
      refine x_if_eq 61 dX10_readPair_51 (by decide) (fun c72 => by exfalso; revert c72; decide) (fun c72 => ?_)
      refine x_aload_n dX10_readPair_54 2 rfl ?_
      refine x_getI fl_X10_156 rfl rfl dX10_readPair_55 ?_
      refine x_topi ((hF2 49 24 (by decide)).trans hy) ?_
      refine x_goto 62 dX10_readPair_58 (by decide) ?_
      refine x_iadd dX10_readPair_62 ?_
      refine x_istore 4 [(4, .int (0 + y)), (3, .int (r3 + x)), (0, .ref (g.2.1 49)), (1, .int (nI q)), (2, .int 1)] dX10_readPair_63 (by decide) rfl ?_
      refine x_aload_n dX10_readPair_65 2 rfl ?_
      refine x_aload_n dX10_readPair_66 2 rfl ?_
      refine x_getI fl_X10_159 rfl rfl dX10_readPair_67 ?_
      refine x_topi ((hF2 49 22 (by decide)).trans h22) ?_
      refine x_if_ne 95 dX10_readPair_70 (by decide) (fun c73 => ?_) (fun c73 => ?_)
      · have c73n : (¬ G) := Classical.not_not.mp (fun q => c73 (bP_0.mpr q))
        refine x_iconst (v := 1) dX10_readPair_95 (by decide) ?_
        refine x_goto 100 dX10_readPair_96 (by decide) ?_
        have z74 : (1 : Int32) = 0 ∨ (1 : Int32) = 1 := by first | exact Or.inl rfl | exact Or.inr rfl | grind
        refine x_putZ fp_X10_159 rfl rfl z74 dX10_readPair_100 ?_
        obtain ⟨U75, eU75⟩ : ∃ v_v : vM, v_v = uM U24 49 22 1 := ⟨_, rfl⟩
        refine YY.V eU75.symm ?_
        refine x_aload_n dX10_readPair_103 2 rfl ?_
        refine x_getR fl_X10_41 rfl rfl dX10_readPair_104 ?_
        refine x_iload_n dX10_readPair_107 3 rfl ?_
        refine x_iload_n dX10_readPair_108 1 rfl ?_
        have b76 : vp_in (nI q) 840 := by exact vp_in_nI (by omega) (by decide)
        refine x_iast rfl b76 dX10_readPair_109 ?_
        refine YY.V (V' := uM U75 60 q (r3 + x)) (by rw [nI_clamp (by omega)]) ?_
        obtain ⟨U77, eU77⟩ : ∃ v_v : vM, v_v = uM U75 60 q (r3 + x) := ⟨_, rfl⟩
        refine YY.V eU77.symm ?_
        refine x_aload_n dX10_readPair_110 2 rfl ?_
        refine x_getR fl_X10_41 rfl rfl dX10_readPair_111 ?_
        refine x_iload_n dX10_readPair_114 3 rfl ?_
        refine x_iconst (v := 1) dX10_readPair_115 (by decide) ?_
        refine x_iadd dX10_readPair_116 ?_
        refine x_iload dX10_readPair_117 0 rfl ?_
        have q78 : ((nI q) + 1 : Int32) = nI (q + 1) := nadd (rfl) (rfl)
        refine YY.S (st' := [.int (0 + y), .int (nI (q + 1)), .ref (g.2.1 60)]) (by rw [q78]) ?_
        have b79 : vp_in (nI (q + 1)) 840 := by exact vp_in_nI (by omega) (by decide)
        refine x_iast rfl b79 dX10_readPair_119 ?_
        refine YY.V (V' := uM U77 60 (q + 1) (0 + y)) (by rw [nI_clamp (by omega)]) ?_
        obtain ⟨U80, eU80⟩ : ∃ v_v : vM, v_v = uM U77 60 (q + 1) (0 + y) := ⟨_, rfl⟩
        refine YY.V eU80.symm ?_
        refine x_vret dX10_readPair_120 rfl ?_
        rw [hQ]
        have hFT := frT.of (q := q) hF2 eU75 eU77 eU80
        have hMM := ((hM2.set eU75 (by decide) (by decide)).row eU77).row eU80
        have h19W : U80 49 19 = U24 49 19 := by rw [eU80, uM_na (by decide), eU77, uM_na (by decide), eU75, uM_ni (by decide)]
        exact ⟨rfl, hFT, a2, hMM, Or.inl ⟨h19W.trans hB2.1, hB2.2⟩⟩
      · have c73n : ¬ (¬ G) := bP_0.mp c73
        refine x_aload_n dX10_readPair_73 2 rfl ?_
        refine x_getI fl_X10_143 rfl rfl dX10_readPair_74 ?_
        refine x_if_ne 99 dX10_readPair_77 (by decide) (fun c81 => ?_) (fun c81 => by exfalso; exact absurd c81 (by assumption))
        refine x_iconst (v := 0) dX10_readPair_99 (by decide) ?_
        have z82 : (0 : Int32) = 0 ∨ (0 : Int32) = 1 := by first | exact Or.inl rfl | exact Or.inr rfl | grind
        refine x_putZ fp_X10_159 rfl rfl z82 dX10_readPair_100 ?_
        obtain ⟨U83, eU83⟩ : ∃ v_v : vM, v_v = uM U24 49 22 0 := ⟨_, rfl⟩
        refine YY.V eU83.symm ?_
        refine x_aload_n dX10_readPair_103 2 rfl ?_
        refine x_getR fl_X10_41 rfl rfl dX10_readPair_104 ?_
        refine x_iload_n dX10_readPair_107 3 rfl ?_
        refine x_iload_n dX10_readPair_108 1 rfl ?_
        have b84 : vp_in (nI q) 840 := by exact vp_in_nI (by omega) (by decide)
        refine x_iast rfl b84 dX10_readPair_109 ?_
        refine YY.V (V' := uM U83 60 q (r3 + x)) (by rw [nI_clamp (by omega)]) ?_
        obtain ⟨U85, eU85⟩ : ∃ v_v : vM, v_v = uM U83 60 q (r3 + x) := ⟨_, rfl⟩
        refine YY.V eU85.symm ?_
        refine x_aload_n dX10_readPair_110 2 rfl ?_
        refine x_getR fl_X10_41 rfl rfl dX10_readPair_111 ?_
        refine x_iload_n dX10_readPair_114 3 rfl ?_
        refine x_iconst (v := 1) dX10_readPair_115 (by decide) ?_
        refine x_iadd dX10_readPair_116 ?_
        refine x_iload dX10_readPair_117 0 rfl ?_
        have q86 : ((nI q) + 1 : Int32) = nI (q + 1) := nadd (rfl) (rfl)
        refine YY.S (st' := [.int (0 + y), .int (nI (q + 1)), .ref (g.2.1 60)]) (by rw [q86]) ?_
        have b87 : vp_in (nI (q + 1)) 840 := by exact vp_in_nI (by omega) (by decide)
        refine x_iast rfl b87 dX10_readPair_119 ?_
        refine YY.V (V' := uM U85 60 (q + 1) (0 + y)) (by rw [nI_clamp (by omega)]) ?_
        obtain ⟨U88, eU88⟩ : ∃ v_v : vM, v_v = uM U85 60 (q + 1) (0 + y) := ⟨_, rfl⟩
        refine YY.V eU88.symm ?_
        refine x_vret dX10_readPair_120 rfl ?_
        rw [hQ]
        have hFT := frT.of (q := q) hF2 eU83 eU85 eU88
        have hMM := ((hM2.set eU83 (by decide) (by decide)).row eU85).row eU88
        have h19W : U88 49 19 = U24 49 19 := by rw [eU88, uM_na (by decide), eU85, uM_na (by decide), eU83, uM_ni (by decide)]
        exact ⟨rfl, hFT, a2, hMM, Or.inl ⟨h19W.trans hB2.1, hB2.2⟩⟩
def rXs (sm x : Int32) : Int32 := if sm = 0 then 0 else x
theorem mX10_readPair {g : gX} {V : vM} {P : Nat → Int32} {n a : Nat} {k sm : Int32} {c cm : Nat} {p : Int32 × Int32 × Int32 × Int32} {X O : Nat → Int32} (hMR : MR V P n a) (h19 : V 49 19 = 0) (hs : rRun P a = some ((k, sm, 0), (c, 0, 0, cm), p, X, O)) (hc : c + 1 < rNd k) (hsm : sm = 0 ∨ sm = 1) {x y : Int32} {G : Prop} (hx : V 49 23 = x) (hy : V 49 24 = y) (h22 : V 49 22 = bP (¬ G)) (q : Nat) (hq : q + 1 < 840) : MM g jX10_readPair V [.ref (g.2.1 49), .int (nI q), .int sm] (eV (PairP V P n k sm c cm p X O (rXs sm x) (rXs sm y) G q)) := by
  rcases hsm with e | e
  · subst e; exact mX10_readPair0 hMR h19 hs hc hx hy h22 q hq
  · subst e; exact mX10_readPair1 hMR h19 hs hc hx hy h22 q hq
