theorem rX2_e {k sm ng : Int32} {c v : Nat} {x y : Int32} {X : Nat → Int32} {j : Nat} (hj : j < rNd k) : rX2 k sm ng c v x y X j = upd X c (rSg v ng) j + rXs sm (if j % 2 = 0 then x else y) := by
  unfold rX2 rXs
  by_cases h : sm = 0
  · rw [if_pos h, if_pos h, Int32.add_zero]
  · rw [if_neg h, if_neg h]; unfold rSh; rw [if_pos hj]
/-- the model's numbers hold what the machine has read -/
def RDM (U : vM) (w : RSt) : Prop := U 49 21 = nI w.2.1.2.2.2 ∧ U 49 23 = w.2.2.1.1 ∧ U 49 24 = w.2.2.1.2.1 ∧ U 49 22 = bP (¬ alR w.2.2.2.2 (7 * w.2.1.2.2.2)) ∧ ∀ j, j < 7 * w.2.1.2.2.2 → U 60 j = w.2.2.2.2 j
theorem alR_out {O row : Nat → Int32} {cm : Nat} : alR (rOut O cm row) (7 * (cm + 1)) ↔ alR O (7 * cm) ∧ ∀ p, 1 ≤ p → p < 7 → inR (row p) := by
  constructor
  · intro h
    refine ⟨fun j hj h7 => ?_, fun p p1 p7 => ?_⟩
    · have := h j (by omega) h7
      unfold rOut at this
      rw [if_neg (by omega)] at this
      exact this
    · have := h (cm * 7 + p) (by omega) (by omega)
      rw [rOut_n p7] at this
      exact this
  · rintro ⟨h1, h2⟩ j hj h7
    by_cases c : j < 7 * cm
    · unfold rOut; rw [if_neg (by omega)]; exact h1 j c h7
    · unfold rOut; rw [if_pos (by omega)]; exact h2 _ (by omega) (by omega)
theorem RDM_fc {U : vM} {k sm ng : Int32} {c v d cm : Nat} {x y sx sy : Int32} {X O : Nat → Int32} {G : Prop} (hk : 0 ≤ k ∧ k ≤ 3) (h21 : U 49 21 = nI (cm + 1)) (h23 : U 49 23 = U 60 (7 * cm + 5)) (h24 : U 49 24 = U 60 (7 * cm + 6)) (hO : ∀ j, j < 7 * cm → U 60 j = O j) (hrow : ∀ p, p < 7 → U 60 (7 * cm + p) = rRow k (rX2 k sm ng c v x y X) p) (h22 : U 49 22 = bP (¬ G)) (hG : G ↔ alR O (7 * cm) ∧ ∀ p, 1 ≤ p → p < 7 → inR (U 60 (7 * cm + p))) : RDM U (rFC ((k, sm, ng), (c, v, d, cm), (x, y, sx, sy), X, O)) := by
  have k1 : ¬ k = -1 := fun z => by rw [z] at hk; exact absurd hk.1 (by decide)
  have k4 : ¬ k = 4 := fun z => by rw [z] at hk; exact absurd hk.2 (by decide)
  have e : rFC ((k, sm, ng), (c, v, d, cm), (x, y, sx, sy), X, O) = ((k, sm, 0), (c + 1, 0, 0, cm + 1), (rX2 k sm ng c v x y X (rNd k - 2), rX2 k sm ng c v x y X (rNd k - 1), if k = 0 then rX2 k sm ng c v x y X (rNd k - 2) else sx, if k = 0 then rX2 k sm ng c v x y X (rNd k - 1) else sy), rX2 k sm ng c v x y X, rOut O cm (rRow k (rX2 k sm ng c v x y X))) := by
    unfold rFC; dsimp only; rw [if_neg k1, if_neg k4]
  rw [e]
  generalize rX2 k sm ng c v x y X = X2 at hrow ⊢
  have r5 : rRow k X2 5 = X2 (rNd k - 2) ∧ rRow k X2 6 = X2 (rNd k - 1) := by
    rcases k5 ⟨hk.1, Int32.le_trans hk.2 (by decide)⟩ with z | z | z | z | z
    · subst z; exact ⟨rfl, rfl⟩
    · subst z; exact ⟨rfl, rfl⟩
    · subst z; exact ⟨rfl, rfl⟩
    · subst z; exact ⟨rfl, rfl⟩
    · exact absurd z k4
  refine ⟨h21, ?_, ?_, ?_, fun j hj => ?_⟩
  · show U 49 23 = X2 (rNd k - 2)
    rw [h23, hrow 5 (by omega)]; exact r5.1
  · show U 49 24 = X2 (rNd k - 1)
    rw [h24, hrow 6 (by omega)]; exact r5.2
  · show U 49 22 = bP (¬ alR (rOut O cm (rRow k X2)) (7 * (cm + 1)))
    rw [h22]
    refine bP_iff (not_congr (hG.trans (Iff.trans ?_ alR_out.symm)))
    exact ⟨fun q => ⟨q.1, fun p p1 p7 => by rw [← hrow p p7]; exact q.2 p p1 p7⟩, fun q => ⟨q.1, fun p p1 p7 => by rw [hrow p p7]; exact q.2 p p1 p7⟩⟩
  · show U 60 j = rOut O cm (rRow k X2) j
    by_cases c : j < 7 * cm
    · unfold rOut; rw [if_neg (by omega)]; exact hO j c
    · have hj2 : j < 7 * (cm + 1) := hj
      unfold rOut; rw [if_pos (by omega), ← hrow _ (by omega), show 7 * cm + (j - cm * 7) = j by omega]
def frC (V U : vM) : Prop := ∀ b i, b ≠ 60 → ¬ (b = 49 ∧ (i = 18 ∨ i = 19 ∨ i = 21 ∨ i = 22 ∨ i = 23 ∨ i = 24)) → U b i = V b i
theorem frC.refl (V : vM) : frC V V := fun _ _ _ _ => rfl
theorem frC.trans {V U W : vM} (h : frC V U) (k : frC U W) : frC V W := fun b i p q => by rw [k b i p q, h b i p q]
theorem frC.st {V U W : vM} (h : frC V U) {i : Nat} {x : Int32} (e : W = uM U 49 i x) (hi : i = 18 ∨ i = 19 ∨ i = 21 ∨ i = 22 ∨ i = 23 ∨ i = 24) : frC V W := fun b j p q => by rw [e, uM_at, if_neg (fun z => q ⟨z.1, by rw [z.2]; exact hi⟩)]; exact h b j p q
theorem frC.row {V U W : vM} (h : frC V U) {i : Nat} {x : Int32} (e : W = uM U 60 i x) : frC V W := fun b j p q => by rw [e, uM_na p]; exact h b j p q
theorem frS.C {V U : vM} (h : frS V U) : frC V U := fun b i p q => h b i (fun w => q ⟨w.1, by omega⟩)
theorem frT.C {V U : vM} {q : Nat} (h : frT V U q) : frC V U := fun b i p r => h b i (fun w => r ⟨w.1, by omega⟩) (fun w => p w.1)
def CmdP (V : vM) (P : Nat → Int32) (n : Nat) (k sm : Int32) (cm : Nat) (x y sx sy : Int32) (O : Nat → Int32) (U : vM) : Prop := frC V U ∧ ∃ a', MR U P n a' ∧ ((U 49 19 = 1 ∧ Bad P n a') ∨ (U 49 19 = 0 ∧ ∃ ng c v d X', rRun P a' = some ((k, sm, ng), (c, v, d, cm), (x, y, sx, sy), X', O) ∧ 0 < d ∧ c + 1 = rNd k ∧ NE P n a' ((k, sm, ng), (c, v, d, cm), (x, y, sx, sy), X', O) ∧ RDM U (rFC ((k, sm, ng), (c, v, d, cm), (x, y, sx, sy), X', O))))
theorem rX_00 {sm x y : Int32} {j : Nat} : (if 0 % 2 = 0 then x else y) = x ∧ (if 1 % 2 = 0 then x else y) = y := ⟨rfl, rfl⟩
set_option maxHeartbeats 4000000 in
set_option maxRecDepth 100000 in
theorem mX10_readCommand0 {g : gX} {V : vM} {P : Nat → Int32} {n a : Nat} {sm : Int32} {cm : Nat} {x y sx sy : Int32} {X O : Nat → Int32} (hMR : MR V P n a) (hl : a < n) (h19 : V 49 19 = 0) (hsm : sm = 0 ∨ sm = 1) (hcm : cm ≤ a) (h21 : V 49 21 = nI cm) (hx : V 49 23 = x) (hy : V 49 24 = y) (h22 : V 49 22 = bP (¬ alR O (7 * cm))) (hO : ∀ j, j < 7 * cm → V 60 j = O j) (hs : rRun P (a + 1) = some ((0, sm, 0), (0, 0, 0, cm), (x, y, sx, sy), X, O)) : MM g jX10_readCommand V [.ref (g.2.1 49), .int 0, .int sm] (eV (CmdP V P n 0 sm cm x y sx sy O)) := by
  refine MM.of plX10_readCommand (Nat.le_of_ble_eq_true rfl) ?_
  obtain ⟨Q, hQ⟩ : ∃ Q : Option Value → vM → Prop, Q = (eV (CmdP V P n 0 sm cm x y sx sy O)) := ⟨_, rfl⟩
  rw [← hQ]
  show XX g jX10_readCommand Q V 0 [(0, .ref (g.2.1 49)), (1, .int 0), (2, .int sm)] []
  have han := hMR.2.2.2.1
  have hn120 := hMR.2.2.2.2
  refine x_aload_n dX10_readCommand_0 0 rfl ?_
  refine x_dup dX10_readCommand_1 rfl ?_
  refine x_getI fl_X10_137 rfl rfl dX10_readCommand_2 ?_
  refine x_topi (hMR.2.2.1) ?_
  refine x_iconst (v := 1) dX10_readCommand_5 (by decide) ?_
  refine x_iadd dX10_readCommand_6 ?_
  refine x_topi (y := nI (a + 1)) (by rw [nI_1]) ?_
  refine x_putI fp_X10_137 rfl rfl dX10_readCommand_7 ?_
  obtain ⟨U1, eU1⟩ : ∃ v_v : vM, v_v = uM V 49 18 (nI (a + 1)) := ⟨_, rfl⟩
  refine YY.V eU1.symm ?_
  refine x_bipush (v := 7) dX10_readCommand_10 (by decide) ?_
  refine x_aload_n dX10_readCommand_12 0 rfl ?_
  refine x_getI fl_X10_162 rfl rfl dX10_readCommand_13 ?_
  refine x_topi (y := V 49 21) (by rw [eU1, uM_ni (by decide)]) ?_
  refine x_topi (h21) ?_
  refine x_imul dX10_readCommand_16 ?_
  refine x_topi (y := nI (7 * cm)) (nmul (a := 7) rfl rfl) ?_
  refine x_istore_n 3 [(3, .int (nI (7 * cm))), (0, .ref (g.2.1 49)), (1, .int 0), (2, .int sm)] dX10_readCommand_17 rfl (by decide) rfl ?_
  refine x_aload_n dX10_readCommand_18 1 rfl ?_
  refine x_getR fl_X10_41 rfl rfl dX10_readCommand_19 ?_
  refine x_iload_n dX10_readCommand_22 0 rfl ?_
  refine x_iload_n dX10_readCommand_23 2 rfl ?_
  have b2 : vp_in (nI (7 * cm)) 840 := by exact vp_in_nI (by omega) (by decide)
  refine x_iast rfl b2 dX10_readCommand_24 ?_
  refine YY.V (V' := uM U1 60 (7 * cm) 0) (by rw [nI_clamp (by omega)]) ?_
  obtain ⟨U3, eU3⟩ : ∃ v_v : vM, v_v = uM U1 60 (7 * cm) 0 := ⟨_, rfl⟩
  refine YY.V eU3.symm ?_
  refine x_iconst (v := 1) dX10_readCommand_25 (by decide) ?_
  refine x_istore 4 [(4, .int 1), (3, .int (nI (7 * cm))), (0, .ref (g.2.1 49)), (1, .int 0), (2, .int sm)] dX10_readCommand_26 (by decide) rfl ?_
  refine x_iload dX10_readCommand_28 0 rfl ?_
  refine x_bipush (v := 7) dX10_readCommand_30 (by decide) ?_
  refine x_icmp_ge 51 dX10_readCommand_32 (by decide) (fun c4 => by exfalso; revert c4; decide) (fun c4 => ?_)
  refine x_aload_n dX10_readCommand_35 2 rfl ?_
  refine x_getR fl_X10_41 rfl rfl dX10_readCommand_36 ?_
  refine x_iload_n dX10_readCommand_39 1 rfl ?_
  refine x_iload dX10_readCommand_40 0 rfl ?_
  refine x_iadd dX10_readCommand_42 ?_
  refine x_iconst (v := 0) dX10_readCommand_43 (by decide) ?_
  have q5 : ((nI (7 * cm)) + 1 : Int32) = nI ((7 * cm) + 1) := nadd (rfl) (rfl)
  refine YY.S (st' := [.int 0, .int (nI ((7 * cm) + 1)), .ref (g.2.1 60)]) (by rw [q5]) ?_
  have b6 : vp_in (nI ((7 * cm) + 1)) 840 := by exact vp_in_nI (by omega) (by decide)
  refine x_iast rfl b6 dX10_readCommand_44 ?_
  refine YY.V (V' := uM U3 60 ((7 * cm) + 1) 0) (by rw [nI_clamp (by omega)]) ?_
  obtain ⟨U7, eU7⟩ : ∃ v_v : vM, v_v = uM U3 60 ((7 * cm) + 1) 0 := ⟨_, rfl⟩
  refine YY.V eU7.symm ?_
  refine x_iinc 4 (v := 2) 0 [(4, .int 2), (3, .int (nI (7 * cm))), (0, .ref (g.2.1 49)), (1, .int 0), (2, .int sm)] dX10_readCommand_45 rfl (by decide) (by decide) rfl ?_
  refine x_goto 28 dX10_readCommand_48 (by decide) ?_
  refine x_iload dX10_readCommand_28 0 rfl ?_
  refine x_bipush (v := 7) dX10_readCommand_30 (by decide) ?_
  refine x_icmp_ge 51 dX10_readCommand_32 (by decide) (fun c8 => by exfalso; revert c8; decide) (fun c8 => ?_)
  refine x_aload_n dX10_readCommand_35 2 rfl ?_
  refine x_getR fl_X10_41 rfl rfl dX10_readCommand_36 ?_
  refine x_iload_n dX10_readCommand_39 1 rfl ?_
  refine x_iload dX10_readCommand_40 0 rfl ?_
  refine x_iadd dX10_readCommand_42 ?_
  refine x_iconst (v := 0) dX10_readCommand_43 (by decide) ?_
  have q9 : ((nI (7 * cm)) + 2 : Int32) = nI ((7 * cm) + 2) := nadd (rfl) (rfl)
  refine YY.S (st' := [.int 0, .int (nI ((7 * cm) + 2)), .ref (g.2.1 60)]) (by rw [q9]) ?_
  have b10 : vp_in (nI ((7 * cm) + 2)) 840 := by exact vp_in_nI (by omega) (by decide)
  refine x_iast rfl b10 dX10_readCommand_44 ?_
  refine YY.V (V' := uM U7 60 ((7 * cm) + 2) 0) (by rw [nI_clamp (by omega)]) ?_
  obtain ⟨U11, eU11⟩ : ∃ v_v : vM, v_v = uM U7 60 ((7 * cm) + 2) 0 := ⟨_, rfl⟩
  refine YY.V eU11.symm ?_
  refine x_iinc 4 (v := 3) 0 [(4, .int 3), (3, .int (nI (7 * cm))), (0, .ref (g.2.1 49)), (1, .int 0), (2, .int sm)] dX10_readCommand_45 rfl (by decide) (by decide) rfl ?_
  refine x_goto 28 dX10_readCommand_48 (by decide) ?_
  refine x_iload dX10_readCommand_28 0 rfl ?_
  refine x_bipush (v := 7) dX10_readCommand_30 (by decide) ?_
  refine x_icmp_ge 51 dX10_readCommand_32 (by decide) (fun c12 => by exfalso; revert c12; decide) (fun c12 => ?_)
  refine x_aload_n dX10_readCommand_35 2 rfl ?_
  refine x_getR fl_X10_41 rfl rfl dX10_readCommand_36 ?_
  refine x_iload_n dX10_readCommand_39 1 rfl ?_
  refine x_iload dX10_readCommand_40 0 rfl ?_
  refine x_iadd dX10_readCommand_42 ?_
  refine x_iconst (v := 0) dX10_readCommand_43 (by decide) ?_
  have q13 : ((nI (7 * cm)) + 3 : Int32) = nI ((7 * cm) + 3) := nadd (rfl) (rfl)
  refine YY.S (st' := [.int 0, .int (nI ((7 * cm) + 3)), .ref (g.2.1 60)]) (by rw [q13]) ?_
  have b14 : vp_in (nI ((7 * cm) + 3)) 840 := by exact vp_in_nI (by omega) (by decide)
  refine x_iast rfl b14 dX10_readCommand_44 ?_
  refine YY.V (V' := uM U11 60 ((7 * cm) + 3) 0) (by rw [nI_clamp (by omega)]) ?_
  obtain ⟨U15, eU15⟩ : ∃ v_v : vM, v_v = uM U11 60 ((7 * cm) + 3) 0 := ⟨_, rfl⟩
  refine YY.V eU15.symm ?_
  refine x_iinc 4 (v := 4) 0 [(4, .int 4), (3, .int (nI (7 * cm))), (0, .ref (g.2.1 49)), (1, .int 0), (2, .int sm)] dX10_readCommand_45 rfl (by decide) (by decide) rfl ?_
  refine x_goto 28 dX10_readCommand_48 (by decide) ?_
  refine x_iload dX10_readCommand_28 0 rfl ?_
  refine x_bipush (v := 7) dX10_readCommand_30 (by decide) ?_
  refine x_icmp_ge 51 dX10_readCommand_32 (by decide) (fun c16 => by exfalso; revert c16; decide) (fun c16 => ?_)
  refine x_aload_n dX10_readCommand_35 2 rfl ?_
  refine x_getR fl_X10_41 rfl rfl dX10_readCommand_36 ?_
  refine x_iload_n dX10_readCommand_39 1 rfl ?_
  refine x_iload dX10_readCommand_40 0 rfl ?_
  refine x_iadd dX10_readCommand_42 ?_
  refine x_iconst (v := 0) dX10_readCommand_43 (by decide) ?_
  have q17 : ((nI (7 * cm)) + 4 : Int32) = nI ((7 * cm) + 4) := nadd (rfl) (rfl)
  refine YY.S (st' := [.int 0, .int (nI ((7 * cm) + 4)), .ref (g.2.1 60)]) (by rw [q17]) ?_
  have b18 : vp_in (nI ((7 * cm) + 4)) 840 := by exact vp_in_nI (by omega) (by decide)
  refine x_iast rfl b18 dX10_readCommand_44 ?_
  refine YY.V (V' := uM U15 60 ((7 * cm) + 4) 0) (by rw [nI_clamp (by omega)]) ?_
  obtain ⟨U19, eU19⟩ : ∃ v_v : vM, v_v = uM U15 60 ((7 * cm) + 4) 0 := ⟨_, rfl⟩
  refine YY.V eU19.symm ?_
  refine x_iinc 4 (v := 5) 0 [(4, .int 5), (3, .int (nI (7 * cm))), (0, .ref (g.2.1 49)), (1, .int 0), (2, .int sm)] dX10_readCommand_45 rfl (by decide) (by decide) rfl ?_
  refine x_goto 28 dX10_readCommand_48 (by decide) ?_
  refine x_iload dX10_readCommand_28 0 rfl ?_
  refine x_bipush (v := 7) dX10_readCommand_30 (by decide) ?_
  refine x_icmp_ge 51 dX10_readCommand_32 (by decide) (fun c20 => by exfalso; revert c20; decide) (fun c20 => ?_)
  refine x_aload_n dX10_readCommand_35 2 rfl ?_
  refine x_getR fl_X10_41 rfl rfl dX10_readCommand_36 ?_
  refine x_iload_n dX10_readCommand_39 1 rfl ?_
  refine x_iload dX10_readCommand_40 0 rfl ?_
  refine x_iadd dX10_readCommand_42 ?_
  refine x_iconst (v := 0) dX10_readCommand_43 (by decide) ?_
  have q21 : ((nI (7 * cm)) + 5 : Int32) = nI ((7 * cm) + 5) := nadd (rfl) (rfl)
  refine YY.S (st' := [.int 0, .int (nI ((7 * cm) + 5)), .ref (g.2.1 60)]) (by rw [q21]) ?_
  have b22 : vp_in (nI ((7 * cm) + 5)) 840 := by exact vp_in_nI (by omega) (by decide)
  refine x_iast rfl b22 dX10_readCommand_44 ?_
  refine YY.V (V' := uM U19 60 ((7 * cm) + 5) 0) (by rw [nI_clamp (by omega)]) ?_
  obtain ⟨U23, eU23⟩ : ∃ v_v : vM, v_v = uM U19 60 ((7 * cm) + 5) 0 := ⟨_, rfl⟩
  refine YY.V eU23.symm ?_
  refine x_iinc 4 (v := 6) 0 [(4, .int 6), (3, .int (nI (7 * cm))), (0, .ref (g.2.1 49)), (1, .int 0), (2, .int sm)] dX10_readCommand_45 rfl (by decide) (by decide) rfl ?_
  refine x_goto 28 dX10_readCommand_48 (by decide) ?_
  refine x_iload dX10_readCommand_28 0 rfl ?_
  refine x_bipush (v := 7) dX10_readCommand_30 (by decide) ?_
  refine x_icmp_ge 51 dX10_readCommand_32 (by decide) (fun c24 => by exfalso; revert c24; decide) (fun c24 => ?_)
  refine x_aload_n dX10_readCommand_35 2 rfl ?_
  refine x_getR fl_X10_41 rfl rfl dX10_readCommand_36 ?_
  refine x_iload_n dX10_readCommand_39 1 rfl ?_
  refine x_iload dX10_readCommand_40 0 rfl ?_
  refine x_iadd dX10_readCommand_42 ?_
  refine x_iconst (v := 0) dX10_readCommand_43 (by decide) ?_
  have q25 : ((nI (7 * cm)) + 6 : Int32) = nI ((7 * cm) + 6) := nadd (rfl) (rfl)
  refine YY.S (st' := [.int 0, .int (nI ((7 * cm) + 6)), .ref (g.2.1 60)]) (by rw [q25]) ?_
  have b26 : vp_in (nI ((7 * cm) + 6)) 840 := by exact vp_in_nI (by omega) (by decide)
  refine x_iast rfl b26 dX10_readCommand_44 ?_
  refine YY.V (V' := uM U23 60 ((7 * cm) + 6) 0) (by rw [nI_clamp (by omega)]) ?_
  obtain ⟨U27, eU27⟩ : ∃ v_v : vM, v_v = uM U23 60 ((7 * cm) + 6) 0 := ⟨_, rfl⟩
  refine YY.V eU27.symm ?_
  refine x_iinc 4 (v := 7) 0 [(4, .int 7), (3, .int (nI (7 * cm))), (0, .ref (g.2.1 49)), (1, .int 0), (2, .int sm)] dX10_readCommand_45 rfl (by decide) (by decide) rfl ?_
  refine x_goto 28 dX10_readCommand_48 (by decide) ?_
  refine x_iload dX10_readCommand_28 0 rfl ?_
  refine x_bipush (v := 7) dX10_readCommand_30 (by decide) ?_
  refine x_icmp_ge 51 dX10_readCommand_32 (by decide) (fun c28 => ?_) (fun c28 => by exfalso; revert c28; decide)
  have hM0 : MR U27 P n (a + 1) := (((((((hMR.at eU1 (by omega)).row eU3).row eU7).row eU11).row eU15).row eU19).row eU23).row eU27
  have h19_0 : U27 49 19 = 0 := by rw [eU27, uM_na (by decide), eU23, uM_na (by decide), eU19, uM_na (by decide), eU15, uM_na (by decide), eU11, uM_na (by decide), eU7, uM_na (by decide), eU3, uM_na (by decide), eU1, uM_ni (by decide)]; exact h19
  have h21_0 : U27 49 21 = nI cm := by rw [eU27, uM_na (by decide), eU23, uM_na (by decide), eU19, uM_na (by decide), eU15, uM_na (by decide), eU11, uM_na (by decide), eU7, uM_na (by decide), eU3, uM_na (by decide), eU1, uM_ni (by decide)]; exact h21
  have hx_0 : U27 49 23 = x := by rw [eU27, uM_na (by decide), eU23, uM_na (by decide), eU19, uM_na (by decide), eU15, uM_na (by decide), eU11, uM_na (by decide), eU7, uM_na (by decide), eU3, uM_na (by decide), eU1, uM_ni (by decide)]; exact hx
  have hy_0 : U27 49 24 = y := by rw [eU27, uM_na (by decide), eU23, uM_na (by decide), eU19, uM_na (by decide), eU15, uM_na (by decide), eU11, uM_na (by decide), eU7, uM_na (by decide), eU3, uM_na (by decide), eU1, uM_ni (by decide)]; exact hy
  have h22_0 : U27 49 22 = bP (¬ alR O (7 * cm)) := by rw [eU27, uM_na (by decide), eU23, uM_na (by decide), eU19, uM_na (by decide), eU15, uM_na (by decide), eU11, uM_na (by decide), eU7, uM_na (by decide), eU3, uM_na (by decide), eU1, uM_ni (by decide)]; exact h22
  have w0_0 : U27 60 (7 * cm) = 0 := by rw [eU27, uM_ni (by omega), eU23, uM_ni (by omega), eU19, uM_ni (by omega), eU15, uM_ni (by omega), eU11, uM_ni (by omega), eU7, uM_ni (by omega), eU3, uM_hit]
  have w1_0 : U27 60 (7 * cm + 1) = 0 := by rw [eU27, uM_ni (by omega), eU23, uM_ni (by omega), eU19, uM_ni (by omega), eU15, uM_ni (by omega), eU11, uM_ni (by omega), eU7, uM_hit]
  have w2_0 : U27 60 (7 * cm + 2) = 0 := by rw [eU27, uM_ni (by omega), eU23, uM_ni (by omega), eU19, uM_ni (by omega), eU15, uM_ni (by omega), eU11, uM_hit]
  have w3_0 : U27 60 (7 * cm + 3) = 0 := by rw [eU27, uM_ni (by omega), eU23, uM_ni (by omega), eU19, uM_ni (by omega), eU15, uM_hit]
  have w4_0 : U27 60 (7 * cm + 4) = 0 := by rw [eU27, uM_ni (by omega), eU23, uM_ni (by omega), eU19, uM_hit]
  have w5_0 : U27 60 (7 * cm + 5) = 0 := by rw [eU27, uM_ni (by omega), eU23, uM_hit]
  have w6_0 : U27 60 (7 * cm + 6) = 0 := by rw [eU27, uM_hit]
  have hO_0 : ∀ j, j < 7 * cm → U27 60 j = O j := fun j hj => by rw [eU27, uM_ni (by omega), eU23, uM_ni (by omega), eU19, uM_ni (by omega), eU15, uM_ni (by omega), eU11, uM_ni (by omega), eU7, uM_ni (by omega), eU3, uM_ni (by omega), eU1, uM_na (by decide)]; exact hO j hj
  have hF_0 : frC V U27 := ((((((((frC.refl V).st eU1 (Or.inl rfl)).row eU3).row eU7).row eU11).row eU15).row eU19).row eU23).row eU27
  refine x_iload_n dX10_readCommand_51 3 rfl ?_
  refine x_iconst (v := 2) dX10_readCommand_52 (by decide) ?_
  refine x_icmp_ne 60 dX10_readCommand_53 (by decide) (fun c29 => ?_) (fun c29 => by exfalso; revert c29; decide)
  refine x_iload_n dX10_readCommand_60 3 rfl ?_
  refine x_iconst (v := 3) dX10_readCommand_61 (by decide) ?_
  refine x_icmp_ne 69 dX10_readCommand_62 (by decide) (fun c30 => ?_) (fun c30 => by exfalso; revert c30; decide)
  refine x_iconst (v := 0) dX10_readCommand_69 (by decide) ?_
  refine x_istore 4 [(4, .int 0), (3, .int (nI (7 * cm))), (0, .ref (g.2.1 49)), (1, .int 0), (2, .int sm)] dX10_readCommand_70 (by decide) rfl ?_
  refine x_iconst (v := 0) dX10_readCommand_72 (by decide) ?_
  refine x_istore 5 [(5, .int 0), (4, .int 0), (3, .int (nI (7 * cm))), (0, .ref (g.2.1 49)), (1, .int 0), (2, .int sm)] dX10_readCommand_73 (by decide) rfl ?_
  refine x_iload dX10_readCommand_75 0 rfl ?_
  refine x_iload dX10_readCommand_77 1 rfl ?_
  refine x_icmp_ge 119 dX10_readCommand_79 (by decide) (fun c31 => ?_) (fun c31 => by exfalso; revert c31; decide)
  refine x_aload_n dX10_readCommand_119 3 rfl ?_
  refine x_getI fl_X10_143 rfl rfl dX10_readCommand_120 ?_
  refine x_topi (y := V 49 19) (by rw [eU27, uM_na (by decide), eU23, uM_na (by decide), eU19, uM_na (by decide), eU15, uM_na (by decide), eU11, uM_na (by decide), eU7, uM_na (by decide), eU3, uM_na (by decide), eU1, uM_ni (by decide)]) ?_
  refine x_topi (h19) ?_
  refine x_if_ne 159 dX10_readCommand_123 (by decide) (fun c32 => by exfalso; revert c32; decide) (fun c32 => ?_)
  refine x_aload_n dX10_readCommand_126 3 rfl ?_
  refine x_iload_n dX10_readCommand_127 2 rfl ?_
  refine x_iconst (v := 5) dX10_readCommand_128 (by decide) ?_
  refine x_iadd dX10_readCommand_129 ?_
  refine x_topi (y := nI (7 * cm + 5)) (nadd rfl (b := 5) rfl) ?_
  refine x_iload_n dX10_readCommand_130 5 rfl ?_
  refine x_callV (K := jX10_readPair) [.int (nI (7 * cm + 5)), .int sm] lk_X10_165 ⟨⟨rfl, rfl⟩, Nat.le_of_ble_eq_true rfl, Nat.le_of_ble_eq_true rfl⟩ rfl rfl (mX10_readPair hM0 h19_0 hs (by decide) hsm hx_0 hy_0 h22_0 (7 * cm + 5) (by omega)) rfl (Nat.le_of_ble_eq_true rfl) rfl dX10_readCommand_131 (keV fun U33 hU34 => ?_)
  obtain ⟨hT_1, a_1, hM1, hR_1⟩ := hU34
  have h21_1 : U33 49 21 = nI cm := (hT_1 49 21 (by decide) (fun w => absurd w.1 (by decide))).trans h21_0
  have hx_1 : U33 49 23 = x := (hT_1 49 23 (by decide) (fun w => absurd w.1 (by decide))).trans hx_0
  have hy_1 : U33 49 24 = y := (hT_1 49 24 (by decide) (fun w => absurd w.1 (by decide))).trans hy_0
  have w0_1 := (hT_1 (60) (7 * cm) (fun w => absurd w.1 (by decide)) (fun w => by omega)).trans w0_0
  have w1_1 := (hT_1 (60) (7 * cm + 1) (fun w => absurd w.1 (by decide)) (fun w => by omega)).trans w1_0
  have w2_1 := (hT_1 (60) (7 * cm + 2) (fun w => absurd w.1 (by decide)) (fun w => by omega)).trans w2_0
  have w3_1 := (hT_1 (60) (7 * cm + 3) (fun w => absurd w.1 (by decide)) (fun w => by omega)).trans w3_0
  have w4_1 := (hT_1 (60) (7 * cm + 4) (fun w => absurd w.1 (by decide)) (fun w => by omega)).trans w4_0
  have hO_1 : ∀ j, j < 7 * cm → U33 60 j = O j := fun j hj => (hT_1 60 j (fun w => absurd w.1 (by decide)) (fun w => by omega)).trans (hO_0 j hj)
  have hF_1 := hF_0.trans hT_1.C
  refine x_aload_n dX10_readCommand_134 3 rfl ?_
  refine x_aload_n dX10_readCommand_135 3 rfl ?_
  refine x_getR fl_X10_41 rfl rfl dX10_readCommand_136 ?_
  refine x_iload_n dX10_readCommand_139 2 rfl ?_
  refine x_iconst (v := 5) dX10_readCommand_140 (by decide) ?_
  refine x_iadd dX10_readCommand_141 ?_
  have q35 : ((nI (7 * cm)) + 5 : Int32) = nI ((7 * cm) + 5) := nadd (rfl) (rfl)
  refine YY.S (st' := [.int (nI ((7 * cm) + 5)), .ref (g.2.1 60), .ref (g.2.1 49)]) (by rw [q35]) ?_
  have b36 : vp_in (nI ((7 * cm) + 5)) 840 := by exact vp_in_nI (by omega) (by decide)
  refine x_iald rfl b36 dX10_readCommand_142 ?_
  refine x_topi (y := U33 60 ((7 * cm) + 5)) (by rw [nI_clamp (by omega)]) ?_
  refine x_putI fp_X10_153 rfl rfl dX10_readCommand_143 ?_
  obtain ⟨U37, eU37⟩ : ∃ v_v : vM, v_v = uM U33 49 23 (U33 60 ((7 * cm) + 5)) := ⟨_, rfl⟩
  refine YY.V eU37.symm ?_
  refine x_aload_n dX10_readCommand_146 3 rfl ?_
  refine x_aload_n dX10_readCommand_147 3 rfl ?_
  refine x_getR fl_X10_41 rfl rfl dX10_readCommand_148 ?_
  refine x_iload_n dX10_readCommand_151 2 rfl ?_
  refine x_bipush (v := 6) dX10_readCommand_152 (by decide) ?_
  refine x_iadd dX10_readCommand_154 ?_
  have q38 : ((nI (7 * cm)) + 6 : Int32) = nI ((7 * cm) + 6) := nadd (rfl) (rfl)
  refine YY.S (st' := [.int (nI ((7 * cm) + 6)), .ref (g.2.1 60), .ref (g.2.1 49)]) (by rw [q38]) ?_
  have b39 : vp_in (nI ((7 * cm) + 6)) 840 := by exact vp_in_nI (by omega) (by decide)
  refine x_iald rfl b39 dX10_readCommand_155 ?_
  refine x_topi (y := U37 60 ((7 * cm) + 6)) (by rw [nI_clamp (by omega)]) ?_
  refine x_topi (y := U33 60 ((7 * cm) + 6)) (by rw [eU37, uM_na (by decide)]) ?_
  refine x_putI fp_X10_156 rfl rfl dX10_readCommand_156 ?_
  obtain ⟨U40, eU40⟩ : ∃ v_v : vM, v_v = uM U37 49 24 (U33 60 ((7 * cm) + 6)) := ⟨_, rfl⟩
  refine YY.V eU40.symm ?_
  refine x_aload_n dX10_readCommand_159 3 rfl ?_
  refine x_dup dX10_readCommand_160 rfl ?_
  refine x_getI fl_X10_162 rfl rfl dX10_readCommand_161 ?_
  refine x_topi (y := U33 49 21) (by rw [eU40, uM_ni (by decide), eU37, uM_ni (by decide)]) ?_
  refine x_topi (h21_1) ?_
  refine x_iconst (v := 1) dX10_readCommand_164 (by decide) ?_
  refine x_iadd dX10_readCommand_165 ?_
  refine x_putI fp_X10_162 rfl rfl dX10_readCommand_166 ?_
  obtain ⟨U41, eU41⟩ : ∃ v_v : vM, v_v = uM U40 49 21 ((nI cm) + 1) := ⟨_, rfl⟩
  refine YY.V eU41.symm ?_
  refine x_vret dX10_readCommand_169 rfl ?_
  rw [hQ]
  refine ⟨rfl, ((hF_1.st eU37 (by decide)).st eU40 (by decide)).st eU41 (by decide), a_1, ((hM1.set eU37 (by decide) (by decide)).set eU40 (by decide) (by decide)).set eU41 (by decide) (by decide), ?_⟩
  have hW : U41 49 19 = U33 49 19 := by rw [eU41, uM_ni (by decide), eU40, uM_ni (by decide), eU37, uM_ni (by decide)]
  rcases hR_1 with hB | hG
  · exact Or.inl ⟨hW.trans hB.1, hB.2⟩
  · skip
    obtain ⟨h19_1, v_1, d_1, n_1, x_1, hd_1, hs_1, hN_1, w5_1, w6_1, h22_1⟩ := hG
    have h60 : ∀ i, U41 60 i = U33 60 i := fun i => by rw [eU41, uM_na (by decide), eU40, uM_na (by decide), eU37, uM_na (by decide)]
    refine Or.inr ⟨hW.trans h19_1, n_1, 1, v_1, d_1, (upd X 0 x_1), hs_1, hd_1, rfl, hN_1, RDM_fc (G := (alR O (7 * cm) ∧ inR (x_1 + rXs sm x) ∧ inR (rSg v_1 n_1 + rXs sm y))) (by decide) ?_ ?_ ?_ (fun j hj => (h60 j).trans (hO_1 j hj)) ?_ ?_ ?_⟩
    · rw [eU41, uM_hit, nI_1]
    · rw [h60, eU41, uM_ni (by decide), eU40, uM_ni (by decide), eU37, uM_hit]
    · rw [h60, eU41, uM_ni (by decide), eU40, uM_hit]
    · intro p hp
      have e0 : rX2 0 sm n_1 1 v_1 x y (upd X 0 x_1) 0 = x_1 + rXs sm x := by rw [rX2_e (by decide)]; simp [upd]
      have e1 : rX2 0 sm n_1 1 v_1 x y (upd X 0 x_1) 1 = rSg v_1 n_1 + rXs sm y := by rw [rX2_e (by decide)]; simp [upd]
      rcases (show p = 0 ∨ p = 1 ∨ p = 2 ∨ p = 3 ∨ p = 4 ∨ p = 5 ∨ p = 6 by omega) with h | h | h | h | h | h | h
      · rw [h, h60]; exact w0_1
      · rw [h, h60]; exact w1_1
      · rw [h, h60]; exact w2_1
      · rw [h, h60]; exact w3_1
      · rw [h, h60]; exact w4_1
      · rw [h, h60]; exact w5_1.trans e0.symm
      · rw [h, h60]; exact w6_1.trans e1.symm
    · rw [eU41, uM_ni (by decide), eU40, uM_ni (by decide), eU37, uM_ni (by decide)]; exact h22_1
    · constructor
      · intro q
        refine ⟨q.1, fun p p1 p7 => ?_⟩
        rcases (show p = 1 ∨ p = 2 ∨ p = 3 ∨ p = 4 ∨ p = 5 ∨ p = 6 by omega) with h | h | h | h | h | h
        · rw [h, h60, w1_1]; exact inR0
        · rw [h, h60, w2_1]; exact inR0
        · rw [h, h60, w3_1]; exact inR0
        · rw [h, h60, w4_1]; exact inR0
        · rw [h, h60, w5_1]; exact q.2.1
        · rw [h, h60, w6_1]; exact q.2.2
      · rintro ⟨g0, gp⟩
        have g0a := gp 5 (by omega) (by omega)
        rw [h60, w5_1] at g0a
        have g0b := gp 6 (by omega) (by omega)
        rw [h60, w6_1] at g0b
        exact ⟨g0, g0a, g0b⟩
set_option maxHeartbeats 4000000 in
set_option maxRecDepth 100000 in
theorem mX10_readCommand1 {g : gX} {V : vM} {P : Nat → Int32} {n a : Nat} {sm : Int32} {cm : Nat} {x y sx sy : Int32} {X O : Nat → Int32} (hMR : MR V P n a) (hl : a < n) (h19 : V 49 19 = 0) (hsm : sm = 0 ∨ sm = 1) (hcm : cm ≤ a) (h21 : V 49 21 = nI cm) (hx : V 49 23 = x) (hy : V 49 24 = y) (h22 : V 49 22 = bP (¬ alR O (7 * cm))) (hO : ∀ j, j < 7 * cm → V 60 j = O j) (hs : rRun P (a + 1) = some ((1, sm, 0), (0, 0, 0, cm), (x, y, sx, sy), X, O)) : MM g jX10_readCommand V [.ref (g.2.1 49), .int 1, .int sm] (eV (CmdP V P n 1 sm cm x y sx sy O)) := by
  refine MM.of plX10_readCommand (Nat.le_of_ble_eq_true rfl) ?_
  obtain ⟨Q, hQ⟩ : ∃ Q : Option Value → vM → Prop, Q = (eV (CmdP V P n 1 sm cm x y sx sy O)) := ⟨_, rfl⟩
  rw [← hQ]
  show XX g jX10_readCommand Q V 0 [(0, .ref (g.2.1 49)), (1, .int 1), (2, .int sm)] []
  have han := hMR.2.2.2.1
  have hn120 := hMR.2.2.2.2
  refine x_aload_n dX10_readCommand_0 0 rfl ?_
  refine x_dup dX10_readCommand_1 rfl ?_
  refine x_getI fl_X10_137 rfl rfl dX10_readCommand_2 ?_
  refine x_topi (hMR.2.2.1) ?_
  refine x_iconst (v := 1) dX10_readCommand_5 (by decide) ?_
  refine x_iadd dX10_readCommand_6 ?_
  refine x_topi (y := nI (a + 1)) (by rw [nI_1]) ?_
  refine x_putI fp_X10_137 rfl rfl dX10_readCommand_7 ?_
  obtain ⟨U1, eU1⟩ : ∃ v_v : vM, v_v = uM V 49 18 (nI (a + 1)) := ⟨_, rfl⟩
  refine YY.V eU1.symm ?_
  refine x_bipush (v := 7) dX10_readCommand_10 (by decide) ?_
  refine x_aload_n dX10_readCommand_12 0 rfl ?_
  refine x_getI fl_X10_162 rfl rfl dX10_readCommand_13 ?_
  refine x_topi (y := V 49 21) (by rw [eU1, uM_ni (by decide)]) ?_
  refine x_topi (h21) ?_
  refine x_imul dX10_readCommand_16 ?_
  refine x_topi (y := nI (7 * cm)) (nmul (a := 7) rfl rfl) ?_
  refine x_istore_n 3 [(3, .int (nI (7 * cm))), (0, .ref (g.2.1 49)), (1, .int 1), (2, .int sm)] dX10_readCommand_17 rfl (by decide) rfl ?_
  refine x_aload_n dX10_readCommand_18 1 rfl ?_
  refine x_getR fl_X10_41 rfl rfl dX10_readCommand_19 ?_
  refine x_iload_n dX10_readCommand_22 0 rfl ?_
  refine x_iload_n dX10_readCommand_23 2 rfl ?_
  have b2 : vp_in (nI (7 * cm)) 840 := by exact vp_in_nI (by omega) (by decide)
  refine x_iast rfl b2 dX10_readCommand_24 ?_
  refine YY.V (V' := uM U1 60 (7 * cm) 1) (by rw [nI_clamp (by omega)]) ?_
  obtain ⟨U3, eU3⟩ : ∃ v_v : vM, v_v = uM U1 60 (7 * cm) 1 := ⟨_, rfl⟩
  refine YY.V eU3.symm ?_
  refine x_iconst (v := 1) dX10_readCommand_25 (by decide) ?_
  refine x_istore 4 [(4, .int 1), (3, .int (nI (7 * cm))), (0, .ref (g.2.1 49)), (1, .int 1), (2, .int sm)] dX10_readCommand_26 (by decide) rfl ?_
  refine x_iload dX10_readCommand_28 0 rfl ?_
  refine x_bipush (v := 7) dX10_readCommand_30 (by decide) ?_
  refine x_icmp_ge 51 dX10_readCommand_32 (by decide) (fun c4 => by exfalso; revert c4; decide) (fun c4 => ?_)
  refine x_aload_n dX10_readCommand_35 2 rfl ?_
  refine x_getR fl_X10_41 rfl rfl dX10_readCommand_36 ?_
  refine x_iload_n dX10_readCommand_39 1 rfl ?_
  refine x_iload dX10_readCommand_40 0 rfl ?_
  refine x_iadd dX10_readCommand_42 ?_
  refine x_iconst (v := 0) dX10_readCommand_43 (by decide) ?_
  have q5 : ((nI (7 * cm)) + 1 : Int32) = nI ((7 * cm) + 1) := nadd (rfl) (rfl)
  refine YY.S (st' := [.int 0, .int (nI ((7 * cm) + 1)), .ref (g.2.1 60)]) (by rw [q5]) ?_
  have b6 : vp_in (nI ((7 * cm) + 1)) 840 := by exact vp_in_nI (by omega) (by decide)
  refine x_iast rfl b6 dX10_readCommand_44 ?_
  refine YY.V (V' := uM U3 60 ((7 * cm) + 1) 0) (by rw [nI_clamp (by omega)]) ?_
  obtain ⟨U7, eU7⟩ : ∃ v_v : vM, v_v = uM U3 60 ((7 * cm) + 1) 0 := ⟨_, rfl⟩
  refine YY.V eU7.symm ?_
  refine x_iinc 4 (v := 2) 0 [(4, .int 2), (3, .int (nI (7 * cm))), (0, .ref (g.2.1 49)), (1, .int 1), (2, .int sm)] dX10_readCommand_45 rfl (by decide) (by decide) rfl ?_
  refine x_goto 28 dX10_readCommand_48 (by decide) ?_
  refine x_iload dX10_readCommand_28 0 rfl ?_
  refine x_bipush (v := 7) dX10_readCommand_30 (by decide) ?_
  refine x_icmp_ge 51 dX10_readCommand_32 (by decide) (fun c8 => by exfalso; revert c8; decide) (fun c8 => ?_)
  refine x_aload_n dX10_readCommand_35 2 rfl ?_
  refine x_getR fl_X10_41 rfl rfl dX10_readCommand_36 ?_
  refine x_iload_n dX10_readCommand_39 1 rfl ?_
  refine x_iload dX10_readCommand_40 0 rfl ?_
  refine x_iadd dX10_readCommand_42 ?_
  refine x_iconst (v := 0) dX10_readCommand_43 (by decide) ?_
  have q9 : ((nI (7 * cm)) + 2 : Int32) = nI ((7 * cm) + 2) := nadd (rfl) (rfl)
  refine YY.S (st' := [.int 0, .int (nI ((7 * cm) + 2)), .ref (g.2.1 60)]) (by rw [q9]) ?_
  have b10 : vp_in (nI ((7 * cm) + 2)) 840 := by exact vp_in_nI (by omega) (by decide)
  refine x_iast rfl b10 dX10_readCommand_44 ?_
  refine YY.V (V' := uM U7 60 ((7 * cm) + 2) 0) (by rw [nI_clamp (by omega)]) ?_
  obtain ⟨U11, eU11⟩ : ∃ v_v : vM, v_v = uM U7 60 ((7 * cm) + 2) 0 := ⟨_, rfl⟩
  refine YY.V eU11.symm ?_
  refine x_iinc 4 (v := 3) 0 [(4, .int 3), (3, .int (nI (7 * cm))), (0, .ref (g.2.1 49)), (1, .int 1), (2, .int sm)] dX10_readCommand_45 rfl (by decide) (by decide) rfl ?_
  refine x_goto 28 dX10_readCommand_48 (by decide) ?_
  refine x_iload dX10_readCommand_28 0 rfl ?_
  refine x_bipush (v := 7) dX10_readCommand_30 (by decide) ?_
  refine x_icmp_ge 51 dX10_readCommand_32 (by decide) (fun c12 => by exfalso; revert c12; decide) (fun c12 => ?_)
  refine x_aload_n dX10_readCommand_35 2 rfl ?_
  refine x_getR fl_X10_41 rfl rfl dX10_readCommand_36 ?_
  refine x_iload_n dX10_readCommand_39 1 rfl ?_
  refine x_iload dX10_readCommand_40 0 rfl ?_
  refine x_iadd dX10_readCommand_42 ?_
  refine x_iconst (v := 0) dX10_readCommand_43 (by decide) ?_
  have q13 : ((nI (7 * cm)) + 3 : Int32) = nI ((7 * cm) + 3) := nadd (rfl) (rfl)
  refine YY.S (st' := [.int 0, .int (nI ((7 * cm) + 3)), .ref (g.2.1 60)]) (by rw [q13]) ?_
  have b14 : vp_in (nI ((7 * cm) + 3)) 840 := by exact vp_in_nI (by omega) (by decide)
  refine x_iast rfl b14 dX10_readCommand_44 ?_
  refine YY.V (V' := uM U11 60 ((7 * cm) + 3) 0) (by rw [nI_clamp (by omega)]) ?_
  obtain ⟨U15, eU15⟩ : ∃ v_v : vM, v_v = uM U11 60 ((7 * cm) + 3) 0 := ⟨_, rfl⟩
  refine YY.V eU15.symm ?_
  refine x_iinc 4 (v := 4) 0 [(4, .int 4), (3, .int (nI (7 * cm))), (0, .ref (g.2.1 49)), (1, .int 1), (2, .int sm)] dX10_readCommand_45 rfl (by decide) (by decide) rfl ?_
  refine x_goto 28 dX10_readCommand_48 (by decide) ?_
  refine x_iload dX10_readCommand_28 0 rfl ?_
  refine x_bipush (v := 7) dX10_readCommand_30 (by decide) ?_
  refine x_icmp_ge 51 dX10_readCommand_32 (by decide) (fun c16 => by exfalso; revert c16; decide) (fun c16 => ?_)
  refine x_aload_n dX10_readCommand_35 2 rfl ?_
  refine x_getR fl_X10_41 rfl rfl dX10_readCommand_36 ?_
  refine x_iload_n dX10_readCommand_39 1 rfl ?_
  refine x_iload dX10_readCommand_40 0 rfl ?_
  refine x_iadd dX10_readCommand_42 ?_
  refine x_iconst (v := 0) dX10_readCommand_43 (by decide) ?_
  have q17 : ((nI (7 * cm)) + 4 : Int32) = nI ((7 * cm) + 4) := nadd (rfl) (rfl)
  refine YY.S (st' := [.int 0, .int (nI ((7 * cm) + 4)), .ref (g.2.1 60)]) (by rw [q17]) ?_
  have b18 : vp_in (nI ((7 * cm) + 4)) 840 := by exact vp_in_nI (by omega) (by decide)
  refine x_iast rfl b18 dX10_readCommand_44 ?_
  refine YY.V (V' := uM U15 60 ((7 * cm) + 4) 0) (by rw [nI_clamp (by omega)]) ?_
  obtain ⟨U19, eU19⟩ : ∃ v_v : vM, v_v = uM U15 60 ((7 * cm) + 4) 0 := ⟨_, rfl⟩
  refine YY.V eU19.symm ?_
  refine x_iinc 4 (v := 5) 0 [(4, .int 5), (3, .int (nI (7 * cm))), (0, .ref (g.2.1 49)), (1, .int 1), (2, .int sm)] dX10_readCommand_45 rfl (by decide) (by decide) rfl ?_
  refine x_goto 28 dX10_readCommand_48 (by decide) ?_
  refine x_iload dX10_readCommand_28 0 rfl ?_
  refine x_bipush (v := 7) dX10_readCommand_30 (by decide) ?_
  refine x_icmp_ge 51 dX10_readCommand_32 (by decide) (fun c20 => by exfalso; revert c20; decide) (fun c20 => ?_)
  refine x_aload_n dX10_readCommand_35 2 rfl ?_
  refine x_getR fl_X10_41 rfl rfl dX10_readCommand_36 ?_
  refine x_iload_n dX10_readCommand_39 1 rfl ?_
  refine x_iload dX10_readCommand_40 0 rfl ?_
  refine x_iadd dX10_readCommand_42 ?_
  refine x_iconst (v := 0) dX10_readCommand_43 (by decide) ?_
  have q21 : ((nI (7 * cm)) + 5 : Int32) = nI ((7 * cm) + 5) := nadd (rfl) (rfl)
  refine YY.S (st' := [.int 0, .int (nI ((7 * cm) + 5)), .ref (g.2.1 60)]) (by rw [q21]) ?_
  have b22 : vp_in (nI ((7 * cm) + 5)) 840 := by exact vp_in_nI (by omega) (by decide)
  refine x_iast rfl b22 dX10_readCommand_44 ?_
  refine YY.V (V' := uM U19 60 ((7 * cm) + 5) 0) (by rw [nI_clamp (by omega)]) ?_
  obtain ⟨U23, eU23⟩ : ∃ v_v : vM, v_v = uM U19 60 ((7 * cm) + 5) 0 := ⟨_, rfl⟩
  refine YY.V eU23.symm ?_
  refine x_iinc 4 (v := 6) 0 [(4, .int 6), (3, .int (nI (7 * cm))), (0, .ref (g.2.1 49)), (1, .int 1), (2, .int sm)] dX10_readCommand_45 rfl (by decide) (by decide) rfl ?_
  refine x_goto 28 dX10_readCommand_48 (by decide) ?_
  refine x_iload dX10_readCommand_28 0 rfl ?_
  refine x_bipush (v := 7) dX10_readCommand_30 (by decide) ?_
  refine x_icmp_ge 51 dX10_readCommand_32 (by decide) (fun c24 => by exfalso; revert c24; decide) (fun c24 => ?_)
  refine x_aload_n dX10_readCommand_35 2 rfl ?_
  refine x_getR fl_X10_41 rfl rfl dX10_readCommand_36 ?_
  refine x_iload_n dX10_readCommand_39 1 rfl ?_
  refine x_iload dX10_readCommand_40 0 rfl ?_
  refine x_iadd dX10_readCommand_42 ?_
  refine x_iconst (v := 0) dX10_readCommand_43 (by decide) ?_
  have q25 : ((nI (7 * cm)) + 6 : Int32) = nI ((7 * cm) + 6) := nadd (rfl) (rfl)
  refine YY.S (st' := [.int 0, .int (nI ((7 * cm) + 6)), .ref (g.2.1 60)]) (by rw [q25]) ?_
  have b26 : vp_in (nI ((7 * cm) + 6)) 840 := by exact vp_in_nI (by omega) (by decide)
  refine x_iast rfl b26 dX10_readCommand_44 ?_
  refine YY.V (V' := uM U23 60 ((7 * cm) + 6) 0) (by rw [nI_clamp (by omega)]) ?_
  obtain ⟨U27, eU27⟩ : ∃ v_v : vM, v_v = uM U23 60 ((7 * cm) + 6) 0 := ⟨_, rfl⟩
  refine YY.V eU27.symm ?_
  refine x_iinc 4 (v := 7) 0 [(4, .int 7), (3, .int (nI (7 * cm))), (0, .ref (g.2.1 49)), (1, .int 1), (2, .int sm)] dX10_readCommand_45 rfl (by decide) (by decide) rfl ?_
  refine x_goto 28 dX10_readCommand_48 (by decide) ?_
  refine x_iload dX10_readCommand_28 0 rfl ?_
  refine x_bipush (v := 7) dX10_readCommand_30 (by decide) ?_
  refine x_icmp_ge 51 dX10_readCommand_32 (by decide) (fun c28 => ?_) (fun c28 => by exfalso; revert c28; decide)
  have hM0 : MR U27 P n (a + 1) := (((((((hMR.at eU1 (by omega)).row eU3).row eU7).row eU11).row eU15).row eU19).row eU23).row eU27
  have h19_0 : U27 49 19 = 0 := by rw [eU27, uM_na (by decide), eU23, uM_na (by decide), eU19, uM_na (by decide), eU15, uM_na (by decide), eU11, uM_na (by decide), eU7, uM_na (by decide), eU3, uM_na (by decide), eU1, uM_ni (by decide)]; exact h19
  have h21_0 : U27 49 21 = nI cm := by rw [eU27, uM_na (by decide), eU23, uM_na (by decide), eU19, uM_na (by decide), eU15, uM_na (by decide), eU11, uM_na (by decide), eU7, uM_na (by decide), eU3, uM_na (by decide), eU1, uM_ni (by decide)]; exact h21
  have hx_0 : U27 49 23 = x := by rw [eU27, uM_na (by decide), eU23, uM_na (by decide), eU19, uM_na (by decide), eU15, uM_na (by decide), eU11, uM_na (by decide), eU7, uM_na (by decide), eU3, uM_na (by decide), eU1, uM_ni (by decide)]; exact hx
  have hy_0 : U27 49 24 = y := by rw [eU27, uM_na (by decide), eU23, uM_na (by decide), eU19, uM_na (by decide), eU15, uM_na (by decide), eU11, uM_na (by decide), eU7, uM_na (by decide), eU3, uM_na (by decide), eU1, uM_ni (by decide)]; exact hy
  have h22_0 : U27 49 22 = bP (¬ alR O (7 * cm)) := by rw [eU27, uM_na (by decide), eU23, uM_na (by decide), eU19, uM_na (by decide), eU15, uM_na (by decide), eU11, uM_na (by decide), eU7, uM_na (by decide), eU3, uM_na (by decide), eU1, uM_ni (by decide)]; exact h22
  have w0_0 : U27 60 (7 * cm) = 1 := by rw [eU27, uM_ni (by omega), eU23, uM_ni (by omega), eU19, uM_ni (by omega), eU15, uM_ni (by omega), eU11, uM_ni (by omega), eU7, uM_ni (by omega), eU3, uM_hit]
  have w1_0 : U27 60 (7 * cm + 1) = 0 := by rw [eU27, uM_ni (by omega), eU23, uM_ni (by omega), eU19, uM_ni (by omega), eU15, uM_ni (by omega), eU11, uM_ni (by omega), eU7, uM_hit]
  have w2_0 : U27 60 (7 * cm + 2) = 0 := by rw [eU27, uM_ni (by omega), eU23, uM_ni (by omega), eU19, uM_ni (by omega), eU15, uM_ni (by omega), eU11, uM_hit]
  have w3_0 : U27 60 (7 * cm + 3) = 0 := by rw [eU27, uM_ni (by omega), eU23, uM_ni (by omega), eU19, uM_ni (by omega), eU15, uM_hit]
  have w4_0 : U27 60 (7 * cm + 4) = 0 := by rw [eU27, uM_ni (by omega), eU23, uM_ni (by omega), eU19, uM_hit]
  have w5_0 : U27 60 (7 * cm + 5) = 0 := by rw [eU27, uM_ni (by omega), eU23, uM_hit]
  have w6_0 : U27 60 (7 * cm + 6) = 0 := by rw [eU27, uM_hit]
  have hO_0 : ∀ j, j < 7 * cm → U27 60 j = O j := fun j hj => by rw [eU27, uM_ni (by omega), eU23, uM_ni (by omega), eU19, uM_ni (by omega), eU15, uM_ni (by omega), eU11, uM_ni (by omega), eU7, uM_ni (by omega), eU3, uM_ni (by omega), eU1, uM_na (by decide)]; exact hO j hj
  have hF_0 : frC V U27 := ((((((((frC.refl V).st eU1 (Or.inl rfl)).row eU3).row eU7).row eU11).row eU15).row eU19).row eU23).row eU27
  refine x_iload_n dX10_readCommand_51 3 rfl ?_
  refine x_iconst (v := 2) dX10_readCommand_52 (by decide) ?_
  refine x_icmp_ne 60 dX10_readCommand_53 (by decide) (fun c29 => ?_) (fun c29 => by exfalso; revert c29; decide)
  refine x_iload_n dX10_readCommand_60 3 rfl ?_
  refine x_iconst (v := 3) dX10_readCommand_61 (by decide) ?_
  refine x_icmp_ne 69 dX10_readCommand_62 (by decide) (fun c30 => ?_) (fun c30 => by exfalso; revert c30; decide)
  refine x_iconst (v := 0) dX10_readCommand_69 (by decide) ?_
  refine x_istore 4 [(4, .int 0), (3, .int (nI (7 * cm))), (0, .ref (g.2.1 49)), (1, .int 1), (2, .int sm)] dX10_readCommand_70 (by decide) rfl ?_
  refine x_iconst (v := 0) dX10_readCommand_72 (by decide) ?_
  refine x_istore 5 [(5, .int 0), (4, .int 0), (3, .int (nI (7 * cm))), (0, .ref (g.2.1 49)), (1, .int 1), (2, .int sm)] dX10_readCommand_73 (by decide) rfl ?_
  refine x_iload dX10_readCommand_75 0 rfl ?_
  refine x_iload dX10_readCommand_77 1 rfl ?_
  refine x_icmp_ge 119 dX10_readCommand_79 (by decide) (fun c31 => ?_) (fun c31 => by exfalso; revert c31; decide)
  refine x_aload_n dX10_readCommand_119 3 rfl ?_
  refine x_getI fl_X10_143 rfl rfl dX10_readCommand_120 ?_
  refine x_topi (y := V 49 19) (by rw [eU27, uM_na (by decide), eU23, uM_na (by decide), eU19, uM_na (by decide), eU15, uM_na (by decide), eU11, uM_na (by decide), eU7, uM_na (by decide), eU3, uM_na (by decide), eU1, uM_ni (by decide)]) ?_
  refine x_topi (h19) ?_
  refine x_if_ne 159 dX10_readCommand_123 (by decide) (fun c32 => by exfalso; revert c32; decide) (fun c32 => ?_)
  refine x_aload_n dX10_readCommand_126 3 rfl ?_
  refine x_iload_n dX10_readCommand_127 2 rfl ?_
  refine x_iconst (v := 5) dX10_readCommand_128 (by decide) ?_
  refine x_iadd dX10_readCommand_129 ?_
  refine x_topi (y := nI (7 * cm + 5)) (nadd rfl (b := 5) rfl) ?_
  refine x_iload_n dX10_readCommand_130 5 rfl ?_
  refine x_callV (K := jX10_readPair) [.int (nI (7 * cm + 5)), .int sm] lk_X10_165 ⟨⟨rfl, rfl⟩, Nat.le_of_ble_eq_true rfl, Nat.le_of_ble_eq_true rfl⟩ rfl rfl (mX10_readPair hM0 h19_0 hs (by decide) hsm hx_0 hy_0 h22_0 (7 * cm + 5) (by omega)) rfl (Nat.le_of_ble_eq_true rfl) rfl dX10_readCommand_131 (keV fun U33 hU34 => ?_)
  obtain ⟨hT_1, a_1, hM1, hR_1⟩ := hU34
  have h21_1 : U33 49 21 = nI cm := (hT_1 49 21 (by decide) (fun w => absurd w.1 (by decide))).trans h21_0
  have hx_1 : U33 49 23 = x := (hT_1 49 23 (by decide) (fun w => absurd w.1 (by decide))).trans hx_0
  have hy_1 : U33 49 24 = y := (hT_1 49 24 (by decide) (fun w => absurd w.1 (by decide))).trans hy_0
  have w0_1 := (hT_1 (60) (7 * cm) (fun w => absurd w.1 (by decide)) (fun w => by omega)).trans w0_0
  have w1_1 := (hT_1 (60) (7 * cm + 1) (fun w => absurd w.1 (by decide)) (fun w => by omega)).trans w1_0
  have w2_1 := (hT_1 (60) (7 * cm + 2) (fun w => absurd w.1 (by decide)) (fun w => by omega)).trans w2_0
  have w3_1 := (hT_1 (60) (7 * cm + 3) (fun w => absurd w.1 (by decide)) (fun w => by omega)).trans w3_0
  have w4_1 := (hT_1 (60) (7 * cm + 4) (fun w => absurd w.1 (by decide)) (fun w => by omega)).trans w4_0
  have hO_1 : ∀ j, j < 7 * cm → U33 60 j = O j := fun j hj => (hT_1 60 j (fun w => absurd w.1 (by decide)) (fun w => by omega)).trans (hO_0 j hj)
  have hF_1 := hF_0.trans hT_1.C
  refine x_aload_n dX10_readCommand_134 3 rfl ?_
  refine x_aload_n dX10_readCommand_135 3 rfl ?_
  refine x_getR fl_X10_41 rfl rfl dX10_readCommand_136 ?_
  refine x_iload_n dX10_readCommand_139 2 rfl ?_
  refine x_iconst (v := 5) dX10_readCommand_140 (by decide) ?_
  refine x_iadd dX10_readCommand_141 ?_
  have q35 : ((nI (7 * cm)) + 5 : Int32) = nI ((7 * cm) + 5) := nadd (rfl) (rfl)
  refine YY.S (st' := [.int (nI ((7 * cm) + 5)), .ref (g.2.1 60), .ref (g.2.1 49)]) (by rw [q35]) ?_
  have b36 : vp_in (nI ((7 * cm) + 5)) 840 := by exact vp_in_nI (by omega) (by decide)
  refine x_iald rfl b36 dX10_readCommand_142 ?_
  refine x_topi (y := U33 60 ((7 * cm) + 5)) (by rw [nI_clamp (by omega)]) ?_
  refine x_putI fp_X10_153 rfl rfl dX10_readCommand_143 ?_
  obtain ⟨U37, eU37⟩ : ∃ v_v : vM, v_v = uM U33 49 23 (U33 60 ((7 * cm) + 5)) := ⟨_, rfl⟩
  refine YY.V eU37.symm ?_
  refine x_aload_n dX10_readCommand_146 3 rfl ?_
  refine x_aload_n dX10_readCommand_147 3 rfl ?_
  refine x_getR fl_X10_41 rfl rfl dX10_readCommand_148 ?_
  refine x_iload_n dX10_readCommand_151 2 rfl ?_
  refine x_bipush (v := 6) dX10_readCommand_152 (by decide) ?_
  refine x_iadd dX10_readCommand_154 ?_
  have q38 : ((nI (7 * cm)) + 6 : Int32) = nI ((7 * cm) + 6) := nadd (rfl) (rfl)
  refine YY.S (st' := [.int (nI ((7 * cm) + 6)), .ref (g.2.1 60), .ref (g.2.1 49)]) (by rw [q38]) ?_
  have b39 : vp_in (nI ((7 * cm) + 6)) 840 := by exact vp_in_nI (by omega) (by decide)
  refine x_iald rfl b39 dX10_readCommand_155 ?_
  refine x_topi (y := U37 60 ((7 * cm) + 6)) (by rw [nI_clamp (by omega)]) ?_
  refine x_topi (y := U33 60 ((7 * cm) + 6)) (by rw [eU37, uM_na (by decide)]) ?_
  refine x_putI fp_X10_156 rfl rfl dX10_readCommand_156 ?_
  obtain ⟨U40, eU40⟩ : ∃ v_v : vM, v_v = uM U37 49 24 (U33 60 ((7 * cm) + 6)) := ⟨_, rfl⟩
  refine YY.V eU40.symm ?_
  refine x_aload_n dX10_readCommand_159 3 rfl ?_
  refine x_dup dX10_readCommand_160 rfl ?_
  refine x_getI fl_X10_162 rfl rfl dX10_readCommand_161 ?_
  refine x_topi (y := U33 49 21) (by rw [eU40, uM_ni (by decide), eU37, uM_ni (by decide)]) ?_
  refine x_topi (h21_1) ?_
  refine x_iconst (v := 1) dX10_readCommand_164 (by decide) ?_
  refine x_iadd dX10_readCommand_165 ?_
  refine x_putI fp_X10_162 rfl rfl dX10_readCommand_166 ?_
  obtain ⟨U41, eU41⟩ : ∃ v_v : vM, v_v = uM U40 49 21 ((nI cm) + 1) := ⟨_, rfl⟩
  refine YY.V eU41.symm ?_
  refine x_vret dX10_readCommand_169 rfl ?_
  rw [hQ]
  refine ⟨rfl, ((hF_1.st eU37 (by decide)).st eU40 (by decide)).st eU41 (by decide), a_1, ((hM1.set eU37 (by decide) (by decide)).set eU40 (by decide) (by decide)).set eU41 (by decide) (by decide), ?_⟩
  have hW : U41 49 19 = U33 49 19 := by rw [eU41, uM_ni (by decide), eU40, uM_ni (by decide), eU37, uM_ni (by decide)]
  rcases hR_1 with hB | hG
  · exact Or.inl ⟨hW.trans hB.1, hB.2⟩
  · skip
    obtain ⟨h19_1, v_1, d_1, n_1, x_1, hd_1, hs_1, hN_1, w5_1, w6_1, h22_1⟩ := hG
    have h60 : ∀ i, U41 60 i = U33 60 i := fun i => by rw [eU41, uM_na (by decide), eU40, uM_na (by decide), eU37, uM_na (by decide)]
    refine Or.inr ⟨hW.trans h19_1, n_1, 1, v_1, d_1, (upd X 0 x_1), hs_1, hd_1, rfl, hN_1, RDM_fc (G := (alR O (7 * cm) ∧ inR (x_1 + rXs sm x) ∧ inR (rSg v_1 n_1 + rXs sm y))) (by decide) ?_ ?_ ?_ (fun j hj => (h60 j).trans (hO_1 j hj)) ?_ ?_ ?_⟩
    · rw [eU41, uM_hit, nI_1]
    · rw [h60, eU41, uM_ni (by decide), eU40, uM_ni (by decide), eU37, uM_hit]
    · rw [h60, eU41, uM_ni (by decide), eU40, uM_hit]
    · intro p hp
      have e0 : rX2 1 sm n_1 1 v_1 x y (upd X 0 x_1) 0 = x_1 + rXs sm x := by rw [rX2_e (by decide)]; simp [upd]
      have e1 : rX2 1 sm n_1 1 v_1 x y (upd X 0 x_1) 1 = rSg v_1 n_1 + rXs sm y := by rw [rX2_e (by decide)]; simp [upd]
      rcases (show p = 0 ∨ p = 1 ∨ p = 2 ∨ p = 3 ∨ p = 4 ∨ p = 5 ∨ p = 6 by omega) with h | h | h | h | h | h | h
      · rw [h, h60]; exact w0_1
      · rw [h, h60]; exact w1_1
      · rw [h, h60]; exact w2_1
      · rw [h, h60]; exact w3_1
      · rw [h, h60]; exact w4_1
      · rw [h, h60]; exact w5_1.trans e0.symm
      · rw [h, h60]; exact w6_1.trans e1.symm
    · rw [eU41, uM_ni (by decide), eU40, uM_ni (by decide), eU37, uM_ni (by decide)]; exact h22_1
    · constructor
      · intro q
        refine ⟨q.1, fun p p1 p7 => ?_⟩
        rcases (show p = 1 ∨ p = 2 ∨ p = 3 ∨ p = 4 ∨ p = 5 ∨ p = 6 by omega) with h | h | h | h | h | h
        · rw [h, h60, w1_1]; exact inR0
        · rw [h, h60, w2_1]; exact inR0
        · rw [h, h60, w3_1]; exact inR0
        · rw [h, h60, w4_1]; exact inR0
        · rw [h, h60, w5_1]; exact q.2.1
        · rw [h, h60, w6_1]; exact q.2.2
      · rintro ⟨g0, gp⟩
        have g0a := gp 5 (by omega) (by omega)
        rw [h60, w5_1] at g0a
        have g0b := gp 6 (by omega) (by omega)
        rw [h60, w6_1] at g0b
        exact ⟨g0, g0a, g0b⟩
set_option maxHeartbeats 4000000 in
set_option maxRecDepth 100000 in
theorem mX10_readCommand2 {g : gX} {V : vM} {P : Nat → Int32} {n a : Nat} {sm : Int32} {cm : Nat} {x y sx sy : Int32} {X O : Nat → Int32} (hMR : MR V P n a) (hl : a < n) (h19 : V 49 19 = 0) (hsm : sm = 0 ∨ sm = 1) (hcm : cm ≤ a) (h21 : V 49 21 = nI cm) (hx : V 49 23 = x) (hy : V 49 24 = y) (h22 : V 49 22 = bP (¬ alR O (7 * cm))) (hO : ∀ j, j < 7 * cm → V 60 j = O j) (hs : rRun P (a + 1) = some ((2, sm, 0), (0, 0, 0, cm), (x, y, sx, sy), X, O)) : MM g jX10_readCommand V [.ref (g.2.1 49), .int 2, .int sm] (eV (CmdP V P n 2 sm cm x y sx sy O)) := by
  refine MM.of plX10_readCommand (Nat.le_of_ble_eq_true rfl) ?_
  obtain ⟨Q, hQ⟩ : ∃ Q : Option Value → vM → Prop, Q = (eV (CmdP V P n 2 sm cm x y sx sy O)) := ⟨_, rfl⟩
  rw [← hQ]
  show XX g jX10_readCommand Q V 0 [(0, .ref (g.2.1 49)), (1, .int 2), (2, .int sm)] []
  have han := hMR.2.2.2.1
  have hn120 := hMR.2.2.2.2
  refine x_aload_n dX10_readCommand_0 0 rfl ?_
  refine x_dup dX10_readCommand_1 rfl ?_
  refine x_getI fl_X10_137 rfl rfl dX10_readCommand_2 ?_
  refine x_topi (hMR.2.2.1) ?_
  refine x_iconst (v := 1) dX10_readCommand_5 (by decide) ?_
  refine x_iadd dX10_readCommand_6 ?_
  refine x_topi (y := nI (a + 1)) (by rw [nI_1]) ?_
  refine x_putI fp_X10_137 rfl rfl dX10_readCommand_7 ?_
  obtain ⟨U1, eU1⟩ : ∃ v_v : vM, v_v = uM V 49 18 (nI (a + 1)) := ⟨_, rfl⟩
  refine YY.V eU1.symm ?_
  refine x_bipush (v := 7) dX10_readCommand_10 (by decide) ?_
  refine x_aload_n dX10_readCommand_12 0 rfl ?_
  refine x_getI fl_X10_162 rfl rfl dX10_readCommand_13 ?_
  refine x_topi (y := V 49 21) (by rw [eU1, uM_ni (by decide)]) ?_
  refine x_topi (h21) ?_
  refine x_imul dX10_readCommand_16 ?_
  refine x_topi (y := nI (7 * cm)) (nmul (a := 7) rfl rfl) ?_
  refine x_istore_n 3 [(3, .int (nI (7 * cm))), (0, .ref (g.2.1 49)), (1, .int 2), (2, .int sm)] dX10_readCommand_17 rfl (by decide) rfl ?_
  refine x_aload_n dX10_readCommand_18 1 rfl ?_
  refine x_getR fl_X10_41 rfl rfl dX10_readCommand_19 ?_
  refine x_iload_n dX10_readCommand_22 0 rfl ?_
  refine x_iload_n dX10_readCommand_23 2 rfl ?_
  have b2 : vp_in (nI (7 * cm)) 840 := by exact vp_in_nI (by omega) (by decide)
  refine x_iast rfl b2 dX10_readCommand_24 ?_
  refine YY.V (V' := uM U1 60 (7 * cm) 2) (by rw [nI_clamp (by omega)]) ?_
  obtain ⟨U3, eU3⟩ : ∃ v_v : vM, v_v = uM U1 60 (7 * cm) 2 := ⟨_, rfl⟩
  refine YY.V eU3.symm ?_
  refine x_iconst (v := 1) dX10_readCommand_25 (by decide) ?_
  refine x_istore 4 [(4, .int 1), (3, .int (nI (7 * cm))), (0, .ref (g.2.1 49)), (1, .int 2), (2, .int sm)] dX10_readCommand_26 (by decide) rfl ?_
  refine x_iload dX10_readCommand_28 0 rfl ?_
  refine x_bipush (v := 7) dX10_readCommand_30 (by decide) ?_
  refine x_icmp_ge 51 dX10_readCommand_32 (by decide) (fun c4 => by exfalso; revert c4; decide) (fun c4 => ?_)
  refine x_aload_n dX10_readCommand_35 2 rfl ?_
  refine x_getR fl_X10_41 rfl rfl dX10_readCommand_36 ?_
  refine x_iload_n dX10_readCommand_39 1 rfl ?_
  refine x_iload dX10_readCommand_40 0 rfl ?_
  refine x_iadd dX10_readCommand_42 ?_
  refine x_iconst (v := 0) dX10_readCommand_43 (by decide) ?_
  have q5 : ((nI (7 * cm)) + 1 : Int32) = nI ((7 * cm) + 1) := nadd (rfl) (rfl)
  refine YY.S (st' := [.int 0, .int (nI ((7 * cm) + 1)), .ref (g.2.1 60)]) (by rw [q5]) ?_
  have b6 : vp_in (nI ((7 * cm) + 1)) 840 := by exact vp_in_nI (by omega) (by decide)
  refine x_iast rfl b6 dX10_readCommand_44 ?_
  refine YY.V (V' := uM U3 60 ((7 * cm) + 1) 0) (by rw [nI_clamp (by omega)]) ?_
  obtain ⟨U7, eU7⟩ : ∃ v_v : vM, v_v = uM U3 60 ((7 * cm) + 1) 0 := ⟨_, rfl⟩
  refine YY.V eU7.symm ?_
  refine x_iinc 4 (v := 2) 0 [(4, .int 2), (3, .int (nI (7 * cm))), (0, .ref (g.2.1 49)), (1, .int 2), (2, .int sm)] dX10_readCommand_45 rfl (by decide) (by decide) rfl ?_
  refine x_goto 28 dX10_readCommand_48 (by decide) ?_
  refine x_iload dX10_readCommand_28 0 rfl ?_
  refine x_bipush (v := 7) dX10_readCommand_30 (by decide) ?_
  refine x_icmp_ge 51 dX10_readCommand_32 (by decide) (fun c8 => by exfalso; revert c8; decide) (fun c8 => ?_)
  refine x_aload_n dX10_readCommand_35 2 rfl ?_
  refine x_getR fl_X10_41 rfl rfl dX10_readCommand_36 ?_
  refine x_iload_n dX10_readCommand_39 1 rfl ?_
  refine x_iload dX10_readCommand_40 0 rfl ?_
  refine x_iadd dX10_readCommand_42 ?_
  refine x_iconst (v := 0) dX10_readCommand_43 (by decide) ?_
  have q9 : ((nI (7 * cm)) + 2 : Int32) = nI ((7 * cm) + 2) := nadd (rfl) (rfl)
  refine YY.S (st' := [.int 0, .int (nI ((7 * cm) + 2)), .ref (g.2.1 60)]) (by rw [q9]) ?_
  have b10 : vp_in (nI ((7 * cm) + 2)) 840 := by exact vp_in_nI (by omega) (by decide)
  refine x_iast rfl b10 dX10_readCommand_44 ?_
  refine YY.V (V' := uM U7 60 ((7 * cm) + 2) 0) (by rw [nI_clamp (by omega)]) ?_
  obtain ⟨U11, eU11⟩ : ∃ v_v : vM, v_v = uM U7 60 ((7 * cm) + 2) 0 := ⟨_, rfl⟩
  refine YY.V eU11.symm ?_
  refine x_iinc 4 (v := 3) 0 [(4, .int 3), (3, .int (nI (7 * cm))), (0, .ref (g.2.1 49)), (1, .int 2), (2, .int sm)] dX10_readCommand_45 rfl (by decide) (by decide) rfl ?_
  refine x_goto 28 dX10_readCommand_48 (by decide) ?_
  refine x_iload dX10_readCommand_28 0 rfl ?_
  refine x_bipush (v := 7) dX10_readCommand_30 (by decide) ?_
  refine x_icmp_ge 51 dX10_readCommand_32 (by decide) (fun c12 => by exfalso; revert c12; decide) (fun c12 => ?_)
  refine x_aload_n dX10_readCommand_35 2 rfl ?_
  refine x_getR fl_X10_41 rfl rfl dX10_readCommand_36 ?_
  refine x_iload_n dX10_readCommand_39 1 rfl ?_
  refine x_iload dX10_readCommand_40 0 rfl ?_
  refine x_iadd dX10_readCommand_42 ?_
  refine x_iconst (v := 0) dX10_readCommand_43 (by decide) ?_
  have q13 : ((nI (7 * cm)) + 3 : Int32) = nI ((7 * cm) + 3) := nadd (rfl) (rfl)
  refine YY.S (st' := [.int 0, .int (nI ((7 * cm) + 3)), .ref (g.2.1 60)]) (by rw [q13]) ?_
  have b14 : vp_in (nI ((7 * cm) + 3)) 840 := by exact vp_in_nI (by omega) (by decide)
  refine x_iast rfl b14 dX10_readCommand_44 ?_
  refine YY.V (V' := uM U11 60 ((7 * cm) + 3) 0) (by rw [nI_clamp (by omega)]) ?_
  obtain ⟨U15, eU15⟩ : ∃ v_v : vM, v_v = uM U11 60 ((7 * cm) + 3) 0 := ⟨_, rfl⟩
  refine YY.V eU15.symm ?_
  refine x_iinc 4 (v := 4) 0 [(4, .int 4), (3, .int (nI (7 * cm))), (0, .ref (g.2.1 49)), (1, .int 2), (2, .int sm)] dX10_readCommand_45 rfl (by decide) (by decide) rfl ?_
  refine x_goto 28 dX10_readCommand_48 (by decide) ?_
  refine x_iload dX10_readCommand_28 0 rfl ?_
  refine x_bipush (v := 7) dX10_readCommand_30 (by decide) ?_
  refine x_icmp_ge 51 dX10_readCommand_32 (by decide) (fun c16 => by exfalso; revert c16; decide) (fun c16 => ?_)
  refine x_aload_n dX10_readCommand_35 2 rfl ?_
  refine x_getR fl_X10_41 rfl rfl dX10_readCommand_36 ?_
  refine x_iload_n dX10_readCommand_39 1 rfl ?_
  refine x_iload dX10_readCommand_40 0 rfl ?_
  refine x_iadd dX10_readCommand_42 ?_
  refine x_iconst (v := 0) dX10_readCommand_43 (by decide) ?_
  have q17 : ((nI (7 * cm)) + 4 : Int32) = nI ((7 * cm) + 4) := nadd (rfl) (rfl)
  refine YY.S (st' := [.int 0, .int (nI ((7 * cm) + 4)), .ref (g.2.1 60)]) (by rw [q17]) ?_
  have b18 : vp_in (nI ((7 * cm) + 4)) 840 := by exact vp_in_nI (by omega) (by decide)
  refine x_iast rfl b18 dX10_readCommand_44 ?_
  refine YY.V (V' := uM U15 60 ((7 * cm) + 4) 0) (by rw [nI_clamp (by omega)]) ?_
  obtain ⟨U19, eU19⟩ : ∃ v_v : vM, v_v = uM U15 60 ((7 * cm) + 4) 0 := ⟨_, rfl⟩
  refine YY.V eU19.symm ?_
  refine x_iinc 4 (v := 5) 0 [(4, .int 5), (3, .int (nI (7 * cm))), (0, .ref (g.2.1 49)), (1, .int 2), (2, .int sm)] dX10_readCommand_45 rfl (by decide) (by decide) rfl ?_
  refine x_goto 28 dX10_readCommand_48 (by decide) ?_
  refine x_iload dX10_readCommand_28 0 rfl ?_
  refine x_bipush (v := 7) dX10_readCommand_30 (by decide) ?_
  refine x_icmp_ge 51 dX10_readCommand_32 (by decide) (fun c20 => by exfalso; revert c20; decide) (fun c20 => ?_)
  refine x_aload_n dX10_readCommand_35 2 rfl ?_
  refine x_getR fl_X10_41 rfl rfl dX10_readCommand_36 ?_
  refine x_iload_n dX10_readCommand_39 1 rfl ?_
  refine x_iload dX10_readCommand_40 0 rfl ?_
  refine x_iadd dX10_readCommand_42 ?_
  refine x_iconst (v := 0) dX10_readCommand_43 (by decide) ?_
  have q21 : ((nI (7 * cm)) + 5 : Int32) = nI ((7 * cm) + 5) := nadd (rfl) (rfl)
  refine YY.S (st' := [.int 0, .int (nI ((7 * cm) + 5)), .ref (g.2.1 60)]) (by rw [q21]) ?_
  have b22 : vp_in (nI ((7 * cm) + 5)) 840 := by exact vp_in_nI (by omega) (by decide)
  refine x_iast rfl b22 dX10_readCommand_44 ?_
  refine YY.V (V' := uM U19 60 ((7 * cm) + 5) 0) (by rw [nI_clamp (by omega)]) ?_
  obtain ⟨U23, eU23⟩ : ∃ v_v : vM, v_v = uM U19 60 ((7 * cm) + 5) 0 := ⟨_, rfl⟩
  refine YY.V eU23.symm ?_
  refine x_iinc 4 (v := 6) 0 [(4, .int 6), (3, .int (nI (7 * cm))), (0, .ref (g.2.1 49)), (1, .int 2), (2, .int sm)] dX10_readCommand_45 rfl (by decide) (by decide) rfl ?_
  refine x_goto 28 dX10_readCommand_48 (by decide) ?_
  refine x_iload dX10_readCommand_28 0 rfl ?_
  refine x_bipush (v := 7) dX10_readCommand_30 (by decide) ?_
  refine x_icmp_ge 51 dX10_readCommand_32 (by decide) (fun c24 => by exfalso; revert c24; decide) (fun c24 => ?_)
  refine x_aload_n dX10_readCommand_35 2 rfl ?_
  refine x_getR fl_X10_41 rfl rfl dX10_readCommand_36 ?_
  refine x_iload_n dX10_readCommand_39 1 rfl ?_
  refine x_iload dX10_readCommand_40 0 rfl ?_
  refine x_iadd dX10_readCommand_42 ?_
  refine x_iconst (v := 0) dX10_readCommand_43 (by decide) ?_
  have q25 : ((nI (7 * cm)) + 6 : Int32) = nI ((7 * cm) + 6) := nadd (rfl) (rfl)
  refine YY.S (st' := [.int 0, .int (nI ((7 * cm) + 6)), .ref (g.2.1 60)]) (by rw [q25]) ?_
  have b26 : vp_in (nI ((7 * cm) + 6)) 840 := by exact vp_in_nI (by omega) (by decide)
  refine x_iast rfl b26 dX10_readCommand_44 ?_
  refine YY.V (V' := uM U23 60 ((7 * cm) + 6) 0) (by rw [nI_clamp (by omega)]) ?_
  obtain ⟨U27, eU27⟩ : ∃ v_v : vM, v_v = uM U23 60 ((7 * cm) + 6) 0 := ⟨_, rfl⟩
  refine YY.V eU27.symm ?_
  refine x_iinc 4 (v := 7) 0 [(4, .int 7), (3, .int (nI (7 * cm))), (0, .ref (g.2.1 49)), (1, .int 2), (2, .int sm)] dX10_readCommand_45 rfl (by decide) (by decide) rfl ?_
  refine x_goto 28 dX10_readCommand_48 (by decide) ?_
  refine x_iload dX10_readCommand_28 0 rfl ?_
  refine x_bipush (v := 7) dX10_readCommand_30 (by decide) ?_
  refine x_icmp_ge 51 dX10_readCommand_32 (by decide) (fun c28 => ?_) (fun c28 => by exfalso; revert c28; decide)
  have hM0 : MR U27 P n (a + 1) := (((((((hMR.at eU1 (by omega)).row eU3).row eU7).row eU11).row eU15).row eU19).row eU23).row eU27
  have h19_0 : U27 49 19 = 0 := by rw [eU27, uM_na (by decide), eU23, uM_na (by decide), eU19, uM_na (by decide), eU15, uM_na (by decide), eU11, uM_na (by decide), eU7, uM_na (by decide), eU3, uM_na (by decide), eU1, uM_ni (by decide)]; exact h19
  have h21_0 : U27 49 21 = nI cm := by rw [eU27, uM_na (by decide), eU23, uM_na (by decide), eU19, uM_na (by decide), eU15, uM_na (by decide), eU11, uM_na (by decide), eU7, uM_na (by decide), eU3, uM_na (by decide), eU1, uM_ni (by decide)]; exact h21
  have hx_0 : U27 49 23 = x := by rw [eU27, uM_na (by decide), eU23, uM_na (by decide), eU19, uM_na (by decide), eU15, uM_na (by decide), eU11, uM_na (by decide), eU7, uM_na (by decide), eU3, uM_na (by decide), eU1, uM_ni (by decide)]; exact hx
  have hy_0 : U27 49 24 = y := by rw [eU27, uM_na (by decide), eU23, uM_na (by decide), eU19, uM_na (by decide), eU15, uM_na (by decide), eU11, uM_na (by decide), eU7, uM_na (by decide), eU3, uM_na (by decide), eU1, uM_ni (by decide)]; exact hy
  have h22_0 : U27 49 22 = bP (¬ alR O (7 * cm)) := by rw [eU27, uM_na (by decide), eU23, uM_na (by decide), eU19, uM_na (by decide), eU15, uM_na (by decide), eU11, uM_na (by decide), eU7, uM_na (by decide), eU3, uM_na (by decide), eU1, uM_ni (by decide)]; exact h22
  have w0_0 : U27 60 (7 * cm) = 2 := by rw [eU27, uM_ni (by omega), eU23, uM_ni (by omega), eU19, uM_ni (by omega), eU15, uM_ni (by omega), eU11, uM_ni (by omega), eU7, uM_ni (by omega), eU3, uM_hit]
  have w1_0 : U27 60 (7 * cm + 1) = 0 := by rw [eU27, uM_ni (by omega), eU23, uM_ni (by omega), eU19, uM_ni (by omega), eU15, uM_ni (by omega), eU11, uM_ni (by omega), eU7, uM_hit]
  have w2_0 : U27 60 (7 * cm + 2) = 0 := by rw [eU27, uM_ni (by omega), eU23, uM_ni (by omega), eU19, uM_ni (by omega), eU15, uM_ni (by omega), eU11, uM_hit]
  have w3_0 : U27 60 (7 * cm + 3) = 0 := by rw [eU27, uM_ni (by omega), eU23, uM_ni (by omega), eU19, uM_ni (by omega), eU15, uM_hit]
  have w4_0 : U27 60 (7 * cm + 4) = 0 := by rw [eU27, uM_ni (by omega), eU23, uM_ni (by omega), eU19, uM_hit]
  have w5_0 : U27 60 (7 * cm + 5) = 0 := by rw [eU27, uM_ni (by omega), eU23, uM_hit]
  have w6_0 : U27 60 (7 * cm + 6) = 0 := by rw [eU27, uM_hit]
  have hO_0 : ∀ j, j < 7 * cm → U27 60 j = O j := fun j hj => by rw [eU27, uM_ni (by omega), eU23, uM_ni (by omega), eU19, uM_ni (by omega), eU15, uM_ni (by omega), eU11, uM_ni (by omega), eU7, uM_ni (by omega), eU3, uM_ni (by omega), eU1, uM_na (by decide)]; exact hO j hj
  have hF_0 : frC V U27 := ((((((((frC.refl V).st eU1 (Or.inl rfl)).row eU3).row eU7).row eU11).row eU15).row eU19).row eU23).row eU27
  refine x_iload_n dX10_readCommand_51 3 rfl ?_
  refine x_iconst (v := 2) dX10_readCommand_52 (by decide) ?_
  refine x_icmp_ne 60 dX10_readCommand_53 (by decide) (fun c29 => by exfalso; revert c29; decide) (fun c29 => ?_)
  refine x_iconst (v := 1) dX10_readCommand_56 (by decide) ?_
  refine x_goto 70 dX10_readCommand_57 (by decide) ?_
  refine x_istore 4 [(4, .int 1), (3, .int (nI (7 * cm))), (0, .ref (g.2.1 49)), (1, .int 2), (2, .int sm)] dX10_readCommand_70 (by decide) rfl ?_
  refine x_iconst (v := 0) dX10_readCommand_72 (by decide) ?_
  refine x_istore 5 [(5, .int 0), (4, .int 1), (3, .int (nI (7 * cm))), (0, .ref (g.2.1 49)), (1, .int 2), (2, .int sm)] dX10_readCommand_73 (by decide) rfl ?_
  refine x_iload dX10_readCommand_75 0 rfl ?_
  refine x_iload dX10_readCommand_77 1 rfl ?_
  refine x_icmp_ge 119 dX10_readCommand_79 (by decide) (fun c30 => by exfalso; revert c30; decide) (fun c30 => ?_)
  refine x_aload_n dX10_readCommand_82 3 rfl ?_
  refine x_getI fl_X10_143 rfl rfl dX10_readCommand_83 ?_
  refine x_topi (y := V 49 19) (by rw [eU27, uM_na (by decide), eU23, uM_na (by decide), eU19, uM_na (by decide), eU15, uM_na (by decide), eU11, uM_na (by decide), eU7, uM_na (by decide), eU3, uM_na (by decide), eU1, uM_ni (by decide)]) ?_
  refine x_topi (h19) ?_
  refine x_if_ne 119 dX10_readCommand_86 (by decide) (fun c31 => by exfalso; revert c31; decide) (fun c31 => ?_)
  refine x_aload_n dX10_readCommand_89 3 rfl ?_
  refine x_iload_n dX10_readCommand_90 2 rfl ?_
  refine x_iconst (v := 1) dX10_readCommand_91 (by decide) ?_
  refine x_iadd dX10_readCommand_92 ?_
  refine x_iconst (v := 2) dX10_readCommand_93 (by decide) ?_
  refine x_iload dX10_readCommand_94 0 rfl ?_
  refine x_imul dX10_readCommand_96 ?_
  refine x_topi (y := 0) (by decide) ?_
  refine x_iadd dX10_readCommand_97 ?_
  refine x_topi (y := nI (7 * cm + 1)) ((nadd (nadd rfl (b := 1) rfl) (b := 0) rfl).trans (congrArg nI (by omega))) ?_
  refine x_iload_n dX10_readCommand_98 5 rfl ?_
  refine x_callV (K := jX10_readPair) [.int (nI (7 * cm + 1)), .int sm] lk_X10_165 ⟨⟨rfl, rfl⟩, Nat.le_of_ble_eq_true rfl, Nat.le_of_ble_eq_true rfl⟩ rfl rfl (mX10_readPair hM0 h19_0 hs (by decide) hsm hx_0 hy_0 h22_0 (7 * cm + 1) (by omega)) rfl (Nat.le_of_ble_eq_true rfl) rfl dX10_readCommand_99 (keV fun U32 hU33 => ?_)
  obtain ⟨hT_1, a_1, hM1, hR_1⟩ := hU33
  have h21_1 : U32 49 21 = nI cm := (hT_1 49 21 (by decide) (fun w => absurd w.1 (by decide))).trans h21_0
  have hx_1 : U32 49 23 = x := (hT_1 49 23 (by decide) (fun w => absurd w.1 (by decide))).trans hx_0
  have hy_1 : U32 49 24 = y := (hT_1 49 24 (by decide) (fun w => absurd w.1 (by decide))).trans hy_0
  have w0_1 := (hT_1 (60) (7 * cm) (fun w => absurd w.1 (by decide)) (fun w => by omega)).trans w0_0
  have w3_1 := (hT_1 (60) (7 * cm + 3) (fun w => absurd w.1 (by decide)) (fun w => by omega)).trans w3_0
  have w4_1 := (hT_1 (60) (7 * cm + 4) (fun w => absurd w.1 (by decide)) (fun w => by omega)).trans w4_0
  have w5_1 := (hT_1 (60) (7 * cm + 5) (fun w => absurd w.1 (by decide)) (fun w => by omega)).trans w5_0
  have w6_1 := (hT_1 (60) (7 * cm + 6) (fun w => absurd w.1 (by decide)) (fun w => by omega)).trans w6_0
  have hO_1 : ∀ j, j < 7 * cm → U32 60 j = O j := fun j hj => (hT_1 60 j (fun w => absurd w.1 (by decide)) (fun w => by omega)).trans (hO_0 j hj)
  have hF_1 := hF_0.trans hT_1.C
  refine x_aload_n dX10_readCommand_102 3 rfl ?_
  refine x_getI fl_X10_143 rfl rfl dX10_readCommand_103 ?_
  refine x_if_ne 113 dX10_readCommand_106 (by decide) (fun c34 => ?_) (fun c34 => ?_)
  · refine x_iinc 5 (v := 1) 0 [(5, .int 1), (4, .int 1), (3, .int (nI (7 * cm))), (0, .ref (g.2.1 49)), (1, .int 2), (2, .int sm)] dX10_readCommand_113 rfl (by decide) (by decide) rfl ?_
    refine x_goto 75 dX10_readCommand_116 (by decide) ?_
    refine x_iload dX10_readCommand_75 0 rfl ?_
    refine x_iload dX10_readCommand_77 1 rfl ?_
    refine x_icmp_ge 119 dX10_readCommand_79 (by decide) (fun c35 => ?_) (fun c35 => by exfalso; revert c35; decide)
    refine x_aload_n dX10_readCommand_119 3 rfl ?_
    refine x_getI fl_X10_143 rfl rfl dX10_readCommand_120 ?_
    refine x_if_ne 159 dX10_readCommand_123 (by decide) (fun c36 => ?_) (fun c36 => by exfalso; exact absurd c36 (by assumption))
    refine x_aload_n dX10_readCommand_159 3 rfl ?_
    refine x_dup dX10_readCommand_160 rfl ?_
    refine x_getI fl_X10_162 rfl rfl dX10_readCommand_161 ?_
    refine x_topi (h21_1) ?_
    refine x_iconst (v := 1) dX10_readCommand_164 (by decide) ?_
    refine x_iadd dX10_readCommand_165 ?_
    refine x_putI fp_X10_162 rfl rfl dX10_readCommand_166 ?_
    obtain ⟨U37, eU37⟩ : ∃ v_v : vM, v_v = uM U32 49 21 ((nI cm) + 1) := ⟨_, rfl⟩
    refine YY.V eU37.symm ?_
    refine x_vret dX10_readCommand_169 rfl ?_
    rw [hQ]
    have hB := hR_1.resolve_right (fun q => absurd q.1 (by assumption))
    exact ⟨rfl, hF_1.st eU37 (by decide), a_1, hM1.set eU37 (by decide) (by decide), Or.inl ⟨by rw [eU37, uM_ni (by decide)]; exact hB.1, hB.2⟩⟩
  · obtain ⟨h19_1, v_1, d_1, n_1, x_1, hd_1, hs_1, hN_1, w1_1, w2_1, h22_1⟩ := hR_1.resolve_left (fun q => absurd (q.1.symm.trans (by assumption)) (by decide))
    refine x_aload_n dX10_readCommand_109 3 rfl ?_
    refine x_callV (K := jX10_readComma) [] lk_X10_150 ⟨⟨rfl, rfl⟩, Nat.le_of_ble_eq_true rfl, Nat.le_of_ble_eq_true rfl⟩ rfl rfl (mX10_readComma hM1 h19_1 hs_1 hd_1 (by decide) hN_1) rfl (Nat.le_of_ble_eq_true rfl) rfl dX10_readCommand_110 (keV fun U38 hU39 => ?_)
    obtain ⟨hT_2, a_2, hM2, hR_2⟩ := hU39
    have h21_2 : U38 49 21 = nI cm := (hT_2 49 21 (by decide)).trans h21_1
    have hx_2 : U38 49 23 = x := (hT_2 49 23 (by decide)).trans hx_1
    have hy_2 : U38 49 24 = y := (hT_2 49 24 (by decide)).trans hy_1
    have w0_2 := (hT_2 (60) (7 * cm) (fun w => absurd w.1 (by decide))).trans w0_1
    have w1_2 := (hT_2 (60) (7 * cm + 1) (fun w => absurd w.1 (by decide))).trans w1_1
    have w2_2 := (hT_2 (60) (7 * cm + 2) (fun w => absurd w.1 (by decide))).trans w2_1
    have w3_2 := (hT_2 (60) (7 * cm + 3) (fun w => absurd w.1 (by decide))).trans w3_1
    have w4_2 := (hT_2 (60) (7 * cm + 4) (fun w => absurd w.1 (by decide))).trans w4_1
    have w5_2 := (hT_2 (60) (7 * cm + 5) (fun w => absurd w.1 (by decide))).trans w5_1
    have w6_2 := (hT_2 (60) (7 * cm + 6) (fun w => absurd w.1 (by decide))).trans w6_1
    have hO_2 : ∀ j, j < 7 * cm → U38 60 j = O j := fun j hj => (hT_2 60 j (fun w => absurd w.1 (by decide))).trans (hO_1 j hj)
    have hF_2 := hF_1.trans hT_2.C
    have h22_2 := (hT_2 49 22 (by decide)).trans h22_1
    refine x_iinc 5 (v := 1) 0 [(5, .int 1), (4, .int 1), (3, .int (nI (7 * cm))), (0, .ref (g.2.1 49)), (1, .int 2), (2, .int sm)] dX10_readCommand_113 rfl (by decide) (by decide) rfl ?_
    refine x_goto 75 dX10_readCommand_116 (by decide) ?_
    refine x_iload dX10_readCommand_75 0 rfl ?_
    refine x_iload dX10_readCommand_77 1 rfl ?_
    refine x_icmp_ge 119 dX10_readCommand_79 (by decide) (fun c40 => ?_) (fun c40 => by exfalso; revert c40; decide)
    refine x_aload_n dX10_readCommand_119 3 rfl ?_
    refine x_getI fl_X10_143 rfl rfl dX10_readCommand_120 ?_
    refine x_if_ne 159 dX10_readCommand_123 (by decide) (fun c41 => ?_) (fun c41 => ?_)
    · refine x_aload_n dX10_readCommand_159 3 rfl ?_
      refine x_dup dX10_readCommand_160 rfl ?_
      refine x_getI fl_X10_162 rfl rfl dX10_readCommand_161 ?_
      refine x_topi (h21_2) ?_
      refine x_iconst (v := 1) dX10_readCommand_164 (by decide) ?_
      refine x_iadd dX10_readCommand_165 ?_
      refine x_putI fp_X10_162 rfl rfl dX10_readCommand_166 ?_
      obtain ⟨U42, eU42⟩ : ∃ v_v : vM, v_v = uM U38 49 21 ((nI cm) + 1) := ⟨_, rfl⟩
      refine YY.V eU42.symm ?_
      refine x_vret dX10_readCommand_169 rfl ?_
      rw [hQ]
      have hB := hR_2.resolve_right (fun q => absurd q.1 (by assumption))
      exact ⟨rfl, hF_2.st eU42 (by decide), a_2, hM2.set eU42 (by decide) (by decide), Or.inl ⟨by rw [eU42, uM_ni (by decide)]; exact hB.1, hB.2⟩⟩
    · obtain ⟨h19_2, hs_2⟩ := hR_2.resolve_left (fun q => absurd (q.1.symm.trans (by assumption)) (by decide))
      refine x_aload_n dX10_readCommand_126 3 rfl ?_
      refine x_iload_n dX10_readCommand_127 2 rfl ?_
      refine x_iconst (v := 5) dX10_readCommand_128 (by decide) ?_
      refine x_iadd dX10_readCommand_129 ?_
      refine x_topi (y := nI (7 * cm + 5)) (nadd rfl (b := 5) rfl) ?_
      refine x_iload_n dX10_readCommand_130 5 rfl ?_
      refine x_callV (K := jX10_readPair) [.int (nI (7 * cm + 5)), .int sm] lk_X10_165 ⟨⟨rfl, rfl⟩, Nat.le_of_ble_eq_true rfl, Nat.le_of_ble_eq_true rfl⟩ rfl rfl (mX10_readPair hM2 h19_2 hs_2 (by decide) hsm hx_2 hy_2 h22_2 (7 * cm + 5) (by omega)) rfl (Nat.le_of_ble_eq_true rfl) rfl dX10_readCommand_131 (keV fun U43 hU44 => ?_)
      obtain ⟨hT_3, a_3, hM3, hR_3⟩ := hU44
      have h21_3 : U43 49 21 = nI cm := (hT_3 49 21 (by decide) (fun w => absurd w.1 (by decide))).trans h21_2
      have hx_3 : U43 49 23 = x := (hT_3 49 23 (by decide) (fun w => absurd w.1 (by decide))).trans hx_2
      have hy_3 : U43 49 24 = y := (hT_3 49 24 (by decide) (fun w => absurd w.1 (by decide))).trans hy_2
      have w0_3 := (hT_3 (60) (7 * cm) (fun w => absurd w.1 (by decide)) (fun w => by omega)).trans w0_2
      have w1_3 := (hT_3 (60) (7 * cm + 1) (fun w => absurd w.1 (by decide)) (fun w => by omega)).trans w1_2
      have w2_3 := (hT_3 (60) (7 * cm + 2) (fun w => absurd w.1 (by decide)) (fun w => by omega)).trans w2_2
      have w3_3 := (hT_3 (60) (7 * cm + 3) (fun w => absurd w.1 (by decide)) (fun w => by omega)).trans w3_2
      have w4_3 := (hT_3 (60) (7 * cm + 4) (fun w => absurd w.1 (by decide)) (fun w => by omega)).trans w4_2
      have hO_3 : ∀ j, j < 7 * cm → U43 60 j = O j := fun j hj => (hT_3 60 j (fun w => absurd w.1 (by decide)) (fun w => by omega)).trans (hO_2 j hj)
      have hF_3 := hF_2.trans hT_3.C
      refine x_aload_n dX10_readCommand_134 3 rfl ?_
      refine x_aload_n dX10_readCommand_135 3 rfl ?_
      refine x_getR fl_X10_41 rfl rfl dX10_readCommand_136 ?_
      refine x_iload_n dX10_readCommand_139 2 rfl ?_
      refine x_iconst (v := 5) dX10_readCommand_140 (by decide) ?_
      refine x_iadd dX10_readCommand_141 ?_
      have q45 : ((nI (7 * cm)) + 5 : Int32) = nI ((7 * cm) + 5) := nadd (rfl) (rfl)
      refine YY.S (st' := [.int (nI ((7 * cm) + 5)), .ref (g.2.1 60), .ref (g.2.1 49)]) (by rw [q45]) ?_
      have b46 : vp_in (nI ((7 * cm) + 5)) 840 := by exact vp_in_nI (by omega) (by decide)
      refine x_iald rfl b46 dX10_readCommand_142 ?_
      refine x_topi (y := U43 60 ((7 * cm) + 5)) (by rw [nI_clamp (by omega)]) ?_
      refine x_putI fp_X10_153 rfl rfl dX10_readCommand_143 ?_
      obtain ⟨U47, eU47⟩ : ∃ v_v : vM, v_v = uM U43 49 23 (U43 60 ((7 * cm) + 5)) := ⟨_, rfl⟩
      refine YY.V eU47.symm ?_
      refine x_aload_n dX10_readCommand_146 3 rfl ?_
      refine x_aload_n dX10_readCommand_147 3 rfl ?_
      refine x_getR fl_X10_41 rfl rfl dX10_readCommand_148 ?_
      refine x_iload_n dX10_readCommand_151 2 rfl ?_
      refine x_bipush (v := 6) dX10_readCommand_152 (by decide) ?_
      refine x_iadd dX10_readCommand_154 ?_
      have q48 : ((nI (7 * cm)) + 6 : Int32) = nI ((7 * cm) + 6) := nadd (rfl) (rfl)
      refine YY.S (st' := [.int (nI ((7 * cm) + 6)), .ref (g.2.1 60), .ref (g.2.1 49)]) (by rw [q48]) ?_
      have b49 : vp_in (nI ((7 * cm) + 6)) 840 := by exact vp_in_nI (by omega) (by decide)
      refine x_iald rfl b49 dX10_readCommand_155 ?_
      refine x_topi (y := U47 60 ((7 * cm) + 6)) (by rw [nI_clamp (by omega)]) ?_
      refine x_topi (y := U43 60 ((7 * cm) + 6)) (by rw [eU47, uM_na (by decide)]) ?_
      refine x_putI fp_X10_156 rfl rfl dX10_readCommand_156 ?_
      obtain ⟨U50, eU50⟩ : ∃ v_v : vM, v_v = uM U47 49 24 (U43 60 ((7 * cm) + 6)) := ⟨_, rfl⟩
      refine YY.V eU50.symm ?_
      refine x_aload_n dX10_readCommand_159 3 rfl ?_
      refine x_dup dX10_readCommand_160 rfl ?_
      refine x_getI fl_X10_162 rfl rfl dX10_readCommand_161 ?_
      refine x_topi (y := U43 49 21) (by rw [eU50, uM_ni (by decide), eU47, uM_ni (by decide)]) ?_
      refine x_topi (h21_3) ?_
      refine x_iconst (v := 1) dX10_readCommand_164 (by decide) ?_
      refine x_iadd dX10_readCommand_165 ?_
      refine x_putI fp_X10_162 rfl rfl dX10_readCommand_166 ?_
      obtain ⟨U51, eU51⟩ : ∃ v_v : vM, v_v = uM U50 49 21 ((nI cm) + 1) := ⟨_, rfl⟩
      refine YY.V eU51.symm ?_
      refine x_vret dX10_readCommand_169 rfl ?_
      rw [hQ]
      refine ⟨rfl, ((hF_3.st eU47 (by decide)).st eU50 (by decide)).st eU51 (by decide), a_3, ((hM3.set eU47 (by decide) (by decide)).set eU50 (by decide) (by decide)).set eU51 (by decide) (by decide), ?_⟩
      have hW : U51 49 19 = U43 49 19 := by rw [eU51, uM_ni (by decide), eU50, uM_ni (by decide), eU47, uM_ni (by decide)]
      rcases hR_3 with hB | hG
      · exact Or.inl ⟨hW.trans hB.1, hB.2⟩
      · skip
        obtain ⟨h19_3, v_3, d_3, n_3, x_3, hd_3, hs_3, hN_3, w5_3, w6_3, h22_3⟩ := hG
        have h60 : ∀ i, U51 60 i = U43 60 i := fun i => by rw [eU51, uM_na (by decide), eU50, uM_na (by decide), eU47, uM_na (by decide)]
        refine Or.inr ⟨hW.trans h19_3, n_3, 3, v_3, d_3, (upd (upd (upd X 0 x_1) 1 (rSg v_1 n_1)) 2 x_3), hs_3, hd_3, rfl, hN_3, RDM_fc (G := ((alR O (7 * cm) ∧ inR (x_1 + rXs sm x) ∧ inR (rSg v_1 n_1 + rXs sm y)) ∧ inR (x_3 + rXs sm x) ∧ inR (rSg v_3 n_3 + rXs sm y))) (by decide) ?_ ?_ ?_ (fun j hj => (h60 j).trans (hO_3 j hj)) ?_ ?_ ?_⟩
        · rw [eU51, uM_hit, nI_1]
        · rw [h60, eU51, uM_ni (by decide), eU50, uM_ni (by decide), eU47, uM_hit]
        · rw [h60, eU51, uM_ni (by decide), eU50, uM_hit]
        · intro p hp
          have e0 : rX2 2 sm n_3 3 v_3 x y (upd (upd (upd X 0 x_1) 1 (rSg v_1 n_1)) 2 x_3) 0 = x_1 + rXs sm x := by rw [rX2_e (by decide)]; simp [upd]
          have e1 : rX2 2 sm n_3 3 v_3 x y (upd (upd (upd X 0 x_1) 1 (rSg v_1 n_1)) 2 x_3) 1 = rSg v_1 n_1 + rXs sm y := by rw [rX2_e (by decide)]; simp [upd]
          have e2 : rX2 2 sm n_3 3 v_3 x y (upd (upd (upd X 0 x_1) 1 (rSg v_1 n_1)) 2 x_3) 2 = x_3 + rXs sm x := by rw [rX2_e (by decide)]; simp [upd]
          have e3 : rX2 2 sm n_3 3 v_3 x y (upd (upd (upd X 0 x_1) 1 (rSg v_1 n_1)) 2 x_3) 3 = rSg v_3 n_3 + rXs sm y := by rw [rX2_e (by decide)]; simp [upd]
          rcases (show p = 0 ∨ p = 1 ∨ p = 2 ∨ p = 3 ∨ p = 4 ∨ p = 5 ∨ p = 6 by omega) with h | h | h | h | h | h | h
          · rw [h, h60]; exact w0_3
          · rw [h, h60]; exact w1_3.trans e0.symm
          · rw [h, h60]; exact w2_3.trans e1.symm
          · rw [h, h60]; exact w3_3
          · rw [h, h60]; exact w4_3
          · rw [h, h60]; exact w5_3.trans e2.symm
          · rw [h, h60]; exact w6_3.trans e3.symm
        · rw [eU51, uM_ni (by decide), eU50, uM_ni (by decide), eU47, uM_ni (by decide)]; exact h22_3
        · constructor
          · intro q
            refine ⟨q.1.1, fun p p1 p7 => ?_⟩
            rcases (show p = 1 ∨ p = 2 ∨ p = 3 ∨ p = 4 ∨ p = 5 ∨ p = 6 by omega) with h | h | h | h | h | h
            · rw [h, h60, w1_3]; exact q.1.2.1
            · rw [h, h60, w2_3]; exact q.1.2.2
            · rw [h, h60, w3_3]; exact inR0
            · rw [h, h60, w4_3]; exact inR0
            · rw [h, h60, w5_3]; exact q.2.1
            · rw [h, h60, w6_3]; exact q.2.2
          · rintro ⟨g0, gp⟩
            have g0a := gp 1 (by omega) (by omega)
            rw [h60, w1_3] at g0a
            have g0b := gp 2 (by omega) (by omega)
            rw [h60, w2_3] at g0b
            have g1a := gp 5 (by omega) (by omega)
            rw [h60, w5_3] at g1a
            have g1b := gp 6 (by omega) (by omega)
            rw [h60, w6_3] at g1b
            exact ⟨⟨g0, g0a, g0b⟩, g1a, g1b⟩
set_option maxHeartbeats 4000000 in
set_option maxRecDepth 100000 in
theorem mX10_readCommand3 {g : gX} {V : vM} {P : Nat → Int32} {n a : Nat} {sm : Int32} {cm : Nat} {x y sx sy : Int32} {X O : Nat → Int32} (hMR : MR V P n a) (hl : a < n) (h19 : V 49 19 = 0) (hsm : sm = 0 ∨ sm = 1) (hcm : cm ≤ a) (h21 : V 49 21 = nI cm) (hx : V 49 23 = x) (hy : V 49 24 = y) (h22 : V 49 22 = bP (¬ alR O (7 * cm))) (hO : ∀ j, j < 7 * cm → V 60 j = O j) (hs : rRun P (a + 1) = some ((3, sm, 0), (0, 0, 0, cm), (x, y, sx, sy), X, O)) : MM g jX10_readCommand V [.ref (g.2.1 49), .int 3, .int sm] (eV (CmdP V P n 3 sm cm x y sx sy O)) := by
  refine MM.of plX10_readCommand (Nat.le_of_ble_eq_true rfl) ?_
  obtain ⟨Q, hQ⟩ : ∃ Q : Option Value → vM → Prop, Q = (eV (CmdP V P n 3 sm cm x y sx sy O)) := ⟨_, rfl⟩
  rw [← hQ]
  show XX g jX10_readCommand Q V 0 [(0, .ref (g.2.1 49)), (1, .int 3), (2, .int sm)] []
  have han := hMR.2.2.2.1
  have hn120 := hMR.2.2.2.2
  refine x_aload_n dX10_readCommand_0 0 rfl ?_
  refine x_dup dX10_readCommand_1 rfl ?_
  refine x_getI fl_X10_137 rfl rfl dX10_readCommand_2 ?_
  refine x_topi (hMR.2.2.1) ?_
  refine x_iconst (v := 1) dX10_readCommand_5 (by decide) ?_
  refine x_iadd dX10_readCommand_6 ?_
  refine x_topi (y := nI (a + 1)) (by rw [nI_1]) ?_
  refine x_putI fp_X10_137 rfl rfl dX10_readCommand_7 ?_
  obtain ⟨U1, eU1⟩ : ∃ v_v : vM, v_v = uM V 49 18 (nI (a + 1)) := ⟨_, rfl⟩
  refine YY.V eU1.symm ?_
  refine x_bipush (v := 7) dX10_readCommand_10 (by decide) ?_
  refine x_aload_n dX10_readCommand_12 0 rfl ?_
  refine x_getI fl_X10_162 rfl rfl dX10_readCommand_13 ?_
  refine x_topi (y := V 49 21) (by rw [eU1, uM_ni (by decide)]) ?_
  refine x_topi (h21) ?_
  refine x_imul dX10_readCommand_16 ?_
  refine x_topi (y := nI (7 * cm)) (nmul (a := 7) rfl rfl) ?_
  refine x_istore_n 3 [(3, .int (nI (7 * cm))), (0, .ref (g.2.1 49)), (1, .int 3), (2, .int sm)] dX10_readCommand_17 rfl (by decide) rfl ?_
  refine x_aload_n dX10_readCommand_18 1 rfl ?_
  refine x_getR fl_X10_41 rfl rfl dX10_readCommand_19 ?_
  refine x_iload_n dX10_readCommand_22 0 rfl ?_
  refine x_iload_n dX10_readCommand_23 2 rfl ?_
  have b2 : vp_in (nI (7 * cm)) 840 := by exact vp_in_nI (by omega) (by decide)
  refine x_iast rfl b2 dX10_readCommand_24 ?_
  refine YY.V (V' := uM U1 60 (7 * cm) 3) (by rw [nI_clamp (by omega)]) ?_
  obtain ⟨U3, eU3⟩ : ∃ v_v : vM, v_v = uM U1 60 (7 * cm) 3 := ⟨_, rfl⟩
  refine YY.V eU3.symm ?_
  refine x_iconst (v := 1) dX10_readCommand_25 (by decide) ?_
  refine x_istore 4 [(4, .int 1), (3, .int (nI (7 * cm))), (0, .ref (g.2.1 49)), (1, .int 3), (2, .int sm)] dX10_readCommand_26 (by decide) rfl ?_
  refine x_iload dX10_readCommand_28 0 rfl ?_
  refine x_bipush (v := 7) dX10_readCommand_30 (by decide) ?_
  refine x_icmp_ge 51 dX10_readCommand_32 (by decide) (fun c4 => by exfalso; revert c4; decide) (fun c4 => ?_)
  refine x_aload_n dX10_readCommand_35 2 rfl ?_
  refine x_getR fl_X10_41 rfl rfl dX10_readCommand_36 ?_
  refine x_iload_n dX10_readCommand_39 1 rfl ?_
  refine x_iload dX10_readCommand_40 0 rfl ?_
  refine x_iadd dX10_readCommand_42 ?_
  refine x_iconst (v := 0) dX10_readCommand_43 (by decide) ?_
  have q5 : ((nI (7 * cm)) + 1 : Int32) = nI ((7 * cm) + 1) := nadd (rfl) (rfl)
  refine YY.S (st' := [.int 0, .int (nI ((7 * cm) + 1)), .ref (g.2.1 60)]) (by rw [q5]) ?_
  have b6 : vp_in (nI ((7 * cm) + 1)) 840 := by exact vp_in_nI (by omega) (by decide)
  refine x_iast rfl b6 dX10_readCommand_44 ?_
  refine YY.V (V' := uM U3 60 ((7 * cm) + 1) 0) (by rw [nI_clamp (by omega)]) ?_
  obtain ⟨U7, eU7⟩ : ∃ v_v : vM, v_v = uM U3 60 ((7 * cm) + 1) 0 := ⟨_, rfl⟩
  refine YY.V eU7.symm ?_
  refine x_iinc 4 (v := 2) 0 [(4, .int 2), (3, .int (nI (7 * cm))), (0, .ref (g.2.1 49)), (1, .int 3), (2, .int sm)] dX10_readCommand_45 rfl (by decide) (by decide) rfl ?_
  refine x_goto 28 dX10_readCommand_48 (by decide) ?_
  refine x_iload dX10_readCommand_28 0 rfl ?_
  refine x_bipush (v := 7) dX10_readCommand_30 (by decide) ?_
  refine x_icmp_ge 51 dX10_readCommand_32 (by decide) (fun c8 => by exfalso; revert c8; decide) (fun c8 => ?_)
  refine x_aload_n dX10_readCommand_35 2 rfl ?_
  refine x_getR fl_X10_41 rfl rfl dX10_readCommand_36 ?_
  refine x_iload_n dX10_readCommand_39 1 rfl ?_
  refine x_iload dX10_readCommand_40 0 rfl ?_
  refine x_iadd dX10_readCommand_42 ?_
  refine x_iconst (v := 0) dX10_readCommand_43 (by decide) ?_
  have q9 : ((nI (7 * cm)) + 2 : Int32) = nI ((7 * cm) + 2) := nadd (rfl) (rfl)
  refine YY.S (st' := [.int 0, .int (nI ((7 * cm) + 2)), .ref (g.2.1 60)]) (by rw [q9]) ?_
  have b10 : vp_in (nI ((7 * cm) + 2)) 840 := by exact vp_in_nI (by omega) (by decide)
  refine x_iast rfl b10 dX10_readCommand_44 ?_
  refine YY.V (V' := uM U7 60 ((7 * cm) + 2) 0) (by rw [nI_clamp (by omega)]) ?_
  obtain ⟨U11, eU11⟩ : ∃ v_v : vM, v_v = uM U7 60 ((7 * cm) + 2) 0 := ⟨_, rfl⟩
  refine YY.V eU11.symm ?_
  refine x_iinc 4 (v := 3) 0 [(4, .int 3), (3, .int (nI (7 * cm))), (0, .ref (g.2.1 49)), (1, .int 3), (2, .int sm)] dX10_readCommand_45 rfl (by decide) (by decide) rfl ?_
  refine x_goto 28 dX10_readCommand_48 (by decide) ?_
  refine x_iload dX10_readCommand_28 0 rfl ?_
  refine x_bipush (v := 7) dX10_readCommand_30 (by decide) ?_
  refine x_icmp_ge 51 dX10_readCommand_32 (by decide) (fun c12 => by exfalso; revert c12; decide) (fun c12 => ?_)
  refine x_aload_n dX10_readCommand_35 2 rfl ?_
  refine x_getR fl_X10_41 rfl rfl dX10_readCommand_36 ?_
  refine x_iload_n dX10_readCommand_39 1 rfl ?_
  refine x_iload dX10_readCommand_40 0 rfl ?_
  refine x_iadd dX10_readCommand_42 ?_
  refine x_iconst (v := 0) dX10_readCommand_43 (by decide) ?_
  have q13 : ((nI (7 * cm)) + 3 : Int32) = nI ((7 * cm) + 3) := nadd (rfl) (rfl)
  refine YY.S (st' := [.int 0, .int (nI ((7 * cm) + 3)), .ref (g.2.1 60)]) (by rw [q13]) ?_
  have b14 : vp_in (nI ((7 * cm) + 3)) 840 := by exact vp_in_nI (by omega) (by decide)
  refine x_iast rfl b14 dX10_readCommand_44 ?_
  refine YY.V (V' := uM U11 60 ((7 * cm) + 3) 0) (by rw [nI_clamp (by omega)]) ?_
  obtain ⟨U15, eU15⟩ : ∃ v_v : vM, v_v = uM U11 60 ((7 * cm) + 3) 0 := ⟨_, rfl⟩
  refine YY.V eU15.symm ?_
  refine x_iinc 4 (v := 4) 0 [(4, .int 4), (3, .int (nI (7 * cm))), (0, .ref (g.2.1 49)), (1, .int 3), (2, .int sm)] dX10_readCommand_45 rfl (by decide) (by decide) rfl ?_
  refine x_goto 28 dX10_readCommand_48 (by decide) ?_
  refine x_iload dX10_readCommand_28 0 rfl ?_
  refine x_bipush (v := 7) dX10_readCommand_30 (by decide) ?_
  refine x_icmp_ge 51 dX10_readCommand_32 (by decide) (fun c16 => by exfalso; revert c16; decide) (fun c16 => ?_)
  refine x_aload_n dX10_readCommand_35 2 rfl ?_
  refine x_getR fl_X10_41 rfl rfl dX10_readCommand_36 ?_
  refine x_iload_n dX10_readCommand_39 1 rfl ?_
  refine x_iload dX10_readCommand_40 0 rfl ?_
  refine x_iadd dX10_readCommand_42 ?_
  refine x_iconst (v := 0) dX10_readCommand_43 (by decide) ?_
  have q17 : ((nI (7 * cm)) + 4 : Int32) = nI ((7 * cm) + 4) := nadd (rfl) (rfl)
  refine YY.S (st' := [.int 0, .int (nI ((7 * cm) + 4)), .ref (g.2.1 60)]) (by rw [q17]) ?_
  have b18 : vp_in (nI ((7 * cm) + 4)) 840 := by exact vp_in_nI (by omega) (by decide)
  refine x_iast rfl b18 dX10_readCommand_44 ?_
  refine YY.V (V' := uM U15 60 ((7 * cm) + 4) 0) (by rw [nI_clamp (by omega)]) ?_
  obtain ⟨U19, eU19⟩ : ∃ v_v : vM, v_v = uM U15 60 ((7 * cm) + 4) 0 := ⟨_, rfl⟩
  refine YY.V eU19.symm ?_
  refine x_iinc 4 (v := 5) 0 [(4, .int 5), (3, .int (nI (7 * cm))), (0, .ref (g.2.1 49)), (1, .int 3), (2, .int sm)] dX10_readCommand_45 rfl (by decide) (by decide) rfl ?_
  refine x_goto 28 dX10_readCommand_48 (by decide) ?_
  refine x_iload dX10_readCommand_28 0 rfl ?_
  refine x_bipush (v := 7) dX10_readCommand_30 (by decide) ?_
  refine x_icmp_ge 51 dX10_readCommand_32 (by decide) (fun c20 => by exfalso; revert c20; decide) (fun c20 => ?_)
  refine x_aload_n dX10_readCommand_35 2 rfl ?_
  refine x_getR fl_X10_41 rfl rfl dX10_readCommand_36 ?_
  refine x_iload_n dX10_readCommand_39 1 rfl ?_
  refine x_iload dX10_readCommand_40 0 rfl ?_
  refine x_iadd dX10_readCommand_42 ?_
  refine x_iconst (v := 0) dX10_readCommand_43 (by decide) ?_
  have q21 : ((nI (7 * cm)) + 5 : Int32) = nI ((7 * cm) + 5) := nadd (rfl) (rfl)
  refine YY.S (st' := [.int 0, .int (nI ((7 * cm) + 5)), .ref (g.2.1 60)]) (by rw [q21]) ?_
  have b22 : vp_in (nI ((7 * cm) + 5)) 840 := by exact vp_in_nI (by omega) (by decide)
  refine x_iast rfl b22 dX10_readCommand_44 ?_
  refine YY.V (V' := uM U19 60 ((7 * cm) + 5) 0) (by rw [nI_clamp (by omega)]) ?_
  obtain ⟨U23, eU23⟩ : ∃ v_v : vM, v_v = uM U19 60 ((7 * cm) + 5) 0 := ⟨_, rfl⟩
  refine YY.V eU23.symm ?_
  refine x_iinc 4 (v := 6) 0 [(4, .int 6), (3, .int (nI (7 * cm))), (0, .ref (g.2.1 49)), (1, .int 3), (2, .int sm)] dX10_readCommand_45 rfl (by decide) (by decide) rfl ?_
  refine x_goto 28 dX10_readCommand_48 (by decide) ?_
  refine x_iload dX10_readCommand_28 0 rfl ?_
  refine x_bipush (v := 7) dX10_readCommand_30 (by decide) ?_
  refine x_icmp_ge 51 dX10_readCommand_32 (by decide) (fun c24 => by exfalso; revert c24; decide) (fun c24 => ?_)
  refine x_aload_n dX10_readCommand_35 2 rfl ?_
  refine x_getR fl_X10_41 rfl rfl dX10_readCommand_36 ?_
  refine x_iload_n dX10_readCommand_39 1 rfl ?_
  refine x_iload dX10_readCommand_40 0 rfl ?_
  refine x_iadd dX10_readCommand_42 ?_
  refine x_iconst (v := 0) dX10_readCommand_43 (by decide) ?_
  have q25 : ((nI (7 * cm)) + 6 : Int32) = nI ((7 * cm) + 6) := nadd (rfl) (rfl)
  refine YY.S (st' := [.int 0, .int (nI ((7 * cm) + 6)), .ref (g.2.1 60)]) (by rw [q25]) ?_
  have b26 : vp_in (nI ((7 * cm) + 6)) 840 := by exact vp_in_nI (by omega) (by decide)
  refine x_iast rfl b26 dX10_readCommand_44 ?_
  refine YY.V (V' := uM U23 60 ((7 * cm) + 6) 0) (by rw [nI_clamp (by omega)]) ?_
  obtain ⟨U27, eU27⟩ : ∃ v_v : vM, v_v = uM U23 60 ((7 * cm) + 6) 0 := ⟨_, rfl⟩
  refine YY.V eU27.symm ?_
  refine x_iinc 4 (v := 7) 0 [(4, .int 7), (3, .int (nI (7 * cm))), (0, .ref (g.2.1 49)), (1, .int 3), (2, .int sm)] dX10_readCommand_45 rfl (by decide) (by decide) rfl ?_
  refine x_goto 28 dX10_readCommand_48 (by decide) ?_
  refine x_iload dX10_readCommand_28 0 rfl ?_
  refine x_bipush (v := 7) dX10_readCommand_30 (by decide) ?_
  refine x_icmp_ge 51 dX10_readCommand_32 (by decide) (fun c28 => ?_) (fun c28 => by exfalso; revert c28; decide)
  have hM0 : MR U27 P n (a + 1) := (((((((hMR.at eU1 (by omega)).row eU3).row eU7).row eU11).row eU15).row eU19).row eU23).row eU27
  have h19_0 : U27 49 19 = 0 := by rw [eU27, uM_na (by decide), eU23, uM_na (by decide), eU19, uM_na (by decide), eU15, uM_na (by decide), eU11, uM_na (by decide), eU7, uM_na (by decide), eU3, uM_na (by decide), eU1, uM_ni (by decide)]; exact h19
  have h21_0 : U27 49 21 = nI cm := by rw [eU27, uM_na (by decide), eU23, uM_na (by decide), eU19, uM_na (by decide), eU15, uM_na (by decide), eU11, uM_na (by decide), eU7, uM_na (by decide), eU3, uM_na (by decide), eU1, uM_ni (by decide)]; exact h21
  have hx_0 : U27 49 23 = x := by rw [eU27, uM_na (by decide), eU23, uM_na (by decide), eU19, uM_na (by decide), eU15, uM_na (by decide), eU11, uM_na (by decide), eU7, uM_na (by decide), eU3, uM_na (by decide), eU1, uM_ni (by decide)]; exact hx
  have hy_0 : U27 49 24 = y := by rw [eU27, uM_na (by decide), eU23, uM_na (by decide), eU19, uM_na (by decide), eU15, uM_na (by decide), eU11, uM_na (by decide), eU7, uM_na (by decide), eU3, uM_na (by decide), eU1, uM_ni (by decide)]; exact hy
  have h22_0 : U27 49 22 = bP (¬ alR O (7 * cm)) := by rw [eU27, uM_na (by decide), eU23, uM_na (by decide), eU19, uM_na (by decide), eU15, uM_na (by decide), eU11, uM_na (by decide), eU7, uM_na (by decide), eU3, uM_na (by decide), eU1, uM_ni (by decide)]; exact h22
  have w0_0 : U27 60 (7 * cm) = 3 := by rw [eU27, uM_ni (by omega), eU23, uM_ni (by omega), eU19, uM_ni (by omega), eU15, uM_ni (by omega), eU11, uM_ni (by omega), eU7, uM_ni (by omega), eU3, uM_hit]
  have w1_0 : U27 60 (7 * cm + 1) = 0 := by rw [eU27, uM_ni (by omega), eU23, uM_ni (by omega), eU19, uM_ni (by omega), eU15, uM_ni (by omega), eU11, uM_ni (by omega), eU7, uM_hit]
  have w2_0 : U27 60 (7 * cm + 2) = 0 := by rw [eU27, uM_ni (by omega), eU23, uM_ni (by omega), eU19, uM_ni (by omega), eU15, uM_ni (by omega), eU11, uM_hit]
  have w3_0 : U27 60 (7 * cm + 3) = 0 := by rw [eU27, uM_ni (by omega), eU23, uM_ni (by omega), eU19, uM_ni (by omega), eU15, uM_hit]
  have w4_0 : U27 60 (7 * cm + 4) = 0 := by rw [eU27, uM_ni (by omega), eU23, uM_ni (by omega), eU19, uM_hit]
  have w5_0 : U27 60 (7 * cm + 5) = 0 := by rw [eU27, uM_ni (by omega), eU23, uM_hit]
  have w6_0 : U27 60 (7 * cm + 6) = 0 := by rw [eU27, uM_hit]
  have hO_0 : ∀ j, j < 7 * cm → U27 60 j = O j := fun j hj => by rw [eU27, uM_ni (by omega), eU23, uM_ni (by omega), eU19, uM_ni (by omega), eU15, uM_ni (by omega), eU11, uM_ni (by omega), eU7, uM_ni (by omega), eU3, uM_ni (by omega), eU1, uM_na (by decide)]; exact hO j hj
  have hF_0 : frC V U27 := ((((((((frC.refl V).st eU1 (Or.inl rfl)).row eU3).row eU7).row eU11).row eU15).row eU19).row eU23).row eU27
  refine x_iload_n dX10_readCommand_51 3 rfl ?_
  refine x_iconst (v := 2) dX10_readCommand_52 (by decide) ?_
  refine x_icmp_ne 60 dX10_readCommand_53 (by decide) (fun c29 => ?_) (fun c29 => by exfalso; revert c29; decide)
  refine x_iload_n dX10_readCommand_60 3 rfl ?_
  refine x_iconst (v := 3) dX10_readCommand_61 (by decide) ?_
  refine x_icmp_ne 69 dX10_readCommand_62 (by decide) (fun c30 => by exfalso; revert c30; decide) (fun c30 => ?_)
  refine x_iconst (v := 2) dX10_readCommand_65 (by decide) ?_
  refine x_goto 70 dX10_readCommand_66 (by decide) ?_
  refine x_istore 4 [(4, .int 2), (3, .int (nI (7 * cm))), (0, .ref (g.2.1 49)), (1, .int 3), (2, .int sm)] dX10_readCommand_70 (by decide) rfl ?_
  refine x_iconst (v := 0) dX10_readCommand_72 (by decide) ?_
  refine x_istore 5 [(5, .int 0), (4, .int 2), (3, .int (nI (7 * cm))), (0, .ref (g.2.1 49)), (1, .int 3), (2, .int sm)] dX10_readCommand_73 (by decide) rfl ?_
  refine x_iload dX10_readCommand_75 0 rfl ?_
  refine x_iload dX10_readCommand_77 1 rfl ?_
  refine x_icmp_ge 119 dX10_readCommand_79 (by decide) (fun c31 => by exfalso; revert c31; decide) (fun c31 => ?_)
  refine x_aload_n dX10_readCommand_82 3 rfl ?_
  refine x_getI fl_X10_143 rfl rfl dX10_readCommand_83 ?_
  refine x_topi (y := V 49 19) (by rw [eU27, uM_na (by decide), eU23, uM_na (by decide), eU19, uM_na (by decide), eU15, uM_na (by decide), eU11, uM_na (by decide), eU7, uM_na (by decide), eU3, uM_na (by decide), eU1, uM_ni (by decide)]) ?_
  refine x_topi (h19) ?_
  refine x_if_ne 119 dX10_readCommand_86 (by decide) (fun c32 => by exfalso; revert c32; decide) (fun c32 => ?_)
  refine x_aload_n dX10_readCommand_89 3 rfl ?_
  refine x_iload_n dX10_readCommand_90 2 rfl ?_
  refine x_iconst (v := 1) dX10_readCommand_91 (by decide) ?_
  refine x_iadd dX10_readCommand_92 ?_
  refine x_iconst (v := 2) dX10_readCommand_93 (by decide) ?_
  refine x_iload dX10_readCommand_94 0 rfl ?_
  refine x_imul dX10_readCommand_96 ?_
  refine x_topi (y := 0) (by decide) ?_
  refine x_iadd dX10_readCommand_97 ?_
  refine x_topi (y := nI (7 * cm + 1)) ((nadd (nadd rfl (b := 1) rfl) (b := 0) rfl).trans (congrArg nI (by omega))) ?_
  refine x_iload_n dX10_readCommand_98 5 rfl ?_
  refine x_callV (K := jX10_readPair) [.int (nI (7 * cm + 1)), .int sm] lk_X10_165 ⟨⟨rfl, rfl⟩, Nat.le_of_ble_eq_true rfl, Nat.le_of_ble_eq_true rfl⟩ rfl rfl (mX10_readPair hM0 h19_0 hs (by decide) hsm hx_0 hy_0 h22_0 (7 * cm + 1) (by omega)) rfl (Nat.le_of_ble_eq_true rfl) rfl dX10_readCommand_99 (keV fun U33 hU34 => ?_)
  obtain ⟨hT_1, a_1, hM1, hR_1⟩ := hU34
  have h21_1 : U33 49 21 = nI cm := (hT_1 49 21 (by decide) (fun w => absurd w.1 (by decide))).trans h21_0
  have hx_1 : U33 49 23 = x := (hT_1 49 23 (by decide) (fun w => absurd w.1 (by decide))).trans hx_0
  have hy_1 : U33 49 24 = y := (hT_1 49 24 (by decide) (fun w => absurd w.1 (by decide))).trans hy_0
  have w0_1 := (hT_1 (60) (7 * cm) (fun w => absurd w.1 (by decide)) (fun w => by omega)).trans w0_0
  have w3_1 := (hT_1 (60) (7 * cm + 3) (fun w => absurd w.1 (by decide)) (fun w => by omega)).trans w3_0
  have w4_1 := (hT_1 (60) (7 * cm + 4) (fun w => absurd w.1 (by decide)) (fun w => by omega)).trans w4_0
  have w5_1 := (hT_1 (60) (7 * cm + 5) (fun w => absurd w.1 (by decide)) (fun w => by omega)).trans w5_0
  have w6_1 := (hT_1 (60) (7 * cm + 6) (fun w => absurd w.1 (by decide)) (fun w => by omega)).trans w6_0
  have hO_1 : ∀ j, j < 7 * cm → U33 60 j = O j := fun j hj => (hT_1 60 j (fun w => absurd w.1 (by decide)) (fun w => by omega)).trans (hO_0 j hj)
  have hF_1 := hF_0.trans hT_1.C
  refine x_aload_n dX10_readCommand_102 3 rfl ?_
  refine x_getI fl_X10_143 rfl rfl dX10_readCommand_103 ?_
  refine x_if_ne 113 dX10_readCommand_106 (by decide) (fun c35 => ?_) (fun c35 => ?_)
  · refine x_iinc 5 (v := 1) 0 [(5, .int 1), (4, .int 2), (3, .int (nI (7 * cm))), (0, .ref (g.2.1 49)), (1, .int 3), (2, .int sm)] dX10_readCommand_113 rfl (by decide) (by decide) rfl ?_
    refine x_goto 75 dX10_readCommand_116 (by decide) ?_
    refine x_iload dX10_readCommand_75 0 rfl ?_
    refine x_iload dX10_readCommand_77 1 rfl ?_
    refine x_icmp_ge 119 dX10_readCommand_79 (by decide) (fun c36 => by exfalso; revert c36; decide) (fun c36 => ?_)
    refine x_aload_n dX10_readCommand_82 3 rfl ?_
    refine x_getI fl_X10_143 rfl rfl dX10_readCommand_83 ?_
    refine x_if_ne 119 dX10_readCommand_86 (by decide) (fun c37 => ?_) (fun c37 => by exfalso; exact absurd c37 (by assumption))
    refine x_aload_n dX10_readCommand_119 3 rfl ?_
    refine x_getI fl_X10_143 rfl rfl dX10_readCommand_120 ?_
    refine x_if_ne 159 dX10_readCommand_123 (by decide) (fun c38 => ?_) (fun c38 => by exfalso; exact absurd c38 (by assumption))
    refine x_aload_n dX10_readCommand_159 3 rfl ?_
    refine x_dup dX10_readCommand_160 rfl ?_
    refine x_getI fl_X10_162 rfl rfl dX10_readCommand_161 ?_
    refine x_topi (h21_1) ?_
    refine x_iconst (v := 1) dX10_readCommand_164 (by decide) ?_
    refine x_iadd dX10_readCommand_165 ?_
    refine x_putI fp_X10_162 rfl rfl dX10_readCommand_166 ?_
    obtain ⟨U39, eU39⟩ : ∃ v_v : vM, v_v = uM U33 49 21 ((nI cm) + 1) := ⟨_, rfl⟩
    refine YY.V eU39.symm ?_
    refine x_vret dX10_readCommand_169 rfl ?_
    rw [hQ]
    have hB := hR_1.resolve_right (fun q => absurd q.1 (by assumption))
    exact ⟨rfl, hF_1.st eU39 (by decide), a_1, hM1.set eU39 (by decide) (by decide), Or.inl ⟨by rw [eU39, uM_ni (by decide)]; exact hB.1, hB.2⟩⟩
  · obtain ⟨h19_1, v_1, d_1, n_1, x_1, hd_1, hs_1, hN_1, w1_1, w2_1, h22_1⟩ := hR_1.resolve_left (fun q => absurd (q.1.symm.trans (by assumption)) (by decide))
    refine x_aload_n dX10_readCommand_109 3 rfl ?_
    refine x_callV (K := jX10_readComma) [] lk_X10_150 ⟨⟨rfl, rfl⟩, Nat.le_of_ble_eq_true rfl, Nat.le_of_ble_eq_true rfl⟩ rfl rfl (mX10_readComma hM1 h19_1 hs_1 hd_1 (by decide) hN_1) rfl (Nat.le_of_ble_eq_true rfl) rfl dX10_readCommand_110 (keV fun U40 hU41 => ?_)
    obtain ⟨hT_2, a_2, hM2, hR_2⟩ := hU41
    have h21_2 : U40 49 21 = nI cm := (hT_2 49 21 (by decide)).trans h21_1
    have hx_2 : U40 49 23 = x := (hT_2 49 23 (by decide)).trans hx_1
    have hy_2 : U40 49 24 = y := (hT_2 49 24 (by decide)).trans hy_1
    have w0_2 := (hT_2 (60) (7 * cm) (fun w => absurd w.1 (by decide))).trans w0_1
    have w1_2 := (hT_2 (60) (7 * cm + 1) (fun w => absurd w.1 (by decide))).trans w1_1
    have w2_2 := (hT_2 (60) (7 * cm + 2) (fun w => absurd w.1 (by decide))).trans w2_1
    have w3_2 := (hT_2 (60) (7 * cm + 3) (fun w => absurd w.1 (by decide))).trans w3_1
    have w4_2 := (hT_2 (60) (7 * cm + 4) (fun w => absurd w.1 (by decide))).trans w4_1
    have w5_2 := (hT_2 (60) (7 * cm + 5) (fun w => absurd w.1 (by decide))).trans w5_1
    have w6_2 := (hT_2 (60) (7 * cm + 6) (fun w => absurd w.1 (by decide))).trans w6_1
    have hO_2 : ∀ j, j < 7 * cm → U40 60 j = O j := fun j hj => (hT_2 60 j (fun w => absurd w.1 (by decide))).trans (hO_1 j hj)
    have hF_2 := hF_1.trans hT_2.C
    have h22_2 := (hT_2 49 22 (by decide)).trans h22_1
    refine x_iinc 5 (v := 1) 0 [(5, .int 1), (4, .int 2), (3, .int (nI (7 * cm))), (0, .ref (g.2.1 49)), (1, .int 3), (2, .int sm)] dX10_readCommand_113 rfl (by decide) (by decide) rfl ?_
    refine x_goto 75 dX10_readCommand_116 (by decide) ?_
    refine x_iload dX10_readCommand_75 0 rfl ?_
    refine x_iload dX10_readCommand_77 1 rfl ?_
    refine x_icmp_ge 119 dX10_readCommand_79 (by decide) (fun c42 => by exfalso; revert c42; decide) (fun c42 => ?_)
    refine x_aload_n dX10_readCommand_82 3 rfl ?_
    refine x_getI fl_X10_143 rfl rfl dX10_readCommand_83 ?_
    refine x_if_ne 119 dX10_readCommand_86 (by decide) (fun c43 => ?_) (fun c43 => ?_)
    · refine x_aload_n dX10_readCommand_119 3 rfl ?_
      refine x_getI fl_X10_143 rfl rfl dX10_readCommand_120 ?_
      refine x_if_ne 159 dX10_readCommand_123 (by decide) (fun c44 => ?_) (fun c44 => by exfalso; exact absurd c44 (by assumption))
      refine x_aload_n dX10_readCommand_159 3 rfl ?_
      refine x_dup dX10_readCommand_160 rfl ?_
      refine x_getI fl_X10_162 rfl rfl dX10_readCommand_161 ?_
      refine x_topi (h21_2) ?_
      refine x_iconst (v := 1) dX10_readCommand_164 (by decide) ?_
      refine x_iadd dX10_readCommand_165 ?_
      refine x_putI fp_X10_162 rfl rfl dX10_readCommand_166 ?_
      obtain ⟨U45, eU45⟩ : ∃ v_v : vM, v_v = uM U40 49 21 ((nI cm) + 1) := ⟨_, rfl⟩
      refine YY.V eU45.symm ?_
      refine x_vret dX10_readCommand_169 rfl ?_
      rw [hQ]
      have hB := hR_2.resolve_right (fun q => absurd q.1 (by assumption))
      exact ⟨rfl, hF_2.st eU45 (by decide), a_2, hM2.set eU45 (by decide) (by decide), Or.inl ⟨by rw [eU45, uM_ni (by decide)]; exact hB.1, hB.2⟩⟩
    · obtain ⟨h19_2, hs_2⟩ := hR_2.resolve_left (fun q => absurd (q.1.symm.trans (by assumption)) (by decide))
      refine x_aload_n dX10_readCommand_89 3 rfl ?_
      refine x_iload_n dX10_readCommand_90 2 rfl ?_
      refine x_iconst (v := 1) dX10_readCommand_91 (by decide) ?_
      refine x_iadd dX10_readCommand_92 ?_
      refine x_iconst (v := 2) dX10_readCommand_93 (by decide) ?_
      refine x_iload dX10_readCommand_94 0 rfl ?_
      refine x_imul dX10_readCommand_96 ?_
      refine x_topi (y := 2) (by decide) ?_
      refine x_iadd dX10_readCommand_97 ?_
      refine x_topi (y := nI (7 * cm + 3)) ((nadd (nadd rfl (b := 1) rfl) (b := 2) rfl).trans (congrArg nI (by omega))) ?_
      refine x_iload_n dX10_readCommand_98 5 rfl ?_
      refine x_callV (K := jX10_readPair) [.int (nI (7 * cm + 3)), .int sm] lk_X10_165 ⟨⟨rfl, rfl⟩, Nat.le_of_ble_eq_true rfl, Nat.le_of_ble_eq_true rfl⟩ rfl rfl (mX10_readPair hM2 h19_2 hs_2 (by decide) hsm hx_2 hy_2 h22_2 (7 * cm + 3) (by omega)) rfl (Nat.le_of_ble_eq_true rfl) rfl dX10_readCommand_99 (keV fun U46 hU47 => ?_)
      obtain ⟨hT_3, a_3, hM3, hR_3⟩ := hU47
      have h21_3 : U46 49 21 = nI cm := (hT_3 49 21 (by decide) (fun w => absurd w.1 (by decide))).trans h21_2
      have hx_3 : U46 49 23 = x := (hT_3 49 23 (by decide) (fun w => absurd w.1 (by decide))).trans hx_2
      have hy_3 : U46 49 24 = y := (hT_3 49 24 (by decide) (fun w => absurd w.1 (by decide))).trans hy_2
      have w0_3 := (hT_3 (60) (7 * cm) (fun w => absurd w.1 (by decide)) (fun w => by omega)).trans w0_2
      have w1_3 := (hT_3 (60) (7 * cm + 1) (fun w => absurd w.1 (by decide)) (fun w => by omega)).trans w1_2
      have w2_3 := (hT_3 (60) (7 * cm + 2) (fun w => absurd w.1 (by decide)) (fun w => by omega)).trans w2_2
      have w5_3 := (hT_3 (60) (7 * cm + 5) (fun w => absurd w.1 (by decide)) (fun w => by omega)).trans w5_2
      have w6_3 := (hT_3 (60) (7 * cm + 6) (fun w => absurd w.1 (by decide)) (fun w => by omega)).trans w6_2
      have hO_3 : ∀ j, j < 7 * cm → U46 60 j = O j := fun j hj => (hT_3 60 j (fun w => absurd w.1 (by decide)) (fun w => by omega)).trans (hO_2 j hj)
      have hF_3 := hF_2.trans hT_3.C
      refine x_aload_n dX10_readCommand_102 3 rfl ?_
      refine x_getI fl_X10_143 rfl rfl dX10_readCommand_103 ?_
      refine x_if_ne 113 dX10_readCommand_106 (by decide) (fun c48 => ?_) (fun c48 => ?_)
      · refine x_iinc 5 (v := 2) 0 [(5, .int 2), (4, .int 2), (3, .int (nI (7 * cm))), (0, .ref (g.2.1 49)), (1, .int 3), (2, .int sm)] dX10_readCommand_113 rfl (by decide) (by decide) rfl ?_
        refine x_goto 75 dX10_readCommand_116 (by decide) ?_
        refine x_iload dX10_readCommand_75 0 rfl ?_
        refine x_iload dX10_readCommand_77 1 rfl ?_
        refine x_icmp_ge 119 dX10_readCommand_79 (by decide) (fun c49 => ?_) (fun c49 => by exfalso; revert c49; decide)
        refine x_aload_n dX10_readCommand_119 3 rfl ?_
        refine x_getI fl_X10_143 rfl rfl dX10_readCommand_120 ?_
        refine x_if_ne 159 dX10_readCommand_123 (by decide) (fun c50 => ?_) (fun c50 => by exfalso; exact absurd c50 (by assumption))
        refine x_aload_n dX10_readCommand_159 3 rfl ?_
        refine x_dup dX10_readCommand_160 rfl ?_
        refine x_getI fl_X10_162 rfl rfl dX10_readCommand_161 ?_
        refine x_topi (h21_3) ?_
        refine x_iconst (v := 1) dX10_readCommand_164 (by decide) ?_
        refine x_iadd dX10_readCommand_165 ?_
        refine x_putI fp_X10_162 rfl rfl dX10_readCommand_166 ?_
        obtain ⟨U51, eU51⟩ : ∃ v_v : vM, v_v = uM U46 49 21 ((nI cm) + 1) := ⟨_, rfl⟩
        refine YY.V eU51.symm ?_
        refine x_vret dX10_readCommand_169 rfl ?_
        rw [hQ]
        have hB := hR_3.resolve_right (fun q => absurd q.1 (by assumption))
        exact ⟨rfl, hF_3.st eU51 (by decide), a_3, hM3.set eU51 (by decide) (by decide), Or.inl ⟨by rw [eU51, uM_ni (by decide)]; exact hB.1, hB.2⟩⟩
      · obtain ⟨h19_3, v_3, d_3, n_3, x_3, hd_3, hs_3, hN_3, w3_3, w4_3, h22_3⟩ := hR_3.resolve_left (fun q => absurd (q.1.symm.trans (by assumption)) (by decide))
        refine x_aload_n dX10_readCommand_109 3 rfl ?_
        refine x_callV (K := jX10_readComma) [] lk_X10_150 ⟨⟨rfl, rfl⟩, Nat.le_of_ble_eq_true rfl, Nat.le_of_ble_eq_true rfl⟩ rfl rfl (mX10_readComma hM3 h19_3 hs_3 hd_3 (by decide) hN_3) rfl (Nat.le_of_ble_eq_true rfl) rfl dX10_readCommand_110 (keV fun U52 hU53 => ?_)
        obtain ⟨hT_4, a_4, hM4, hR_4⟩ := hU53
        have h21_4 : U52 49 21 = nI cm := (hT_4 49 21 (by decide)).trans h21_3
        have hx_4 : U52 49 23 = x := (hT_4 49 23 (by decide)).trans hx_3
        have hy_4 : U52 49 24 = y := (hT_4 49 24 (by decide)).trans hy_3
        have w0_4 := (hT_4 (60) (7 * cm) (fun w => absurd w.1 (by decide))).trans w0_3
        have w1_4 := (hT_4 (60) (7 * cm + 1) (fun w => absurd w.1 (by decide))).trans w1_3
        have w2_4 := (hT_4 (60) (7 * cm + 2) (fun w => absurd w.1 (by decide))).trans w2_3
        have w3_4 := (hT_4 (60) (7 * cm + 3) (fun w => absurd w.1 (by decide))).trans w3_3
        have w4_4 := (hT_4 (60) (7 * cm + 4) (fun w => absurd w.1 (by decide))).trans w4_3
        have w5_4 := (hT_4 (60) (7 * cm + 5) (fun w => absurd w.1 (by decide))).trans w5_3
        have w6_4 := (hT_4 (60) (7 * cm + 6) (fun w => absurd w.1 (by decide))).trans w6_3
        have hO_4 : ∀ j, j < 7 * cm → U52 60 j = O j := fun j hj => (hT_4 60 j (fun w => absurd w.1 (by decide))).trans (hO_3 j hj)
        have hF_4 := hF_3.trans hT_4.C
        have h22_4 := (hT_4 49 22 (by decide)).trans h22_3
        refine x_iinc 5 (v := 2) 0 [(5, .int 2), (4, .int 2), (3, .int (nI (7 * cm))), (0, .ref (g.2.1 49)), (1, .int 3), (2, .int sm)] dX10_readCommand_113 rfl (by decide) (by decide) rfl ?_
        refine x_goto 75 dX10_readCommand_116 (by decide) ?_
        refine x_iload dX10_readCommand_75 0 rfl ?_
        refine x_iload dX10_readCommand_77 1 rfl ?_
        refine x_icmp_ge 119 dX10_readCommand_79 (by decide) (fun c54 => ?_) (fun c54 => by exfalso; revert c54; decide)
        refine x_aload_n dX10_readCommand_119 3 rfl ?_
        refine x_getI fl_X10_143 rfl rfl dX10_readCommand_120 ?_
        refine x_if_ne 159 dX10_readCommand_123 (by decide) (fun c55 => ?_) (fun c55 => ?_)
        · refine x_aload_n dX10_readCommand_159 3 rfl ?_
          refine x_dup dX10_readCommand_160 rfl ?_
          refine x_getI fl_X10_162 rfl rfl dX10_readCommand_161 ?_
          refine x_topi (h21_4) ?_
          refine x_iconst (v := 1) dX10_readCommand_164 (by decide) ?_
          refine x_iadd dX10_readCommand_165 ?_
          refine x_putI fp_X10_162 rfl rfl dX10_readCommand_166 ?_
          obtain ⟨U56, eU56⟩ : ∃ v_v : vM, v_v = uM U52 49 21 ((nI cm) + 1) := ⟨_, rfl⟩
          refine YY.V eU56.symm ?_
          refine x_vret dX10_readCommand_169 rfl ?_
          rw [hQ]
          have hB := hR_4.resolve_right (fun q => absurd q.1 (by assumption))
          exact ⟨rfl, hF_4.st eU56 (by decide), a_4, hM4.set eU56 (by decide) (by decide), Or.inl ⟨by rw [eU56, uM_ni (by decide)]; exact hB.1, hB.2⟩⟩
        · obtain ⟨h19_4, hs_4⟩ := hR_4.resolve_left (fun q => absurd (q.1.symm.trans (by assumption)) (by decide))
          refine x_aload_n dX10_readCommand_126 3 rfl ?_
          refine x_iload_n dX10_readCommand_127 2 rfl ?_
          refine x_iconst (v := 5) dX10_readCommand_128 (by decide) ?_
          refine x_iadd dX10_readCommand_129 ?_
          refine x_topi (y := nI (7 * cm + 5)) (nadd rfl (b := 5) rfl) ?_
          refine x_iload_n dX10_readCommand_130 5 rfl ?_
          refine x_callV (K := jX10_readPair) [.int (nI (7 * cm + 5)), .int sm] lk_X10_165 ⟨⟨rfl, rfl⟩, Nat.le_of_ble_eq_true rfl, Nat.le_of_ble_eq_true rfl⟩ rfl rfl (mX10_readPair hM4 h19_4 hs_4 (by decide) hsm hx_4 hy_4 h22_4 (7 * cm + 5) (by omega)) rfl (Nat.le_of_ble_eq_true rfl) rfl dX10_readCommand_131 (keV fun U57 hU58 => ?_)
          obtain ⟨hT_5, a_5, hM5, hR_5⟩ := hU58
          have h21_5 : U57 49 21 = nI cm := (hT_5 49 21 (by decide) (fun w => absurd w.1 (by decide))).trans h21_4
          have hx_5 : U57 49 23 = x := (hT_5 49 23 (by decide) (fun w => absurd w.1 (by decide))).trans hx_4
          have hy_5 : U57 49 24 = y := (hT_5 49 24 (by decide) (fun w => absurd w.1 (by decide))).trans hy_4
          have w0_5 := (hT_5 (60) (7 * cm) (fun w => absurd w.1 (by decide)) (fun w => by omega)).trans w0_4
          have w1_5 := (hT_5 (60) (7 * cm + 1) (fun w => absurd w.1 (by decide)) (fun w => by omega)).trans w1_4
          have w2_5 := (hT_5 (60) (7 * cm + 2) (fun w => absurd w.1 (by decide)) (fun w => by omega)).trans w2_4
          have w3_5 := (hT_5 (60) (7 * cm + 3) (fun w => absurd w.1 (by decide)) (fun w => by omega)).trans w3_4
          have w4_5 := (hT_5 (60) (7 * cm + 4) (fun w => absurd w.1 (by decide)) (fun w => by omega)).trans w4_4
          have hO_5 : ∀ j, j < 7 * cm → U57 60 j = O j := fun j hj => (hT_5 60 j (fun w => absurd w.1 (by decide)) (fun w => by omega)).trans (hO_4 j hj)
          have hF_5 := hF_4.trans hT_5.C
          refine x_aload_n dX10_readCommand_134 3 rfl ?_
          refine x_aload_n dX10_readCommand_135 3 rfl ?_
          refine x_getR fl_X10_41 rfl rfl dX10_readCommand_136 ?_
          refine x_iload_n dX10_readCommand_139 2 rfl ?_
          refine x_iconst (v := 5) dX10_readCommand_140 (by decide) ?_
          refine x_iadd dX10_readCommand_141 ?_
          have q59 : ((nI (7 * cm)) + 5 : Int32) = nI ((7 * cm) + 5) := nadd (rfl) (rfl)
          refine YY.S (st' := [.int (nI ((7 * cm) + 5)), .ref (g.2.1 60), .ref (g.2.1 49)]) (by rw [q59]) ?_
          have b60 : vp_in (nI ((7 * cm) + 5)) 840 := by exact vp_in_nI (by omega) (by decide)
          refine x_iald rfl b60 dX10_readCommand_142 ?_
          refine x_topi (y := U57 60 ((7 * cm) + 5)) (by rw [nI_clamp (by omega)]) ?_
          refine x_putI fp_X10_153 rfl rfl dX10_readCommand_143 ?_
          obtain ⟨U61, eU61⟩ : ∃ v_v : vM, v_v = uM U57 49 23 (U57 60 ((7 * cm) + 5)) := ⟨_, rfl⟩
          refine YY.V eU61.symm ?_
          refine x_aload_n dX10_readCommand_146 3 rfl ?_
          refine x_aload_n dX10_readCommand_147 3 rfl ?_
          refine x_getR fl_X10_41 rfl rfl dX10_readCommand_148 ?_
          refine x_iload_n dX10_readCommand_151 2 rfl ?_
          refine x_bipush (v := 6) dX10_readCommand_152 (by decide) ?_
          refine x_iadd dX10_readCommand_154 ?_
          have q62 : ((nI (7 * cm)) + 6 : Int32) = nI ((7 * cm) + 6) := nadd (rfl) (rfl)
          refine YY.S (st' := [.int (nI ((7 * cm) + 6)), .ref (g.2.1 60), .ref (g.2.1 49)]) (by rw [q62]) ?_
          have b63 : vp_in (nI ((7 * cm) + 6)) 840 := by exact vp_in_nI (by omega) (by decide)
          refine x_iald rfl b63 dX10_readCommand_155 ?_
          refine x_topi (y := U61 60 ((7 * cm) + 6)) (by rw [nI_clamp (by omega)]) ?_
          refine x_topi (y := U57 60 ((7 * cm) + 6)) (by rw [eU61, uM_na (by decide)]) ?_
          refine x_putI fp_X10_156 rfl rfl dX10_readCommand_156 ?_
          obtain ⟨U64, eU64⟩ : ∃ v_v : vM, v_v = uM U61 49 24 (U57 60 ((7 * cm) + 6)) := ⟨_, rfl⟩
          refine YY.V eU64.symm ?_
          refine x_aload_n dX10_readCommand_159 3 rfl ?_
          refine x_dup dX10_readCommand_160 rfl ?_
          refine x_getI fl_X10_162 rfl rfl dX10_readCommand_161 ?_
          refine x_topi (y := U57 49 21) (by rw [eU64, uM_ni (by decide), eU61, uM_ni (by decide)]) ?_
          refine x_topi (h21_5) ?_
          refine x_iconst (v := 1) dX10_readCommand_164 (by decide) ?_
          refine x_iadd dX10_readCommand_165 ?_
          refine x_putI fp_X10_162 rfl rfl dX10_readCommand_166 ?_
          obtain ⟨U65, eU65⟩ : ∃ v_v : vM, v_v = uM U64 49 21 ((nI cm) + 1) := ⟨_, rfl⟩
          refine YY.V eU65.symm ?_
          refine x_vret dX10_readCommand_169 rfl ?_
          rw [hQ]
          refine ⟨rfl, ((hF_5.st eU61 (by decide)).st eU64 (by decide)).st eU65 (by decide), a_5, ((hM5.set eU61 (by decide) (by decide)).set eU64 (by decide) (by decide)).set eU65 (by decide) (by decide), ?_⟩
          have hW : U65 49 19 = U57 49 19 := by rw [eU65, uM_ni (by decide), eU64, uM_ni (by decide), eU61, uM_ni (by decide)]
          rcases hR_5 with hB | hG
          · exact Or.inl ⟨hW.trans hB.1, hB.2⟩
          · skip
            obtain ⟨h19_5, v_5, d_5, n_5, x_5, hd_5, hs_5, hN_5, w5_5, w6_5, h22_5⟩ := hG
            have h60 : ∀ i, U65 60 i = U57 60 i := fun i => by rw [eU65, uM_na (by decide), eU64, uM_na (by decide), eU61, uM_na (by decide)]
            refine Or.inr ⟨hW.trans h19_5, n_5, 5, v_5, d_5, (upd (upd (upd (upd (upd X 0 x_1) 1 (rSg v_1 n_1)) 2 x_3) 3 (rSg v_3 n_3)) 4 x_5), hs_5, hd_5, rfl, hN_5, RDM_fc (G := (((alR O (7 * cm) ∧ inR (x_1 + rXs sm x) ∧ inR (rSg v_1 n_1 + rXs sm y)) ∧ inR (x_3 + rXs sm x) ∧ inR (rSg v_3 n_3 + rXs sm y)) ∧ inR (x_5 + rXs sm x) ∧ inR (rSg v_5 n_5 + rXs sm y))) (by decide) ?_ ?_ ?_ (fun j hj => (h60 j).trans (hO_5 j hj)) ?_ ?_ ?_⟩
            · rw [eU65, uM_hit, nI_1]
            · rw [h60, eU65, uM_ni (by decide), eU64, uM_ni (by decide), eU61, uM_hit]
            · rw [h60, eU65, uM_ni (by decide), eU64, uM_hit]
            · intro p hp
              have e0 : rX2 3 sm n_5 5 v_5 x y (upd (upd (upd (upd (upd X 0 x_1) 1 (rSg v_1 n_1)) 2 x_3) 3 (rSg v_3 n_3)) 4 x_5) 0 = x_1 + rXs sm x := by rw [rX2_e (by decide)]; simp [upd]
              have e1 : rX2 3 sm n_5 5 v_5 x y (upd (upd (upd (upd (upd X 0 x_1) 1 (rSg v_1 n_1)) 2 x_3) 3 (rSg v_3 n_3)) 4 x_5) 1 = rSg v_1 n_1 + rXs sm y := by rw [rX2_e (by decide)]; simp [upd]
              have e2 : rX2 3 sm n_5 5 v_5 x y (upd (upd (upd (upd (upd X 0 x_1) 1 (rSg v_1 n_1)) 2 x_3) 3 (rSg v_3 n_3)) 4 x_5) 2 = x_3 + rXs sm x := by rw [rX2_e (by decide)]; simp [upd]
              have e3 : rX2 3 sm n_5 5 v_5 x y (upd (upd (upd (upd (upd X 0 x_1) 1 (rSg v_1 n_1)) 2 x_3) 3 (rSg v_3 n_3)) 4 x_5) 3 = rSg v_3 n_3 + rXs sm y := by rw [rX2_e (by decide)]; simp [upd]
              have e4 : rX2 3 sm n_5 5 v_5 x y (upd (upd (upd (upd (upd X 0 x_1) 1 (rSg v_1 n_1)) 2 x_3) 3 (rSg v_3 n_3)) 4 x_5) 4 = x_5 + rXs sm x := by rw [rX2_e (by decide)]; simp [upd]
              have e5 : rX2 3 sm n_5 5 v_5 x y (upd (upd (upd (upd (upd X 0 x_1) 1 (rSg v_1 n_1)) 2 x_3) 3 (rSg v_3 n_3)) 4 x_5) 5 = rSg v_5 n_5 + rXs sm y := by rw [rX2_e (by decide)]; simp [upd]
              rcases (show p = 0 ∨ p = 1 ∨ p = 2 ∨ p = 3 ∨ p = 4 ∨ p = 5 ∨ p = 6 by omega) with h | h | h | h | h | h | h
              · rw [h, h60]; exact w0_5
              · rw [h, h60]; exact w1_5.trans e0.symm
              · rw [h, h60]; exact w2_5.trans e1.symm
              · rw [h, h60]; exact w3_5.trans e2.symm
              · rw [h, h60]; exact w4_5.trans e3.symm
              · rw [h, h60]; exact w5_5.trans e4.symm
              · rw [h, h60]; exact w6_5.trans e5.symm
            · rw [eU65, uM_ni (by decide), eU64, uM_ni (by decide), eU61, uM_ni (by decide)]; exact h22_5
            · constructor
              · intro q
                refine ⟨q.1.1.1, fun p p1 p7 => ?_⟩
                rcases (show p = 1 ∨ p = 2 ∨ p = 3 ∨ p = 4 ∨ p = 5 ∨ p = 6 by omega) with h | h | h | h | h | h
                · rw [h, h60, w1_5]; exact q.1.1.2.1
                · rw [h, h60, w2_5]; exact q.1.1.2.2
                · rw [h, h60, w3_5]; exact q.1.2.1
                · rw [h, h60, w4_5]; exact q.1.2.2
                · rw [h, h60, w5_5]; exact q.2.1
                · rw [h, h60, w6_5]; exact q.2.2
              · rintro ⟨g0, gp⟩
                have g0a := gp 1 (by omega) (by omega)
                rw [h60, w1_5] at g0a
                have g0b := gp 2 (by omega) (by omega)
                rw [h60, w2_5] at g0b
                have g1a := gp 3 (by omega) (by omega)
                rw [h60, w3_5] at g1a
                have g1b := gp 4 (by omega) (by omega)
                rw [h60, w4_5] at g1b
                have g2a := gp 5 (by omega) (by omega)
                rw [h60, w5_5] at g2a
                have g2b := gp 6 (by omega) (by omega)
                rw [h60, w6_5] at g2b
                exact ⟨⟨⟨g0, g0a, g0b⟩, g1a, g1b⟩, g2a, g2b⟩
theorem mX10_readCommand {g : gX} {V : vM} {P : Nat → Int32} {n a : Nat} {k sm : Int32} {cm : Nat} {x y sx sy : Int32} {X O : Nat → Int32} (hk : 0 ≤ k ∧ k ≤ 3) (hMR : MR V P n a) (hl : a < n) (h19 : V 49 19 = 0) (hsm : sm = 0 ∨ sm = 1) (hcm : cm ≤ a) (h21 : V 49 21 = nI cm) (hx : V 49 23 = x) (hy : V 49 24 = y) (h22 : V 49 22 = bP (¬ alR O (7 * cm))) (hO : ∀ j, j < 7 * cm → V 60 j = O j) (hs : rRun P (a + 1) = some ((k, sm, 0), (0, 0, 0, cm), (x, y, sx, sy), X, O)) : MM g jX10_readCommand V [.ref (g.2.1 49), .int k, .int sm] (eV (CmdP V P n k sm cm x y sx sy O)) := by
  rcases k5 ⟨hk.1, Int32.le_trans hk.2 (by decide)⟩ with z | z | z | z | z
  · subst z; exact mX10_readCommand0 hMR hl h19 hsm hcm h21 hx hy h22 hO hs
  · subst z; exact mX10_readCommand1 hMR hl h19 hsm hcm h21 hx hy h22 hO hs
  · subst z; exact mX10_readCommand2 hMR hl h19 hsm hcm h21 hx hy h22 hO hs
  · subst z; exact mX10_readCommand3 hMR hl h19 hsm hcm h21 hx hy h22 hO hs
  · rw [z] at hk; exact absurd hk.2 (by decide)
