def FI (V : vM) (P : Nat → Int32) (n : Nat) (mo : Int32) (μ a : Nat) (U : vM) : Prop := MR U P n a ∧ frD V U ∧ ((mo = 1 ∧ U 49 19 = 0 ∧ ∃ s, Btw P n a s ∧ RDM U (rFC s) ∧ CE P n a s ∧ (a < n ∨ s.1.1 = -1) ∧ cW s + μ = n + 1) ∨ (mo = 0 ∧ μ = 0 ∧ ((U 49 19 = 1 ∧ Bad P n a) ∨ (U 49 19 = 0 ∧ a = n ∧ ∃ s, Btw P n a s ∧ ¬ s.1.1 = -1 ∧ RDM U (rFC s)))))
theorem FI_0 {V W1 W2 W3 W4 W5 W6 : vM} {P : Nat → Int32} {n : Nat} (hP : V 53 = P) (h4 : V 49 4 = nI n) (hn : n ≤ 120) (e1 : W1 = uM V 49 18 0) (e2 : W2 = uM W1 49 19 0) (e3 : W3 = uM W2 49 22 0) (e4 : W4 = uM W3 49 21 0) (e5 : W5 = uM W4 49 23 0) (e6 : W6 = uM W5 49 24 0) : FI V P n 1 (n + 1) 0 W6 := by
  have h : ∀ b i, ¬ (b = 49 ∧ (i = 18 ∨ i = 19 ∨ i = 21 ∨ i = 22 ∨ i = 23 ∨ i = 24)) → W6 b i = V b i := fun b i q => by
    rw [e6, uM_at, if_neg (fun w => q ⟨w.1, by omega⟩), e5, uM_at, if_neg (fun w => q ⟨w.1, by omega⟩), e4, uM_at, if_neg (fun w => q ⟨w.1, by omega⟩), e3, uM_at, if_neg (fun w => q ⟨w.1, by omega⟩), e2, uM_at, if_neg (fun w => q ⟨w.1, by omega⟩), e1, uM_at, if_neg (fun w => q ⟨w.1, by omega⟩)]
  have z0 : (0 : Int32) = nI 0 := rfl
  have za : alR r0.2.2.2.2 (7 * r0.2.1.2.2.2) := fun j hj => absurd hj (Nat.not_lt_zero _)
  refine ⟨⟨?_, ?_, ?_, Nat.zero_le _, hn⟩, fun b i p q => h b i (fun w => q ⟨w.1, by omega, by omega⟩), Or.inl ⟨rfl, ?_, r0, btw_0 (Or.inl rfl) rfl, ?_, Or.inl rfl, Or.inr rfl, ?_⟩⟩
  · rw [← hP]; funext j; exact h 53 j (fun w => absurd w.1 (by decide))
  · rw [h 49 4 (by decide)]; exact h4
  · rw [e6, uM_ni (by decide), e5, uM_ni (by decide), e4, uM_ni (by decide), e3, uM_ni (by decide), e2, uM_ni (by decide), e1, uM_hit]; rfl
  · rw [e6, uM_ni (by decide), e5, uM_ni (by decide), e4, uM_ni (by decide), e3, uM_ni (by decide), e2, uM_hit]
  · show RDM W6 r0
    refine ⟨?_, ?_, ?_, ?_, fun j hj => absurd hj (Nat.not_lt_zero _)⟩
    · rw [e6, uM_ni (by decide), e5, uM_ni (by decide), e4, uM_hit]; rfl
    · rw [e6, uM_ni (by decide), e5, uM_hit]; rfl
    · rw [e6, uM_hit]; rfl
    · rw [e6, uM_ni (by decide), e5, uM_ni (by decide), e4, uM_ni (by decide), e3, uM_hit]
      exact (bP_f (fun q => q za)).symm
  · show 0 + (n + 1) = n + 1
    omega
theorem FI_1 {V U U2 : vM} {P : Nat → Int32} {n a a2 μ : Nat} {s : RSt} (hMR : MR U P n a) (hF : frD V U) (hB : Btw P n a s) (hmu : cW s + μ = n + 1) (hF2 : frD U U2) (hM2 : MR U2 P n a2) (hR2 : (U2 49 19 = 1 ∧ Bad P n a2) ∨ (U2 49 19 = 0 ∧ ∃ s', Btw P n a2 s' ∧ ¬ s'.1.1 = -1 ∧ RDM U2 (rFC s') ∧ CE P n a2 s' ∧ cW s + 1 ≤ cW s')) : (U2 49 19 = 0 → a2 < n → ∃ μ2, FI V P n 1 μ2 a2 U2 ∧ μ2 < μ) ∧ ((¬ U2 49 19 = 0 ∨ n ≤ a2) → FI V P n 0 0 a2 U2 ∧ 0 < μ) := by
  have hc := btw_cm hB
  have hl := hMR.2.2.2.1
  constructor
  · intro h0 hl2
    obtain ⟨-, s', hB', k1, hRD, hCE, hc'⟩ := hR2.resolve_left (fun q => absurd (q.1.symm.trans h0) (by decide))
    have := btw_cm hB'
    exact ⟨n + 1 - cW s', ⟨hM2, hF.trans hF2, Or.inl ⟨rfl, h0, s', hB', hRD, hCE, Or.inl hl2, by omega⟩⟩, by omega⟩
  · intro q
    refine ⟨⟨hM2, hF.trans hF2, Or.inr ⟨rfl, rfl, ?_⟩⟩, by omega⟩
    rcases hR2 with h | ⟨h0, s', hB', k1, hRD, hCE, hc'⟩
    · exact Or.inl h
    · have := hM2.2.2.2.1
      exact Or.inr ⟨h0, by have := q.resolve_left (fun z => z h0); omega, s', hB', k1, hRD⟩
theorem whl_ft {P : Nat → Int32} {n : Nat} {s : RSt} (h : rRun P n = some s) (hw : rWh s) : rFt P n n 0 = -1000006 := by
  have := rFt_to (P := P) (n := n) n 0 s (by omega) (by rw [Nat.zero_add]; exact h)
  rw [Nat.zero_add, Nat.sub_zero, Nat.sub_self] at this
  rw [this]
  exact (rFt_e h).1 hw
def FltP (V : vM) (P : Nat → Int32) (n : Nat) (z : Int32) (U : vM) : Prop := z = rFt P n n 0 ∧ frD V U ∧ (z = -1000006 → ∃ s, rRun P n = some s ∧ rWh s ∧ RDM U (rFC s))
set_option maxHeartbeats 1000000 in
set_option maxRecDepth 100000 in
theorem mX10_fault {g : gX} {V : vM} {P : Nat → Int32} {n : Nat} (hP : V 53 = P) (h4 : V 49 4 = nI n) (hn : n ≤ 120) : MM g jX10_fault V [.ref (g.2.1 49)] (eI (FltP V P n)) := by
  refine MM.of plX10_fault (Nat.le_of_ble_eq_true rfl) ?_
  obtain ⟨Q, hQ⟩ : ∃ Q : Option Value → vM → Prop, Q = (eI (FltP V P n)) := ⟨_, rfl⟩
  rw [← hQ]
  show XX g jX10_fault Q V 0 [(0, .ref (g.2.1 49))] []
  refine x_aload_n dX10_fault_0 0 rfl ?_
  refine x_iconst (v := 0) dX10_fault_1 (by decide) ?_
  refine x_putI fp_X10_137 rfl rfl dX10_fault_2 ?_
  obtain ⟨U1, eU1⟩ : ∃ v_v : vM, v_v = uM V 49 18 0 := ⟨_, rfl⟩
  refine YY.V eU1.symm ?_
  refine x_aload_n dX10_fault_5 0 rfl ?_
  refine x_iconst (v := 0) dX10_fault_6 (by decide) ?_
  have z2 : (0 : Int32) = 0 ∨ (0 : Int32) = 1 := by first | exact Or.inl rfl | exact Or.inr rfl | grind
  refine x_putZ fp_X10_143 rfl rfl z2 dX10_fault_7 ?_
  obtain ⟨U3, eU3⟩ : ∃ v_v : vM, v_v = uM U1 49 19 0 := ⟨_, rfl⟩
  refine YY.V eU3.symm ?_
  refine x_aload_n dX10_fault_10 0 rfl ?_
  refine x_iconst (v := 0) dX10_fault_11 (by decide) ?_
  have z4 : (0 : Int32) = 0 ∨ (0 : Int32) = 1 := by first | exact Or.inl rfl | exact Or.inr rfl | grind
  refine x_putZ fp_X10_159 rfl rfl z4 dX10_fault_12 ?_
  obtain ⟨U5, eU5⟩ : ∃ v_v : vM, v_v = uM U3 49 22 0 := ⟨_, rfl⟩
  refine YY.V eU5.symm ?_
  refine x_aload_n dX10_fault_15 0 rfl ?_
  refine x_iconst (v := 0) dX10_fault_16 (by decide) ?_
  refine x_putI fp_X10_162 rfl rfl dX10_fault_17 ?_
  obtain ⟨U6, eU6⟩ : ∃ v_v : vM, v_v = uM U5 49 21 0 := ⟨_, rfl⟩
  refine YY.V eU6.symm ?_
  refine x_aload_n dX10_fault_20 0 rfl ?_
  refine x_iconst (v := 0) dX10_fault_21 (by decide) ?_
  refine x_putI fp_X10_153 rfl rfl dX10_fault_22 ?_
  obtain ⟨U7, eU7⟩ : ∃ v_v : vM, v_v = uM U6 49 23 0 := ⟨_, rfl⟩
  refine YY.V eU7.symm ?_
  refine x_aload_n dX10_fault_25 0 rfl ?_
  refine x_iconst (v := 0) dX10_fault_26 (by decide) ?_
  refine x_putI fp_X10_156 rfl rfl dX10_fault_27 ?_
  obtain ⟨U8, eU8⟩ : ∃ v_v : vM, v_v = uM U7 49 24 0 := ⟨_, rfl⟩
  refine YY.V eU8.symm ?_
  refine x_iconst (v := 1) dX10_fault_30 (by decide) ?_
  refine x_istore_n 1 [(1, .int 1), (0, .ref (g.2.1 49))] dX10_fault_31 rfl (by decide) rfl ?_
  have lp9 : ∀ (fu : Nat) (mo : Int32) (μ : Nat) (a : Nat) (U : vM), (FI V P n mo μ a U) → (μ) < fu → XX g jX10_fault Q U 32 [(1, .int mo), (0, .ref (g.2.1 49))] [] := by
    intro fu
    induction fu with
    | zero => intro _ _ _ _ _ hmz; exact absurd hmz (Nat.not_lt_zero _)
    | succ fu ih =>
      intro mo μ a U hFI hmz
      refine x_iload_n dX10_fault_32 0 rfl ?_
      refine x_if_eq 67 dX10_fault_33 (by decide) (fun c10 => ?_) (fun c10 => ?_)
      · obtain ⟨-, -, hE⟩ := hFI.2.2.resolve_left (fun q => absurd (q.1.symm.trans (by assumption)) (by decide))
        have ha120 : a ≤ 120 := Nat.le_trans hFI.1.2.2.2.1 hn
        refine x_aload_n dX10_fault_67 1 rfl ?_
        refine x_getI fl_X10_143 rfl rfl dX10_fault_68 ?_
        refine x_if_eq 81 dX10_fault_71 (by decide) (fun c11 => ?_) (fun c11 => ?_)
        · refine x_ldc ct_X10_103 dX10_fault_81 ?_
          refine x_iret dX10_fault_83 rfl ?_
          rw [hQ]
          obtain ⟨-, ea, s1, hB1, k1, hRD1⟩ := hE.resolve_left (fun q => absurd (q.1.symm.trans (by assumption)) (by decide))
          subst ea
          exact ⟨_, rfl, (whl_ft hB1.1 (hB1.2.1.resolve_left k1)).symm, hFI.2.1, fun _ => ⟨s1, hB1.1, hB1.2.1.resolve_left k1, hRD1⟩⟩
        · refine x_aload_n dX10_fault_74 1 rfl ?_
          refine x_getI fl_X10_137 rfl rfl dX10_fault_75 ?_
          refine x_topi (hFI.1.2.2.1) ?_
          refine x_goto 83 dX10_fault_78 (by decide) ?_
          refine x_iret dX10_fault_83 rfl ?_
          rw [hQ]
          have hB := hE.resolve_right (fun q => absurd q.1 (by assumption))
          exact ⟨_, rfl, hB.2.ft.symm, hFI.2.1, fun z => absurd z (nI_nn ha120)⟩
      · refine x_aload_n dX10_fault_36 1 rfl ?_
        obtain ⟨-, h19U, s1, hB1, hRD1, hCE1, he1, hmu⟩ := hFI.2.2.resolve_right (fun q => absurd q.1 (by assumption))
        refine x_callV (K := jX10_readContour) [] lk_X10_181 ⟨⟨rfl, rfl⟩, Nat.le_of_ble_eq_true rfl, Nat.le_of_ble_eq_true rfl⟩ rfl rfl (mX10_readContour hFI.1 h19U hB1 hRD1 hCE1 he1) rfl (Nat.le_of_ble_eq_true rfl) rfl dX10_fault_37 (keV fun U12 hU13 => ?_)
        obtain ⟨hF2, a2, hM2, hR2⟩ := hU13
        have ha2n := hM2.2.2.2.1
        have hFS := FI_1 hFI.1 hFI.2.1 hB1 hmu hF2 hM2 hR2
        refine x_aload_n dX10_fault_40 1 rfl ?_
        refine x_getI fl_X10_143 rfl rfl dX10_fault_41 ?_
        refine x_if_ne 62 dX10_fault_44 (by decide) (fun c14 => ?_) (fun c14 => ?_)
        · obtain ⟨hFI2, hμ2⟩ := hFS.2 (Or.inl (by assumption))
          refine x_iconst (v := 0) dX10_fault_62 (by decide) ?_
          refine x_istore_n 1 [(1, .int 0), (0, .ref (g.2.1 49))] dX10_fault_63 rfl (by decide) rfl ?_
          refine x_goto 32 dX10_fault_64 (by decide) ?_
          exact ih 0 0 a2 U12 (by exact hFI2) (by omega)
        · refine x_aload_n dX10_fault_47 1 rfl ?_
          refine x_getI fl_X10_137 rfl rfl dX10_fault_48 ?_
          refine x_topi (hM2.2.2.1) ?_
          refine x_aload_n dX10_fault_51 1 rfl ?_
          refine x_getI fl_X10_133 rfl rfl dX10_fault_52 ?_
          refine x_topi (hM2.2.1) ?_
          refine x_icmp_ge 62 dX10_fault_55 (by decide) (fun c15 => ?_) (fun c15 => ?_)
          · have c15n : n ≤ a2 := (nl_le (a := n) (b := a2) (rfl) (rfl) (by omega) (by omega)).mp c15
            obtain ⟨hFI2, hμ2⟩ := hFS.2 (Or.inr (by omega))
            refine x_iconst (v := 0) dX10_fault_62 (by decide) ?_
            refine x_istore_n 1 [(1, .int 0), (0, .ref (g.2.1 49))] dX10_fault_63 rfl (by decide) rfl ?_
            refine x_goto 32 dX10_fault_64 (by decide) ?_
            exact ih 0 0 a2 U12 (by exact hFI2) (by omega)
          · have c15n : a2 < n := Nat.not_le.mp (fun q => c15 ((nl_le (a := n) (b := a2) (rfl) (rfl) (by omega) (by omega)).mpr q))
            obtain ⟨μ2, hFI2, hμ2⟩ := hFS.1 (by assumption) (by omega)
            refine x_iconst (v := 1) dX10_fault_58 (by decide) ?_
            refine x_goto 63 dX10_fault_59 (by decide) ?_
            refine x_istore_n 1 [(1, .int 1), (0, .ref (g.2.1 49))] dX10_fault_63 rfl (by decide) rfl ?_
            refine x_goto 32 dX10_fault_64 (by decide) ?_
            exact ih 1 μ2 a2 U12 (by exact hFI2) (by omega)
  exact lp9 _ 1 (n + 1) 0 U8 (by exact FI_0 hP h4 hn eU1 eU3 eU5 eU6 eU7 eU8) (Nat.lt_succ_self _)
def frML (V U : vM) : Prop := ∀ a i, a < 58 → a ≠ 50 → (a = 49 → i < 16 ∧ i ≠ 4) → U a i = V a i
theorem frD.ML {V U : vM} (h : frD V U) : frML V U := fun a i p q r => h a i (by omega) (fun w => by have := (r w.1).1; omega)
theorem MS.ML {V U : vM} {m : Nat → Int32} {N : Nat} {t : Int32} (h : MS V m N t) (f : frD V U) : MS U m N t := ⟨h.1, by rw [← h.2.1]; funext j; exact f 50 j (by decide) (fun w => absurd w.1 (by decide)), h.2.2⟩
set_option maxHeartbeats 1000000 in
set_option maxRecDepth 100000 in
theorem mX10_load {g : gX} {m : Nat → Int32} {N : Nat} {t : Int32} {V : vM} {P : Nat → Int32} {n : Nat} (hP : V 53 = P) (h4 : V 49 4 = nI n) (hn : n ≤ 120) (hS : MS V m N t) : MM g jX10_load V [.ref (g.2.1 49)] (eI (fun z U => z = ldZ P n ∧ MS U (ldM P n m) (ldS P n N) t ∧ U 49 4 = nI (ldT P n) ∧ frML V U)) := by
  refine MM.of plX10_load (Nat.le_of_ble_eq_true rfl) ?_
  obtain ⟨Q, hQ⟩ : ∃ Q : Option Value → vM → Prop, Q = (eI (fun z U => z = ldZ P n ∧ MS U (ldM P n m) (ldS P n N) t ∧ U 49 4 = nI (ldT P n) ∧ frML V U)) := ⟨_, rfl⟩
  rw [← hQ]
  show XX g jX10_load Q V 0 [(0, .ref (g.2.1 49))] []
  refine x_aload_n dX10_load_0 0 rfl ?_
  refine x_callV (K := jX10_fault) [] lk_X10_184 ⟨⟨rfl, rfl⟩, Nat.le_of_ble_eq_true rfl, Nat.le_of_ble_eq_true rfl⟩ rfl rfl (mX10_fault hP h4 hn) rfl (Nat.le_of_ble_eq_true rfl) rfl dX10_load_1 (keI fun r3 U1 hU2 => ?_)
  obtain ⟨ez, hF1, hrd⟩ := hU2
  have h4U : U1 49 4 = nI n := (hF1 49 4 (by decide) (by decide)).trans h4
  refine x_ldc ct_X10_103 dX10_load_4 ?_
  refine x_icmp_eq 12 dX10_load_6 (by decide) (fun c4 => ?_) (fun c4 => ?_)
  · obtain ⟨s0, hrun, hwh, hRD⟩ := hrd (by assumption)
    have hft : rFt P n n 0 = -1000006 := ez.symm.trans (by assumption)
    have hF := ldF_e hrun
    have hRE := (RI_run n s0 hrun).fc.1
    rw [← hF] at hRD hRE
    obtain ⟨hcm, -, -, hou, hro⟩ := hRD
    have hnl : ldN P n ≤ 120 := Nat.le_trans (RE.le hRE) hn
    have hwf : rWF (ldO P n) (ldN P n) := RE.wf hRE
    refine x_aload_n dX10_load_12 0 rfl ?_
    refine x_getI fl_X10_162 rfl rfl dX10_load_13 ?_
    refine x_topi (hcm) ?_
    refine x_bipush (v := 24) dX10_load_16 (by decide) ?_
    refine x_icmp_le 24 dX10_load_18 (by decide) (fun c5 => ?_) (fun c5 => ?_)
    · have c5n : ldN P n ≤ 24 := (nl_le (a := ldN P n) (b := 24) (rfl) (rfl) (by omega) (by omega)).mp c5
      refine x_aload_n dX10_load_24 0 rfl ?_
      refine x_getI fl_X10_159 rfl rfl dX10_load_25 ?_
      refine x_topi (hou) ?_
      refine x_if_eq 34 dX10_load_28 (by decide) (fun c6 => ?_) (fun c6 => ?_)
      · have c6n : ¬ (¬ alR (ldO P n) (7 * ldN P n)) := bP_0.mp c6
        have hA : alR (ldO P n) (7 * ldN P n) := Classical.not_not.mp (by assumption)
        have hl24 : ldN P n ≤ 24 := by omega
        obtain ⟨l0, l1, l2, l3⟩ := ld_y (P := P) (n := n) (m := m) (N := N) ⟨hft, hl24, hA⟩
        refine x_iconst (v := 0) dX10_load_34 (by decide) ?_
        refine x_istore_n 1 [(1, .int 0), (0, .ref (g.2.1 49))] dX10_load_35 rfl (by decide) rfl ?_
        have lp7 : ∀ (fu : Nat) (j : Nat) (U : vM), (j ≤ 7 * ldN P n) → (∀ i, i < j → U 50 i = ldO P n i) → (∀ i, j ≤ i → U 50 i = U1 50 i) → (∀ b i, b ≠ 50 → U b i = U1 b i) → (7 * ldN P n - j) < fu → XX g jX10_load Q U 36 [(1, .int (nI j)), (0, .ref (g.2.1 49))] [] := by
          intro fu
          induction fu with
          | zero => intro _ _ _ _ _ _ hmz; exact absurd hmz (Nat.not_lt_zero _)
          | succ fu ih =>
            intro j U hj hd hu hfo hmz
            refine x_iload_n dX10_load_36 0 rfl ?_
            refine x_bipush (v := 7) dX10_load_37 (by decide) ?_
            refine x_aload_n dX10_load_39 1 rfl ?_
            refine x_getI fl_X10_162 rfl rfl dX10_load_40 ?_
            refine x_topi ((hfo 49 21 (by decide)).trans hcm) ?_
            refine x_imul dX10_load_43 ?_
            refine x_icmp_ge 65 dX10_load_44 (by decide) (fun c8 => ?_) (fun c8 => ?_)
            · have c8n : 7 * (ldN P n) ≤ j := (nl_le (a := 7 * (ldN P n)) (b := j) (nmul (rfl) (rfl)) (rfl) (by omega) (by omega)).mp c8
              refine x_aload_n dX10_load_65 1 rfl ?_
              refine x_getR fl_X10_9 rfl rfl dX10_load_66 ?_
              refine x_sipush (v := 168) dX10_load_69 (by decide) ?_
              refine x_aload_n dX10_load_72 1 rfl ?_
              refine x_getI fl_X10_162 rfl rfl dX10_load_73 ?_
              refine x_topi ((hfo 49 21 (by decide)).trans hcm) ?_
              have q9 : (168 : Int32) = nI 168 := rfl
              refine YY.S (st' := [.int (nI (ldN P n)), .int (nI 168), .ref (g.2.1 50)]) (by rw [q9]) ?_
              have b10 : vp_in (nI 168) 170 := by exact vp_in_nI (by omega) (by decide)
              refine x_iast rfl b10 dX10_load_76 ?_
              refine YY.V (V' := uM U 50 168 (nI (ldN P n))) (by rw [nI_clamp (by omega)]) ?_
              obtain ⟨U11, eU11⟩ : ∃ v_v : vM, v_v = uM U 50 168 (nI (ldN P n)) := ⟨_, rfl⟩
              refine YY.V eU11.symm ?_
              refine x_aload_n dX10_load_77 1 rfl ?_
              refine x_iconst (v := 0) dX10_load_78 (by decide) ?_
              refine x_putI fp_X10_133 rfl rfl dX10_load_79 ?_
              obtain ⟨U12, eU12⟩ : ∃ v_v : vM, v_v = uM U11 49 4 0 := ⟨_, rfl⟩
              refine YY.V eU12.symm ?_
              refine x_aload_n dX10_load_82 1 rfl ?_
              refine x_getI fl_X10_162 rfl rfl dX10_load_83 ?_
              refine x_topi (y := U 49 21) (by rw [eU12, uM_ni (by decide), eU11, uM_na (by decide)]) ?_
              refine x_topi ((hfo 49 21 (by decide)).trans hcm) ?_
              refine x_iret dX10_load_86 rfl ?_
              rw [hQ]
              have hjj : j = 7 * ldN P n := by omega
              subst hjj
              rw [l0, l2, l3]
              have hrow : ∀ i p, i < ldN P n → p < 7 → ldM P n m (i * 7 + p) = ldO P n (i * 7 + p) := fun i p h1 h2 => by rw [l1]; exact if_pos (by omega)
              refine ⟨_, rfl, rfl, ⟨(hwf.wf hl24 hA).row hrow, ?_, by rw [l1]; show (if 168 < 7 * ldN P n then _ else _) = _; rw [if_neg (by omega)]; exact if_pos rfl, by rw [l1]; show (if 169 < 7 * ldN P n then _ else _) = _; rw [if_neg (by omega), if_neg (by omega)]; exact hS.2.2.2⟩, by rw [eU12, uM_hit]; rfl, fun b i p q r => ?_⟩
              · funext i
                rw [l1, eU12, uM_na (by decide), eU11]
                by_cases z : i = 168
                · rw [z, uM_hit]; show _ = (if 168 < 7 * ldN P n then _ else _); rw [if_neg (by omega)]; exact (if_pos rfl).symm
                · rw [uM_ni z]; show _ = (if i < 7 * ldN P n then _ else _)
                  by_cases y : i < 7 * ldN P n
                  · rw [if_pos y]; exact hd i y
                  · rw [if_neg y, if_neg z, hu i (by omega), hF1 50 i (by decide) (fun w => absurd w.1 (by decide)), hS.2.1]
              · rw [eU12, uM_at, if_neg (fun w => (r w.1).2 w.2), eU11, uM_na q, hfo b i q]; exact hF1.ML b i p q r
            · have c8n : j < 7 * (ldN P n) := Nat.not_le.mp (fun q => c8 ((nl_le (a := 7 * (ldN P n)) (b := j) (nmul (rfl) (rfl)) (rfl) (by omega) (by omega)).mpr q))
              refine x_aload_n dX10_load_47 1 rfl ?_
              refine x_getR fl_X10_9 rfl rfl dX10_load_48 ?_
              refine x_iload_n dX10_load_51 0 rfl ?_
              refine x_aload_n dX10_load_52 1 rfl ?_
              refine x_getR fl_X10_41 rfl rfl dX10_load_53 ?_
              refine x_iload_n dX10_load_56 0 rfl ?_
              have b13 : vp_in (nI j) 840 := by exact vp_in_nI (by omega) (by decide)
              refine x_iald rfl b13 dX10_load_57 ?_
              refine x_topi (y := U 60 j) (by rw [nI_clamp (by omega)]) ?_
              have b14 : vp_in (nI j) 170 := by exact vp_in_nI (by omega) (by decide)
              refine x_iast rfl b14 dX10_load_58 ?_
              refine YY.V (V' := uM U 50 j (U 60 j)) (by rw [nI_clamp (by omega)]) ?_
              obtain ⟨U15, eU15⟩ : ∃ v_v : vM, v_v = uM U 50 j (U 60 j) := ⟨_, rfl⟩
              refine YY.V eU15.symm ?_
              refine x_iinc 1 (v := (nI j) + 1) 0 [(1, .int ((nI j) + 1)), (0, .ref (g.2.1 49))] dX10_load_59 rfl (by rfl) (by decide) rfl ?_
              refine x_goto 36 dX10_load_62 (by decide) ?_
              refine YY.L (lv' := [(1, .int (nI (j + 1))), (0, .ref (g.2.1 49))]) (by rw [nI_1] <;> rfl) ?_
              exact ih (j + 1) U15 (by omega) (by intro i hi; rw [eU15]; by_cases z : i = j; (rw [z, uM_hit, hfo 60 j (by decide), hro j (by omega)]); (rw [uM_ni z]; exact hd i (by omega))) (by intro i hi; rw [eU15, uM_ni (by omega)]; exact hu i (by omega)) (by intro b i q; rw [eU15, uM_na q]; exact hfo b i q) (by omega)
        refine YY.L (lv' := [(1, .int (nI 0)), (0, .ref (g.2.1 49))]) (by rfl) ?_
        exact lp7 _ 0 U1 (by omega) (by intro i hi; omega) (by exact fun _ _ => rfl) (by exact fun _ _ _ => rfl) (Nat.lt_succ_self _)
      · have c6n : (¬ alR (ldO P n) (7 * ldN P n)) := Classical.not_not.mp (fun q => c6 (bP_0.mpr q))
        refine x_ldc ct_X10_97 dX10_load_31 ?_
        refine x_iret dX10_load_33 rfl ?_
        rw [hQ]
        obtain ⟨hz, hk⟩ := ld_3 (P := P) (n := n) hft (by omega) (by assumption)
        obtain ⟨l1, l2, l3⟩ := ld_n (m := m) (N := N) hk
        rw [hz, l1, l2, l3]
        exact ⟨_, rfl, rfl, hS.ML hF1, h4U, hF1.ML⟩
    · have c5n : 24 < ldN P n := Nat.not_le.mp (fun q => c5 ((nl_le (a := ldN P n) (b := 24) (rfl) (rfl) (by omega) (by omega)).mpr q))
      refine x_ldc ct_X10_98 dX10_load_21 ?_
      refine x_iret dX10_load_23 rfl ?_
      rw [hQ]
      obtain ⟨hz, hk⟩ := ld_2 (P := P) (n := n) hft (by omega)
      obtain ⟨l1, l2, l3⟩ := ld_n (m := m) (N := N) hk
      rw [hz, l1, l2, l3]
      exact ⟨_, rfl, rfl, hS.ML hF1, h4U, hF1.ML⟩
  · refine x_ldc ct_X10_187 dX10_load_9 ?_
    refine x_iret dX10_load_11 rfl ?_
    rw [hQ]
    obtain ⟨hz, hk⟩ := ld_1 (P := P) (n := n) (by rw [← ez]; assumption)
    obtain ⟨l1, l2, l3⟩ := ld_n (m := m) (N := N) hk
    rw [hz, l1, l2, l3]
    exact ⟨_, rfl, rfl, hS.ML hF1, h4U, hF1.ML⟩
