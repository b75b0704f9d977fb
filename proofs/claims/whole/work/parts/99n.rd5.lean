theorem mX6_takes2 {g : gX} {V : vM} {s : RSt} {i : Nat} (hI : RI i s) (hi : i ≤ 120) (hR : RC V s) (ch : Int32) (hch : 0 ≤ ch ∧ ch ≤ 127) : MM g jX6_takes V [.ref (g.2.1 37), .int ch, .ref (g.2.1 2)] (eI (TK V (rSt ch s))) := by
  obtain ⟨⟨k, sm, ng⟩, ⟨c, v, d, cm⟩, ⟨x, y, sx, sy⟩, X, O⟩ := s
  exact mX6_takes hI hi hR ch hch
theorem mX6_isWhole2 {g : gX} {V : vM} {s : RSt} {i : Nat} (hI : RI i s) (hi : i ≤ 120) (hR : RC V s) : MM g jX6_isWhole V [.ref (g.2.1 37)] (pI V (bP (rWh s))) := by
  obtain ⟨⟨k, sm, ng⟩, ⟨c, v, d, cm⟩, ⟨x, y, sx, sy⟩, X, O⟩ := s
  exact mX6_isWhole hI hi hR
theorem mX6_finishCommand2 {g : gX} {V : vM} {s : RSt} {i : Nat} (hI : RI i s) (hi : i ≤ 120) (hR : RC V s) (hw : rWh s) : MM g jX6_finishCommand V [.ref (g.2.1 37), .ref (g.2.1 2)] (eV (fun U => RC U (rFC s) ∧ frR V U)) := by
  obtain ⟨⟨k, sm, ng⟩, ⟨c, v, d, cm⟩, ⟨x, y, sx, sy⟩, X, O⟩ := s
  exact mX6_finishCommand hI hi hR (Or.inr (hw.2.elim Or.inl (fun z => Or.inr z.2)))
theorem RC_0 {V U W : vM} (eU : U = uM (uM V 2 2 0) 2 3 0) (eW : W = (uM (uM (uM (uM (uM (uM (uM (uM (uM (uM (uM (uM U 37 1 (-1)) 37 2 0) 37 3 0) 37 4 0) 37 8 0) 37 9 0) 37 10 0) 37 11 0) 37 12 0) 37 5 0) 37 6 0) 37 7 0)) : RC W r0 ∧ frR V W := by
  refine ⟨⟨⟨?_, ?_, ?_, ?_, ?_, ?_, ?_, ?_, ?_, ?_, ?_, ?_, fun i hi => absurd hi (Nat.not_lt_zero _)⟩, ⟨?_, ?_, fun i hi => absurd hi (by rw [show min r0.2.1.2.2.2 24 = 0 from rfl]; omega)⟩⟩, ?_⟩
  · rw [eW]; simp [uM_at]
  · rw [eW]; simp [uM_at]
  · rw [eW]; simp [uM_at]; rfl
  · rw [eW]; simp [uM_at]; rfl
  · rw [eW]; simp [uM_at]; rfl
  · rw [eW]; simp [uM_at]; rfl
  · rw [eW]; simp [uM_at]
  · rw [eW]; simp [uM_at]
  · rw [eW]; simp [uM_at]
  · rw [eW]; simp [uM_at]
  · rw [eW]; simp [uM_at]
  · rw [eW]; simp [uM_at]; rfl
  · rw [eW, eU]; simp [uM_at]; rfl
  · rw [eW, eU]; simp [uM_at]; rfl
  · intro a i p1 p2 p3 p4 p5
    rw [eW]; simp only [uM_na p4]; rw [eU]; simp only [uM_na p1]
theorem nI_nn {i : Nat} (h : i ≤ 120) : ¬ nI i = -1000006 := fun z => by
  have := nI_pos' (n := i) (by omega)
  rw [z] at this; exact absurd this (by decide)
set_option maxHeartbeats 1000000 in
set_option maxRecDepth 100000 in
theorem mX4_readInto {g : gX} {V : vM} {n : Nat} (hn : n ≤ 120) (hsz : V 10 2 = nI n) (hch : ∀ j, j < n → 0 ≤ V 36 j ∧ V 36 j ≤ 127) : MM g jX4_readInto V [.ref (g.2.1 10), .ref (g.2.1 2)] (eI (fun z U => z = rFt (V 36) n n 0 ∧ (z = -1000006 → ∃ s, rRun (V 36) n = some s ∧ rWh s ∧ RC U (rFC s)) ∧ frR V U)) := by
  refine MM.of plX4_readInto (Nat.le_of_ble_eq_true rfl) ?_
  obtain ⟨Q, hQ⟩ : ∃ Q : Option Value → vM → Prop, Q = (eI (fun z U => z = rFt (V 36) n n 0 ∧ (z = -1000006 → ∃ s, rRun (V 36) n = some s ∧ rWh s ∧ RC U (rFC s)) ∧ frR V U)) := ⟨_, rfl⟩
  rw [← hQ]
  show XX g jX4_readInto Q V 0 [(0, .ref (g.2.1 10)), (1, .ref (g.2.1 2))] []
  refine x_aload_n dX4_readInto_0 1 rfl ?_
  refine x_callV (K := jX5_clear) [] lk_X4_26 ⟨⟨rfl, rfl⟩, Nat.le_of_ble_eq_true rfl, Nat.le_of_ble_eq_true rfl⟩ rfl rfl (mX5_clear V isP2) rfl (Nat.le_of_ble_eq_true rfl) rfl dX4_readInto_1 (kdV ?_)
  obtain ⟨U1, eU1⟩ : ∃ v_v : vM, v_v = uM (uM V 2 2 0) 2 3 0 := ⟨_, rfl⟩
  refine YY.V eU1.symm ?_
  refine x_aload_n dX4_readInto_4 0 rfl ?_
  refine x_getR fl_X4_18 rfl rfl dX4_readInto_5 ?_
  refine x_callV (K := jX6_begin) [] lk_X4_31 ⟨⟨rfl, rfl⟩, Nat.le_of_ble_eq_true rfl, Nat.le_of_ble_eq_true rfl⟩ rfl rfl (mX6_begin U1) rfl (Nat.le_of_ble_eq_true rfl) rfl dX4_readInto_8 (kdV ?_)
  obtain ⟨U2, eU2⟩ : ∃ v_v : vM, v_v = (uM (uM (uM (uM (uM (uM (uM (uM (uM (uM (uM (uM U1 37 1 (-1)) 37 2 0) 37 3 0) 37 4 0) 37 8 0) 37 9 0) 37 10 0) 37 11 0) 37 12 0) 37 5 0) 37 6 0) 37 7 0) := ⟨_, rfl⟩
  refine YY.V eU2.symm ?_
  obtain ⟨hr0, hf0⟩ := RC_0 eU1 eU2
  refine x_iconst (v := 0) dX4_readInto_11 (by decide) ?_
  refine x_istore_n 2 [(2, .int 0), (0, .ref (g.2.1 10)), (1, .ref (g.2.1 2))] dX4_readInto_12 rfl (by decide) rfl ?_
  have lp3 : ∀ (fu : Nat) (i : Nat) (U : vM) (s : RSt), (i ≤ n) → (rRun (V 36) i = some s) → (RC U s) → (frR V U) → (n - i) < fu → XX g jX4_readInto Q U 13 [(2, .int (nI i)), (0, .ref (g.2.1 10)), (1, .ref (g.2.1 2))] [] := by
    intro fu
    induction fu with
    | zero => intro _ _ _ _ _ _ _ hmz; exact absurd hmz (Nat.not_lt_zero _)
    | succ fu ih =>
      intro i U s hi hr hRC hfU hmz
      have hto := rFt_to (P := V 36) (n := n) i 0 s (by omega) (by rw [Nat.zero_add]; exact hr)
      rw [Nat.zero_add, Nat.sub_zero] at hto
      refine x_iload_n dX4_readInto_13 0 rfl ?_
      refine x_aload_n dX4_readInto_14 1 rfl ?_
      refine x_getI fl_X4_22 rfl rfl dX4_readInto_15 ?_
      refine x_topi ((hfU 10 2 (by decide) (by decide) (by decide) (by decide) (by decide)).trans hsz) ?_
      refine x_icmp_ge 46 dX4_readInto_18 (by decide) (fun c4 => ?_) (fun c4 => ?_)
      · have c4n : n ≤ i := (nl_le (a := n) (b := i) (rfl) (rfl) (by omega) (by omega)).mp c4
        refine x_aload_n dX4_readInto_46 1 rfl ?_
        refine x_getR fl_X4_18 rfl rfl dX4_readInto_47 ?_
        refine x_callV (K := jX6_isWhole) [] lk_X4_38 ⟨⟨rfl, rfl⟩, Nat.le_of_ble_eq_true rfl, Nat.le_of_ble_eq_true rfl⟩ rfl rfl (mX6_isWhole2 (RI_run i s hr) (by omega) hRC) rfl (Nat.le_of_ble_eq_true rfl) rfl dX4_readInto_50 (kpI ?_)
        refine x_if_ne 61 dX4_readInto_53 (by decide) (fun c5 => ?_) (fun c5 => ?_)
        · have c5n : (rWh s) := Classical.not_not.mp (fun q => c5 (bP_0.mpr q))
          refine x_aload_n dX4_readInto_61 1 rfl ?_
          refine x_getR fl_X4_18 rfl rfl dX4_readInto_62 ?_
          refine x_aload_n dX4_readInto_65 2 rfl ?_
          refine x_callV (K := jX6_finishCommand) [.ref (g.2.1 2)] lk_X4_42 ⟨⟨rfl, rfl⟩, Nat.le_of_ble_eq_true rfl, Nat.le_of_ble_eq_true rfl⟩ rfl rfl (mX6_finishCommand2 (RI_run i s hr) (by omega) hRC (by assumption)) rfl (Nat.le_of_ble_eq_true rfl) rfl dX4_readInto_66 (keV fun U6 hU7 => ?_)
          refine x_ldc ct_X4_46 dX4_readInto_69 ?_
          refine x_iret dX4_readInto_71 rfl ?_
          rw [hQ]
          have ein : i = n := by omega
          subst ein
          refine ⟨_, rfl, ?_, fun _ => ⟨s, hr, by assumption, hU7.1⟩, hfU.trans hU7.2⟩
          rw [hto, Nat.sub_self]; exact ((rFt_e hr).1 (by assumption)).symm
        · have c5n : ¬ (rWh s) := bP_0.mp c5
          refine x_aload_n dX4_readInto_56 1 rfl ?_
          refine x_getI fl_X4_22 rfl rfl dX4_readInto_57 ?_
          refine x_topi ((hfU 10 2 (by decide) (by decide) (by decide) (by decide) (by decide)).trans hsz) ?_
          refine x_iret dX4_readInto_60 rfl ?_
          rw [hQ]
          have ein : i = n := by omega
          subst ein
          refine ⟨_, rfl, ?_, fun z => absurd z (nI_nn hn), hfU⟩
          rw [hto, Nat.sub_self]; exact ((rFt_e hr).2 (by assumption)).symm
      · have c4n : i < n := Nat.not_le.mp (fun q => c4 ((nl_le (a := n) (b := i) (rfl) (rfl) (by omega) (by omega)).mpr q))
        refine x_aload_n dX4_readInto_21 1 rfl ?_
        refine x_getR fl_X4_18 rfl rfl dX4_readInto_22 ?_
        refine x_aload_n dX4_readInto_25 1 rfl ?_
        refine x_getR fl_X4_9 rfl rfl dX4_readInto_26 ?_
        refine x_iload_n dX4_readInto_29 0 rfl ?_
        have b8 : vp_in (nI i) 120 := by exact vp_in_nI (by omega) (by decide)
        refine x_cald rfl b8 dX4_readInto_30 ?_
        refine x_topi (y := U 36 i) (by rw [nI_clamp (by omega)]) ?_
        refine x_topi (hfU 36 i (by decide) (by decide) (by decide) (by decide) (by decide)) ?_
        refine x_aload_n dX4_readInto_31 2 rfl ?_
        refine x_callV (K := jX6_takes) [.int (V 36 i), .ref (g.2.1 2)] lk_X4_34 ⟨⟨rfl, rfl⟩, Nat.le_of_ble_eq_true rfl, Nat.le_of_ble_eq_true rfl⟩ rfl rfl (mX6_takes2 (RI_run i s hr) (by omega) hRC _ (hch i (by omega))) rfl (Nat.le_of_ble_eq_true rfl) rfl dX4_readInto_32 (keI fun r11 U9 hU10 => ?_)
        refine x_if_ne 40 dX4_readInto_35 (by decide) (fun c12 => ?_) (fun c12 => ?_)
        · obtain ⟨s', es', hR', hf'⟩ : ∃ s', rSt (V 36 i) s = some s' ∧ RC U9 s' ∧ frR U U9 := hU10.elim (fun q => absurd q.1 (by assumption)) (fun q => q.2)
          refine x_iinc 2 (v := (nI i) + 1) 0 [(2, .int ((nI i) + 1)), (0, .ref (g.2.1 10)), (1, .ref (g.2.1 2))] dX4_readInto_40 rfl (by rfl) (by decide) rfl ?_
          refine x_goto 13 dX4_readInto_43 (by decide) ?_
          refine YY.L (lv' := [(2, .int (nI (i + 1))), (0, .ref (g.2.1 10)), (1, .ref (g.2.1 2))]) (by rw [nI_1] <;> rfl) ?_
          exact ih (i + 1) U9 s' (by omega) (by rw [rRun_s hr]; exact es') (by exact hR') (by exact hfU.trans hf') (by omega)
        · refine x_iload_n dX4_readInto_38 0 rfl ?_
          refine x_iret dX4_readInto_39 rfl ?_
          rw [hQ]
          obtain ⟨e0, eU⟩ : rSt (V 36 i) s = none ∧ U9 = U := hU10.elim (fun q => q.2) (fun q => absurd ((by assumption : r11 = 0).symm.trans q.1) (by decide))
          refine ⟨_, rfl, ?_, fun z => absurd z (nI_nn (by omega)), by rw [eU]; exact hfU⟩
          rw [hto, show n - i = (n - (i + 1)) + 1 by omega]; exact (rFt_n hr e0).symm
  refine YY.L (lv' := [(2, .int (nI 0)), (0, .ref (g.2.1 10)), (1, .ref (g.2.1 2))]) (by rfl) ?_
  exact lp3 _ 0 U2 r0 (by omega) (by rfl) (by exact hr0) (by exact hf0) (Nat.lt_succ_self _)
set_option maxHeartbeats 1000000 in
set_option maxRecDepth 100000 in
theorem mX4_commandsRead {g : gX} (V : vM) : MM g jX4_commandsRead V [.ref (g.2.1 10)] (pI V (V 37 12)) := by
  refine MM.of plX4_commandsRead (Nat.le_of_ble_eq_true rfl) ?_
  obtain ⟨Q, hQ⟩ : ∃ Q : Option Value → vM → Prop, Q = (pI V (V 37 12)) := ⟨_, rfl⟩
  rw [← hQ]
  show XX g jX4_commandsRead Q V 0 [(0, .ref (g.2.1 10))] []
  refine x_aload_n dX4_commandsRead_0 0 rfl ?_
  refine x_getR fl_X4_18 rfl rfl dX4_commandsRead_1 ?_
  refine x_getI fl_X4_47 rfl rfl dX4_commandsRead_4 ?_
  refine x_iret dX4_commandsRead_7 rfl ?_
  rw [hQ]
  exact ⟨rfl, rfl⟩
theorem CS.ag2 {V U : vM} {m : Nat → Int32} {N : Nat} {t : Int32} (h : CS V m N t) (f : frR V U) : CS U m N t := h.ag (fun q i p => f q i (by omega) (by omega) (by omega) (by omega) (by omega))
set_option maxHeartbeats 1000000 in
set_option maxRecDepth 100000 in
theorem mX9_fault {g : gX} {m : Nat → Int32} {N : Nat} {t : Int32} {V : vM} {n : Nat} (hn : n ≤ 120) (hsz : V 10 2 = nI n) (hch : ∀ j, j < n → 0 ≤ V 36 j ∧ V 36 j ≤ 127) (hC : CS V m N t) : MM g jX9_fault V [.ref (g.2.1 0)] (eI (fun z U => z = rFt (V 36) n n 0 ∧ CS U m N t ∧ frP V U)) := by
  refine MM.of plX9_fault (Nat.le_of_ble_eq_true rfl) ?_
  obtain ⟨Q, hQ⟩ : ∃ Q : Option Value → vM → Prop, Q = (eI (fun z U => z = rFt (V 36) n n 0 ∧ CS U m N t ∧ frP V U)) := ⟨_, rfl⟩
  rw [← hQ]
  show XX g jX9_fault Q V 0 [(0, .ref (g.2.1 0))] []
  refine x_aload_n dX9_fault_0 0 rfl ?_
  refine x_getR fl_X9_60 rfl rfl dX9_fault_1 ?_
  refine x_aload_n dX9_fault_4 0 rfl ?_
  refine x_getR fl_X9_16 rfl rfl dX9_fault_5 ?_
  refine x_callV (K := jX4_readInto) [.ref (g.2.1 2)] lk_X9_160 ⟨⟨rfl, rfl⟩, Nat.le_of_ble_eq_true rfl, Nat.le_of_ble_eq_true rfl⟩ rfl rfl (mX4_readInto hn hsz hch) rfl (Nat.le_of_ble_eq_true rfl) rfl dX9_fault_8 (keI fun r3 U1 hU2 => ?_)
  obtain ⟨ez, hrd, hfr⟩ := hU2
  refine x_iret dX9_fault_11 rfl ?_
  rw [hQ]
  exact ⟨_, rfl, ez, hC.ag2 hfr, hfr.K.P⟩
