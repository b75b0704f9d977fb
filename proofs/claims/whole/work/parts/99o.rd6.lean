theorem rd_all {V : vM} {N : Nat} {O : Nat → Int32} (hP : PPr V 2 14 15 N O) (hw : rWF O N) : allR V N ↔ alR O (7 * N) := by
  have mzl := mv7_le O
  have mvz : ∀ i, i < N → O (mv7 O i * 7) = 0 := by
    intro i hi
    have h0 : O (0 * 7) = 0 := by
      by_cases c : O (0 * 7) = 0
      · exact c
      · obtain ⟨j, hj, -⟩ := (hw 0 (by omega)).2.1 c
        omega
    have := mv7_0 (by simpa using h0) i
    exact this
  constructor
  · intro hA j hj h7
    obtain ⟨i, p, rfl, p1, p7⟩ : ∃ i p, j = i * 7 + p ∧ 1 ≤ p ∧ p < 7 := ⟨j / 7, j % 7, by omega, by omega, by omega⟩
    have hi : i < N := by omega
    obtain ⟨hk0, q1, q2, q3, -⟩ := hP.2.2 i hi
    obtain ⟨k04, -, z1, z2, z3⟩ := hw i hi
    have A := hA i hi
    rw [hk0] at A
    have zz : ∀ {q : Nat}, O (i * 7 + q) = 0 → p = q → inR (O (i * 7 + p)) := fun e e2 => by rw [e2, e]; exact inR0
    rcases k5 k04 with k | k | k | k | k
    · rw [k] at A
      obtain ⟨e1, e2⟩ := q1 (Or.inl k)
      obtain ⟨y1, y2⟩ := z1 (Or.inl k)
      obtain ⟨y3, y4⟩ := z2 (Or.inl k)
      rcases (show p = 1 ∨ p = 2 ∨ p = 3 ∨ p = 4 ∨ p = 5 ∨ p = 6 by omega) with h | h | h | h | h | h
      · exact zz y1 h
      · exact zz y2 h
      · exact zz y3 h
      · exact zz y4 h
      · rw [h, ← e1]; exact A 0 (by decide)
      · rw [h, ← e2]; exact A 1 (by decide)
    · rw [k] at A
      obtain ⟨e1, e2⟩ := q1 (Or.inr k)
      obtain ⟨y1, y2⟩ := z1 (Or.inr (Or.inl k))
      obtain ⟨y3, y4⟩ := z2 (Or.inr (Or.inl k))
      rcases (show p = 1 ∨ p = 2 ∨ p = 3 ∨ p = 4 ∨ p = 5 ∨ p = 6 by omega) with h | h | h | h | h | h
      · exact zz y1 h
      · exact zz y2 h
      · exact zz y3 h
      · exact zz y4 h
      · rw [h, ← e1]; exact A 0 (by decide)
      · rw [h, ← e2]; exact A 1 (by decide)
    · rw [k] at A
      obtain ⟨e1, e2, e3, e4⟩ := q2 k
      obtain ⟨y3, y4⟩ := z2 (Or.inr (Or.inr (Or.inl k)))
      rcases (show p = 1 ∨ p = 2 ∨ p = 3 ∨ p = 4 ∨ p = 5 ∨ p = 6 by omega) with h | h | h | h | h | h
      · rw [h, ← e1]; exact A 0 (by decide)
      · rw [h, ← e2]; exact A 1 (by decide)
      · exact zz y3 h
      · exact zz y4 h
      · rw [h, ← e3]; exact A 2 (by decide)
      · rw [h, ← e4]; exact A 3 (by decide)
    · rw [k] at A
      obtain ⟨e1, e2, e3, e4, e5, e6⟩ := q3 k
      rcases (show p = 1 ∨ p = 2 ∨ p = 3 ∨ p = 4 ∨ p = 5 ∨ p = 6 by omega) with h | h | h | h | h | h
      · rw [h, ← e1]; exact A 0 (by decide)
      · rw [h, ← e2]; exact A 1 (by decide)
      · rw [h, ← e3]; exact A 2 (by decide)
      · rw [h, ← e4]; exact A 3 (by decide)
      · rw [h, ← e5]; exact A 4 (by decide)
      · rw [h, ← e6]; exact A 5 (by decide)
    · obtain ⟨y1, y2⟩ := z1 (Or.inr (Or.inr k))
      obtain ⟨y3, y4⟩ := z2 (Or.inr (Or.inr (Or.inr k)))
      obtain ⟨y5, y6⟩ := z3 k
      rcases (show p = 1 ∨ p = 2 ∨ p = 3 ∨ p = 4 ∨ p = 5 ∨ p = 6 by omega) with h | h | h | h | h | h
      · exact zz y1 h
      · exact zz y2 h
      · exact zz y3 h
      · exact zz y4 h
      · exact zz y5 h
      · exact zz y6 h
  · intro hA i hi p hp
    obtain ⟨hk0, q1, q2, q3, q4⟩ := hP.2.2 i hi
    rw [hk0] at hp
    have B : ∀ q r, q < N → 1 ≤ r → r < 7 → inR (O (q * 7 + r)) := fun q r h1 h2 h3 => hA _ (by omega) (by omega)
    rcases k5 (hw i hi).1 with k | k | k | k | k
    · rw [k] at hp
      obtain ⟨e1, e2⟩ := q1 (Or.inl k)
      rcases (show p = 0 ∨ p = 1 by simp [ptn] at hp; omega) with rfl | rfl
      · rw [Nat.add_zero, e1]; exact B _ _ hi (by omega) (by omega)
      · rw [e2]; exact B _ _ hi (by omega) (by omega)
    · rw [k] at hp
      obtain ⟨e1, e2⟩ := q1 (Or.inr k)
      rcases (show p = 0 ∨ p = 1 by simp [ptn] at hp; omega) with rfl | rfl
      · rw [Nat.add_zero, e1]; exact B _ _ hi (by omega) (by omega)
      · rw [e2]; exact B _ _ hi (by omega) (by omega)
    · rw [k] at hp
      obtain ⟨e1, e2, e3, e4⟩ := q2 k
      rcases (show p = 0 ∨ p = 1 ∨ p = 2 ∨ p = 3 by simp [ptn] at hp; omega) with rfl | rfl | rfl | rfl
      · rw [Nat.add_zero, e1]; exact B _ _ hi (by omega) (by omega)
      · rw [e2]; exact B _ _ hi (by omega) (by omega)
      · rw [e3]; exact B _ _ hi (by omega) (by omega)
      · rw [e4]; exact B _ _ hi (by omega) (by omega)
    · rw [k] at hp
      obtain ⟨e1, e2, e3, e4, e5, e6⟩ := q3 k
      rcases (show p = 0 ∨ p = 1 ∨ p = 2 ∨ p = 3 ∨ p = 4 ∨ p = 5 by simp [ptn] at hp; omega) with rfl | rfl | rfl | rfl | rfl | rfl
      · rw [Nat.add_zero, e1]; exact B _ _ hi (by omega) (by omega)
      · rw [e2]; exact B _ _ hi (by omega) (by omega)
      · rw [e3]; exact B _ _ hi (by omega) (by omega)
      · rw [e4]; exact B _ _ hi (by omega) (by omega)
      · rw [e5]; exact B _ _ hi (by omega) (by omega)
      · rw [e6]; exact B _ _ hi (by omega) (by omega)
    · obtain ⟨e1, e2⟩ := q4 k
      have ml := mzl i
      unfold ex7 at e1
      unfold ey7 at e2
      rw [if_pos k] at e1 e2
      rw [k] at hp
      rcases (show p = 0 ∨ p = 1 by simp [ptn] at hp; omega) with rfl | rfl
      · rw [Nat.add_zero, e1]; exact B _ _ (by omega) (by omega) (by omega)
      · rw [e2]; exact B _ _ (by omega) (by omega) (by omega)
theorem rWF.wf {O : Nat → Int32} {N : Nat} (h : rWF O N) (hN : N ≤ 24) (hA : alR O (7 * N)) : WF O N :=
  ⟨hN, fun i hi => ⟨(h i hi).1, (h i hi).2.1, fun p p1 p7 => hA _ (by omega) (by omega), (h i hi).2.2⟩⟩
theorem WF.row {m m2 : Nat → Int32} {N : Nat} (h : WF m N) (q : ∀ i p, i < N → p < 7 → m2 (i * 7 + p) = m (i * 7 + p)) : WF m2 N := by
  have q0 : ∀ i, i < N → m2 (i * 7) = m (i * 7) := fun i hi => q i 0 hi (by omega)
  refine ⟨h.1, fun i hi => ?_⟩
  obtain ⟨h1, h2, h3, h4⟩ := h.2 i hi
  rw [q0 i hi, q i 1 hi (by omega), q i 2 hi (by omega), q i 3 hi (by omega), q i 4 hi (by omega), q i 5 hi (by omega), q i 6 hi (by omega)]
  refine ⟨h1, fun z => ?_, fun p p1 p7 => by rw [q i p hi p7]; exact h3 p p1 p7, h4⟩
  obtain ⟨j, e1, e2⟩ := h2 z
  exact ⟨j, e1, by rw [q0 j (by omega)]; exact e2⟩
/-- what was read, when the text is whole -/
noncomputable def ldF (P : Nat → Int32) (n : Nat) : RSt := match rRun P n with
  | none => r0
  | some s => rFC s
noncomputable abbrev ldN (P : Nat → Int32) (n : Nat) : Nat := (ldF P n).2.1.2.2.2
noncomputable abbrev ldO (P : Nat → Int32) (n : Nat) : Nat → Int32 := (ldF P n).2.2.2.2
def ldK (P : Nat → Int32) (n : Nat) : Prop := rFt P n n 0 = -1000006 ∧ ldN P n ≤ 24 ∧ alR (ldO P n) (7 * ldN P n)
noncomputable def ldZ (P : Nat → Int32) (n : Nat) : Int32 := if rFt P n n 0 = -1000006 then (if 24 < ldN P n then -1000004 else @ite _ (alR (ldO P n) (7 * ldN P n)) (Classical.propDecidable _) (nI (ldN P n)) (-1000005)) else -1000003
noncomputable def ldM (P : Nat → Int32) (n : Nat) (m : Nat → Int32) : Nat → Int32 := @ite _ (ldK P n) (Classical.propDecidable _) (fun j => if j < 7 * ldN P n then ldO P n j else if j = 168 then nI (ldN P n) else m j) m
noncomputable def ldS (P : Nat → Int32) (n N : Nat) : Nat := @ite _ (ldK P n) (Classical.propDecidable _) (ldN P n) N
noncomputable def ldT (P : Nat → Int32) (n : Nat) : Nat := @ite _ (ldK P n) (Classical.propDecidable _) 0 n
section
variable {P : Nat → Int32} {n N : Nat} {m : Nat → Int32}
theorem ld_n (h : ¬ ldK P n) : ldM P n m = m ∧ ldS P n N = N ∧ ldT P n = n := by
  unfold ldM ldS ldT; rw [if_neg h, if_neg h, if_neg h]; exact ⟨rfl, rfl, rfl⟩
theorem ld_y (h : ldK P n) : ldZ P n = nI (ldN P n) ∧ ldM P n m = (fun j => if j < 7 * ldN P n then ldO P n j else if j = 168 then nI (ldN P n) else m j) ∧ ldS P n N = ldN P n ∧ ldT P n = 0 := by
  unfold ldM ldS ldT; rw [if_pos h, if_pos h, if_pos h]
  refine ⟨?_, rfl, rfl, rfl⟩
  unfold ldZ; rw [if_pos h.1, if_neg (by have := h.2.1; omega), if_pos h.2.2]
theorem ld_1 (h : ¬ rFt P n n 0 = -1000006) : ldZ P n = -1000003 ∧ ¬ ldK P n := ⟨by unfold ldZ; rw [if_neg h], fun q => h q.1⟩
theorem ld_2 (h : rFt P n n 0 = -1000006) (h2 : 24 < ldN P n) : ldZ P n = -1000004 ∧ ¬ ldK P n := ⟨by unfold ldZ; rw [if_pos h, if_pos h2], fun q => absurd q.2.1 (by omega)⟩
theorem ld_3 (h : rFt P n n 0 = -1000006) (h2 : ¬ 24 < ldN P n) (h3 : ¬ alR (ldO P n) (7 * ldN P n)) : ldZ P n = -1000005 ∧ ¬ ldK P n := ⟨by unfold ldZ; rw [if_pos h, if_neg h2, if_neg h3], fun q => h3 q.2.2⟩
theorem ldF_e {s : RSt} (h : rRun P n = some s) : ldF P n = rFC s := by unfold ldF; rw [h]
end
/-- what reading leaves alone -/
def frL (V U : vM) : Prop := ∀ a i, pk a i → a ≠ 1 → a ≠ 12 → a ≠ 13 → ¬ (a = 10 ∧ i = 2) → U a i = V a i
theorem frR.L {V U : vM} (h : frR V U) : frL V U := fun a i p q1 q2 q3 _ => h.K.P a i p q1 q2 q3
theorem RC.cm {V : vM} {s : RSt} (h : RC V s) : V 37 12 = nI s.2.1.2.2.2 := by
  obtain ⟨⟨k, sm, ng⟩, ⟨c, v, d, cm⟩, ⟨x, y, sx, sy⟩, X, O⟩ := s
  exact h.1.2.2.2.2.2.2.2.2.2.2.2.1
theorem RE.le {i : Nat} {s : RSt} (h : RE i s) : s.2.1.2.2.2 ≤ i := by
  obtain ⟨⟨k, sm, ng⟩, ⟨c, v, d, cm⟩, ⟨x, y, sx, sy⟩, X, O⟩ := s
  exact h.1
theorem RE.wf {i : Nat} {s : RSt} (h : RE i s) : rWF s.2.2.2.2 s.2.1.2.2.2 := by
  obtain ⟨⟨k, sm, ng⟩, ⟨c, v, d, cm⟩, ⟨x, y, sx, sy⟩, X, O⟩ := s
  exact h.2.1
set_option maxHeartbeats 1000000 in
set_option maxRecDepth 100000 in
theorem mX9_load {g : gX} {m : Nat → Int32} {N : Nat} {t : Int32} {V : vM} {n : Nat} (hn : n ≤ 120) (hsz : V 10 2 = nI n) (hch : ∀ j, j < n → 0 ≤ V 36 j ∧ V 36 j ≤ 127) (hC : CS V m N t) : MM g jX9_load V [.ref (g.2.1 0)] (eI (fun z U => z = ldZ (V 36) n ∧ CS U (ldM (V 36) n m) (ldS (V 36) n N) t ∧ U 10 2 = nI (ldT (V 36) n) ∧ frL V U)) := by
  refine MM.of plX9_load (Nat.le_of_ble_eq_true rfl) ?_
  obtain ⟨Q, hQ⟩ : ∃ Q : Option Value → vM → Prop, Q = (eI (fun z U => z = ldZ (V 36) n ∧ CS U (ldM (V 36) n m) (ldS (V 36) n N) t ∧ U 10 2 = nI (ldT (V 36) n) ∧ frL V U)) := ⟨_, rfl⟩
  rw [← hQ]
  show XX g jX9_load Q V 0 [(0, .ref (g.2.1 0))] []
  refine x_aload_n dX9_load_0 0 rfl ?_
  refine x_getR fl_X9_60 rfl rfl dX9_load_1 ?_
  refine x_aload_n dX9_load_4 0 rfl ?_
  refine x_getR fl_X9_16 rfl rfl dX9_load_5 ?_
  refine x_callV (K := jX4_readInto) [.ref (g.2.1 2)] lk_X9_160 ⟨⟨rfl, rfl⟩, Nat.le_of_ble_eq_true rfl, Nat.le_of_ble_eq_true rfl⟩ rfl rfl (mX4_readInto hn hsz hch) rfl (Nat.le_of_ble_eq_true rfl) rfl dX9_load_8 (keI fun r3 U1 hU2 => ?_)
  obtain ⟨ez, hrd, hfr⟩ := hU2
  refine x_ldc ct_X9_164 dX9_load_11 ?_
  refine x_icmp_eq 19 dX9_load_13 (by decide) (fun c4 => ?_) (fun c4 => ?_)
  · obtain ⟨s0, hrun, hwh, hRC⟩ := hrd (by assumption)
    have hft : rFt (V 36) n n 0 = -1000006 := ez.symm.trans (by assumption)
    have hF := ldF_e hrun
    have hRE := (RI_run n s0 hrun).fc.1
    rw [← hF] at hRC hRE
    have hcm : U1 37 12 = nI (ldN (V 36) n) := RC.cm hRC
    have hnl : ldN (V 36) n ≤ 120 := Nat.le_trans (RE.le hRE) hn
    have hwf : rWF (ldO (V 36) n) (ldN (V 36) n) := RE.wf hRE
    refine x_aload_n dX9_load_19 0 rfl ?_
    refine x_getR fl_X9_60 rfl rfl dX9_load_20 ?_
    refine x_callV (K := jX4_commandsRead) [] lk_X9_166 ⟨⟨rfl, rfl⟩, Nat.le_of_ble_eq_true rfl, Nat.le_of_ble_eq_true rfl⟩ rfl rfl (by have := mX4_commandsRead (g := g) U1; rw [hcm] at this; exact this) rfl (Nat.le_of_ble_eq_true rfl) rfl dX9_load_23 (kpI ?_)
    refine x_bipush (v := 24) dX9_load_26 (by decide) ?_
    refine x_icmp_le 34 dX9_load_28 (by decide) (fun c5 => ?_) (fun c5 => ?_)
    · have c5n : ldN (V 36) n ≤ 24 := (nl_le (a := ldN (V 36) n) (b := 24) (rfl) (rfl) (by omega) (by omega)).mp c5
      refine x_aload_n dX9_load_34 0 rfl ?_
      refine x_getR fl_X9_16 rfl rfl dX9_load_35 ?_
      have hcN : ¬ 24 < ldN (V 36) n := by omega
      have hPP : PPr U1 2 14 15 (ldN (V 36) n) (ldO (V 36) n) := by have := hRC.2; rw [show min (ldF (V 36) n).2.1.2.2.2 24 = ldN (V 36) n from Nat.min_eq_left (by omega)] at this; exact this
      refine x_callV (K := jX5_isInRange) [] lk_X9_151 ⟨⟨rfl, rfl⟩, Nat.le_of_ble_eq_true rfl, Nat.le_of_ble_eq_true rfl⟩ rfl rfl (by have := mX5_isInRange (g := g) U1 (ldN (V 36) n) (by omega) hPP.1 (fun i hi => by rw [(hPP.2.2 i hi).1]; exact (hwf i hi).1); rw [bP_iff (rd_all hPP hwf)] at this; exact this) rfl (Nat.le_of_ble_eq_true rfl) rfl dX9_load_38 (kpI ?_)
      refine x_if_ne 47 dX9_load_41 (by decide) (fun c6 => ?_) (fun c6 => ?_)
      · have c6n : (alR (ldO (V 36) n) (7 * ldN (V 36) n)) := Classical.not_not.mp (fun q => c6 (bP_0.mpr q))
        refine x_aload_n dX9_load_47 0 rfl ?_
        refine x_getR fl_X9_12 rfl rfl dX9_load_48 ?_
        refine x_aload_n dX9_load_51 0 rfl ?_
        refine x_getR fl_X9_16 rfl rfl dX9_load_52 ?_
        refine x_callV (K := jX5_become) [.ref (g.2.1 2)] lk_X9_140 ⟨⟨rfl, rfl⟩, Nat.le_of_ble_eq_true rfl, Nat.le_of_ble_eq_true rfl⟩ rfl rfl (mX5_become U1 isP1 isP2 (by decide) (by decide) (by decide) (by decide) (by decide) (by decide) (by decide)) rfl (Nat.le_of_ble_eq_true rfl) rfl dX9_load_55 (kdV ?_)
        obtain ⟨U7, eU7⟩ : ∃ v_v : vM, v_v = bc U1 1 12 13 2 14 15 := ⟨_, rfl⟩
        refine YY.V eU7.symm ?_
        refine x_aload_n dX9_load_58 0 rfl ?_
        refine x_iconst (v := 1) dX9_load_59 (by decide) ?_
        have z8 : (1 : Int32) = 0 ∨ (1 : Int32) = 1 := by first | exact Or.inl rfl | exact Or.inr rfl | grind
        refine x_putZ fp_X9_75 rfl rfl z8 dX9_load_60 ?_
        obtain ⟨U9, eU9⟩ : ∃ v_v : vM, v_v = uM U7 0 12 1 := ⟨_, rfl⟩
        refine YY.V eU9.symm ?_
        refine x_aload_n dX9_load_63 0 rfl ?_
        refine x_getR fl_X9_60 rfl rfl dX9_load_64 ?_
        refine x_iconst (v := 0) dX9_load_67 (by decide) ?_
        refine x_putI fp_X9_155 rfl rfl dX9_load_68 ?_
        obtain ⟨U10, eU10⟩ : ∃ v_v : vM, v_v = uM U9 10 2 0 := ⟨_, rfl⟩
        refine YY.V eU10.symm ?_
        have hA : alR (ldO (V 36) n) (7 * ldN (V 36) n) := by assumption
        obtain ⟨l0, l1, l2, l3⟩ := ld_y (P := V 36) (n := n) (m := m) (N := N) ⟨hft, by omega, hA⟩
        have hrow : ∀ i p, i < ldN (V 36) n → p < 7 → ldM (V 36) n m (i * 7 + p) = ldO (V 36) n (i * 7 + p) := fun i p h1 h2 => by rw [l1]; exact if_pos (by omega)
        have hPR := (hPP.row hrow).toPR ((hwf.wf (by omega) hA).row hrow) eU7
        have hPR2 : PR U10 1 12 13 (ldN (V 36) n) (ldM (V 36) n m) := hPR.kept (fun i => by rw [eU10, uM_na (by decide), eU9, uM_na (by decide)]) (fun i => by rw [eU10, uM_na (by decide), eU9, uM_na (by decide)]) (fun i => by rw [eU10, uM_na (by decide), eU9, uM_na (by decide)])
        refine x_aload_n dX9_load_71 0 rfl ?_
        refine x_getR fl_X9_12 rfl rfl dX9_load_72 ?_
        refine x_getI fl_X9_104 rfl rfl dX9_load_75 ?_
        refine x_topi (y := U7 1 2) (by rw [eU10, uM_na (by decide), eU9, uM_na (by decide)]) ?_
        refine x_topi (y := nI (ldN (V 36) n)) hPR.1 ?_
        refine x_iret dX9_load_78 rfl ?_
        rw [hQ]
        rw [l0, l2, l3]
        refine ⟨_, rfl, rfl, ⟨hPR2, ?_, fun z => absurd z ?_⟩, by rw [eU10, uM_hit]; rfl, fun q i p q1 q2 q3 q4 => ?_⟩
        · rw [eU10, uM_na (by decide), eU9, uM_ni (by decide), eU7, bc_at (by decide) (by decide) (by decide), hfr 0 11 (by decide) (by decide) (by decide) (by decide) (by decide)]; exact hC.2.1
        · rw [eU10, uM_na (by decide), eU9, uM_hit]; decide
        · rw [eU10, uM_at, if_neg (fun z => q4 z), eU9, uM_at, if_neg (fun z => p.2.2.2.2.2.2.2.2.2.2.2.2.1 z.1 z.2), eU7, bc_at q1 q2 q3]; exact hfr.K q i p
      · have c6n : ¬ (alR (ldO (V 36) n) (7 * ldN (V 36) n)) := bP_0.mp c6
        refine x_ldc ct_X9_107 dX9_load_44 ?_
        refine x_iret dX9_load_46 rfl ?_
        rw [hQ]
        obtain ⟨hz, hk⟩ := ld_3 (P := V 36) (n := n) hft hcN (by assumption)
        obtain ⟨l1, l2, l3⟩ := ld_n (m := m) (N := N) hk
        rw [hz, l1, l2, l3]
        exact ⟨_, rfl, rfl, hC.ag2 hfr, (hfr 10 2 (by decide) (by decide) (by decide) (by decide) (by decide)).trans hsz, hfr.L⟩
    · have c5n : 24 < ldN (V 36) n := Nat.not_le.mp (fun q => c5 ((nl_le (a := ldN (V 36) n) (b := 24) (rfl) (rfl) (by omega) (by omega)).mpr q))
      refine x_ldc ct_X9_156 dX9_load_31 ?_
      refine x_iret dX9_load_33 rfl ?_
      rw [hQ]
      obtain ⟨hz, hk⟩ := ld_2 (P := V 36) (n := n) hft (by omega)
      obtain ⟨l1, l2, l3⟩ := ld_n (m := m) (N := N) hk
      rw [hz, l1, l2, l3]
      exact ⟨_, rfl, rfl, hC.ag2 hfr, (hfr 10 2 (by decide) (by decide) (by decide) (by decide) (by decide)).trans hsz, hfr.L⟩
  · refine x_ldc ct_X9_165 dX9_load_16 ?_
    refine x_iret dX9_load_18 rfl ?_
    rw [hQ]
    obtain ⟨hz, hk⟩ := ld_1 (P := V 36) (n := n) (by rw [← ez]; assumption)
    obtain ⟨l1, l2, l3⟩ := ld_n (m := m) (N := N) hk
    rw [hz, l1, l2, l3]
    exact ⟨_, rfl, rfl, hC.ag2 hfr, (hfr 10 2 (by decide) (by decide) (by decide) (by decide) (by decide)).trans hsz, hfr.L⟩
