theorem cntM_cong {K K2 : Nat → Int32} : ∀ n, (∀ i, i < n → K i = K2 i) → cntM K n = cntM K2 n
  | 0, _ => rfl
  | n + 1, h => by
    unfold cntM
    rw [h n (by omega), cntM_cong n (fun i hi => h i (by omega))]
theorem WF.cpos {m : Nat → Int32} {N : Nat} (hw : WF m N) {k : Nat} (hk : k < N) : 0 < cntM (kd7 m) (k + 1) := cntM_pos (K := kd7 m) (by have := hw.first (by omega); simpa [kd7] using this) k
theorem bt_pred {c : Int32} {N : Nat} (hN : N < 2 ^ 31) : (0 ≤ c ∧ c ≤ nI N - 1) ↔ (0 ≤ c ∧ c < nI N) := by
  have e : (nI N - 1).toInt = (N : Int) - 1 := by
    rw [fb_subI] <;> rw [nI_toInt hN, show (1 : Int32).toInt = 1 from rfl] <;> omega
  rw [Int32.le_iff_toInt_le, Int32.le_iff_toInt_le, Int32.lt_iff_toInt_lt, e, nI_toInt hN]
  omega
def ctl7 (m : Nat → Int32) (k p : Nat) : Int32 := if m (k * 7) = 3 ∨ (m (k * 7) = 2 ∧ p < 2) then m (k * 7 + 1 + p) else -1000006
theorem PR.ctl {V : vM} {a k n N : Nat} {m : Nat → Int32} (h : PR V a k n N m) {i p : Nat} (hi : i < N) (hp : p < 4) : (if nI p < 2 * ptV V a k (nI i) - 2 then nbV V a n (nI i) (nI p) else -1000006) = ctl7 m i p := by
  rw [h.pt hi, h.nb hi (j := p) (by omega)]
  obtain ⟨q1, q2, q3, q4⟩ := (h.2.2.2 i hi).2
  unfold ctl7
  have lt : ∀ b : Nat, b < 24 → (nI p < nI b ↔ p < b) := fun b hb => nI_ltI (by omega) (by omega)
  rcases k5 (h.2.2.1.2 i hi).1 with e | e | e | e | e
  · rw [e, show (2 * pV (Int32.toNatClampNeg 0) - 2 : Int32) = nI 0 from rfl]
    rw [if_neg (show ¬ nI p < nI 0 from fun q => by have := (lt 0 (by omega)).mp q; omega), if_neg (by rintro (q | q); (exact absurd q (by decide)); exact absurd q.1 (by decide))]
  · rw [e, show (2 * pV (Int32.toNatClampNeg 1) - 2 : Int32) = nI 0 from rfl]
    rw [if_neg (show ¬ nI p < nI 0 from fun q => by have := (lt 0 (by omega)).mp q; omega), if_neg (by rintro (q | q); (exact absurd q (by decide)); exact absurd q.1 (by decide))]
  · rw [e, show (2 * pV (Int32.toNatClampNeg 2) - 2 : Int32) = nI 2 from rfl]
    by_cases q : p < 2
    · rw [if_pos (show nI p < nI 2 from (lt 2 (by omega)).mpr q), if_pos (Or.inr ⟨rfl, q⟩)]
      have : p = 0 ∨ p = 1 := by omega
      rcases this with rfl | rfl
      · exact (q2 e).1
      · exact (q2 e).2.1
    · rw [if_neg (show ¬ nI p < nI 2 from fun z => q ((lt 2 (by omega)).mp z)), if_neg (by rintro (z | z); (exact absurd z (by decide)); exact q z.2)]
  · rw [e, show (2 * pV (Int32.toNatClampNeg 3) - 2 : Int32) = nI 4 from rfl]
    rw [if_pos (show nI p < nI 4 from (lt 4 (by omega)).mpr hp), if_pos (Or.inl rfl)]
    have : p = 0 ∨ p = 1 ∨ p = 2 ∨ p = 3 := by omega
    rcases this with rfl | rfl | rfl | rfl
    · exact (q3 e).1
    · exact (q3 e).2.1
    · exact (q3 e).2.2.1
    · exact (q3 e).2.2.2.1
  · rw [e, show (2 * pV (Int32.toNatClampNeg 4) - 2 : Int32) = nI 0 from rfl]
    rw [if_neg (show ¬ nI p < nI 0 from fun q => by have := (lt 0 (by omega)).mp q; omega), if_neg (by rintro (q | q); (exact absurd q (by decide)); exact absurd q.1 (by decide))]
def cmdK (S : FS) (m : Nat → Int32) (k : Nat) (what : Int32) : Int32 := if what = 0 then m (k * 7) else if what = 1 then nI (cntM (kd7 m) (k + 1) - 1) else if what = 2 then S.2.2 5 k else if what = 3 then ex7 m k else if what = 4 then ey7 m k else if what = 5 then ctl7 m k 0 else if what = 6 then ctl7 m k 1 else if what = 7 then ctl7 m k 2 else if what = 8 then ctl7 m k 3 else -1000002
def cmdZ (S : FS) (m : Nat → Int32) (N : Nat) (c what : Int32) : Int32 := if 0 ≤ c ∧ c < nI N then cmdK S m c.toNatClampNeg what else -1000001
theorem cmdK_v (S : FS) (m : Nat → Int32) (k : Nat) : cmdK S m k 0 = m (k * 7) ∧ cmdK S m k 1 = nI (cntM (kd7 m) (k + 1) - 1) ∧ cmdK S m k 2 = S.2.2 5 k ∧ cmdK S m k 3 = ex7 m k ∧ cmdK S m k 4 = ey7 m k ∧ cmdK S m k 5 = ctl7 m k 0 ∧ cmdK S m k 6 = ctl7 m k 1 ∧ cmdK S m k 7 = ctl7 m k 2 ∧ cmdK S m k 8 = ctl7 m k 3 := by
  refine ⟨?_, ?_, ?_, ?_, ?_, ?_, ?_, ?_, ?_⟩ <;> simp [cmdK]
theorem cmdK_w (S : FS) (m : Nat → Int32) (k : Nat) {w : Nat} (h5 : 5 ≤ w) (h9 : w < 9) : cmdK S m k (nI w) = ctl7 m k (w - 5) := by
  obtain ⟨-, -, -, -, -, v5, v6, v7, v8⟩ := cmdK_v S m k
  have : w = 5 ∨ w = 6 ∨ w = 7 ∨ w = 8 := by omega
  rcases this with rfl | rfl | rfl | rfl
  · exact v5
  · exact v6
  · exact v7
  · exact v8
theorem cmdZ_no {S : FS} {m : Nat → Int32} {N : Nat} {c what : Int32} (h : ¬ (0 ≤ c ∧ c < nI N)) : cmdZ S m N c what = -1000001 := if_neg h
theorem cmdZ_k {S : FS} {m : Nat → Int32} {N : Nat} {c what : Int32} {k : Nat} (h24 : N ≤ 24) (hk : c = nI k) (hS : k < N) : cmdZ S m N c what = cmdK S m k what := by
  unfold cmdZ
  rw [hk, if_pos (nI_bt (by omega) hS), nI_clamp (by omega)]
set_option maxHeartbeats 1000000 in
set_option maxRecDepth 100000 in
theorem mX9_command {g : gX} {V : vM} {m : Nat → Int32} {N : Nat} {t : Int32} {S : FS} {fb : Nat → Nat} (hCQ : CQ V m N t S fb) (c what : Int32) : MM g jX9_command V [.ref (g.2.1 0), .int c, .int what] (eI (fun z U => z = cmdZ S m N c what ∧ CQ U m N t S fb ∧ frQ V U)) := by
  refine MM.of plX9_command (Nat.le_of_ble_eq_true rfl) ?_
  obtain ⟨Q, hQ⟩ : ∃ Q : Option Value → vM → Prop, Q = (eI (fun z U => z = cmdZ S m N c what ∧ CQ U m N t S fb ∧ frQ V U)) := ⟨_, rfl⟩
  rw [← hQ]
  show XX g jX9_command Q V 0 [(0, .ref (g.2.1 0)), (1, .int c), (2, .int what)] []
  obtain ⟨hC, hS, hG, h24, h15, hcn, hL⟩ := id hCQ
  have hP0 := hC.1
  have hV13 : V 1 3 = nI S.2.1 := by rw [hP0.2.1, hcn]
  have hN24 := hP0.2.2.1.1
  have hcl := cntM_le (kd7 m) N
  refine x_iload_n dX9_command_0 1 rfl ?_
  refine x_if_lt 15 dX9_command_1 (by decide) (fun c1 => ?_) (fun c1 => ?_)
  · refine x_ldc ct_X9_111 dX9_command_15 ?_
    refine x_iret dX9_command_17 rfl ?_
    rw [hQ]
    exact ⟨_, rfl, (cmdZ_no (fun q => by grind)).symm, hCQ, frQ.refl V⟩
  · refine x_iload_n dX9_command_4 1 rfl ?_
    refine x_aload_n dX9_command_5 0 rfl ?_
    refine x_getR fl_X9_12 rfl rfl dX9_command_6 ?_
    refine x_getI fl_X9_104 rfl rfl dX9_command_9 ?_
    refine x_topi (hP0.1) ?_
    refine x_icmp_lt 18 dX9_command_12 (by decide) (fun c2 => ?_) (fun c2 => ?_)
    · obtain ⟨k, hk0, hkS⟩ := nI_ex (c := c) (n := N) (by omega) (⟨Int32.not_lt.mp (by assumption), by assumption⟩)
      refine YY.L (lv' := [(0, .ref (g.2.1 0)), (1, .int (nI k)), (2, .int what)]) (by rw [hk0]) ?_
      refine x_iload_n dX9_command_18 2 rfl ?_
      by_cases c3 : what = 0
      · refine x_tableIn 68 dX9_command_19 (by rw [c3]; decide) (by rw [c3]; decide) (by rw [c3]; rfl) (by decide) ?_
        refine x_aload_n dX9_command_68 0 rfl ?_
        refine x_getR fl_X9_12 rfl rfl dX9_command_69 ?_
        refine x_iload_n dX9_command_72 1 rfl ?_
        refine x_callV (K := jX5_kindOf) [.int (nI k)] lk_X9_112 ⟨⟨rfl, rfl⟩, Nat.le_of_ble_eq_true rfl, Nat.le_of_ble_eq_true rfl⟩ rfl rfl (by have := mX5_kindOf (g := g) V isP1 hP0.kok.1 (nI k); rw [hP0.ki (i := k) hkS] at this; exact this) rfl (Nat.le_of_ble_eq_true rfl) rfl dX9_command_73 (kpI ?_)
        refine x_iret dX9_command_76 rfl ?_
        rw [hQ]
        refine ⟨_, rfl, ?_, hCQ, frQ.refl V⟩
        rw [cmdZ_k hN24 hk0 hkS, (show what = 0 by assumption)]
        exact (cmdK_v S m k).1.symm
      by_cases c4 : what = 1
      · refine x_tableIn 77 dX9_command_19 (by rw [c4]; decide) (by rw [c4]; decide) (by rw [c4]; rfl) (by decide) ?_
        refine x_aload_n dX9_command_77 0 rfl ?_
        refine x_getR fl_X9_12 rfl rfl dX9_command_78 ?_
        refine x_iload_n dX9_command_81 1 rfl ?_
        refine x_callV (K := jX5_contourOf) [.int (nI k)] lk_X9_115 ⟨⟨rfl, rfl⟩, Nat.le_of_ble_eq_true rfl, Nat.le_of_ble_eq_true rfl⟩ rfl rfl (by have := mX5_contourOf (g := g) V isP1 hN24 hP0.1 k hkS; rw [cntM_cong (K2 := kd7 m) (k + 1) (fun i hi => (hP0.2.2.2 i (by omega)).1), (show nI (cntM (kd7 m) (k + 1)) - 1 = nI (cntM (kd7 m) (k + 1) - 1) from nsub (b := 1) (hP0.2.2.1.cpos hkS) rfl rfl)] at this; exact this) rfl (Nat.le_of_ble_eq_true rfl) rfl dX9_command_82 (kpI ?_)
        refine x_iret dX9_command_85 rfl ?_
        rw [hQ]
        refine ⟨_, rfl, ?_, hCQ, frQ.refl V⟩
        rw [cmdZ_k hN24 hk0 hkS, (show what = 1 by assumption)]
        exact (cmdK_v S m k).2.1.symm
      by_cases c5 : what = 2
      · refine x_tableIn 86 dX9_command_19 (by rw [c5]; decide) (by rw [c5]; decide) (by rw [c5]; rfl) (by decide) ?_
        refine x_aload_n dX9_command_86 0 rfl ?_
        refine x_callV (K := jX9_flattened) [] lk_X9_118 ⟨⟨rfl, rfl⟩, Nat.le_of_ble_eq_true rfl, Nat.le_of_ble_eq_true rfl⟩ rfl rfl (mX9_flattened hC) rfl (Nat.le_of_ble_eq_true rfl) rfl dX9_command_87 (keR fun U6 hU7 => ?_)
        have hCQ2 := hCQ.aft hU7
        have hFr := hU7.2.2
        have hF : FRC U6 S := by rw [← hS]; exact hU7.1
        have hPU := hCQ2.1.1
        have hU13 : U6 1 3 = nI (S.2.1) := by rw [hPU.2.1, hcn]
        refine x_iload_n dX9_command_90 1 rfl ?_
        refine x_callV (K := jX1_lengthMadeBy) [.int (nI k)] lk_X9_122 ⟨⟨rfl, rfl⟩, Nat.le_of_ble_eq_true rfl, Nat.le_of_ble_eq_true rfl⟩ rfl rfl (mX1_lengthMadeBy hF hG h24 h15 k) rfl (Nat.le_of_ble_eq_true rfl) rfl dX9_command_91 (kpI ?_)
        refine x_iret dX9_command_94 rfl ?_
        rw [hQ]
        refine ⟨_, rfl, ?_, hCQ2, hFr⟩
        rw [cmdZ_k hN24 hk0 hkS, (show what = 2 by assumption), (cmdK_v S m k).2.2.1, hL.2 k hkS]
      by_cases c8 : what = 3
      · refine x_tableIn 95 dX9_command_19 (by rw [c8]; decide) (by rw [c8]; decide) (by rw [c8]; rfl) (by decide) ?_
        refine x_aload_n dX9_command_95 0 rfl ?_
        refine x_getR fl_X9_12 rfl rfl dX9_command_96 ?_
        refine x_iload_n dX9_command_99 1 rfl ?_
        refine x_callV (K := jX5_endX) [.int (nI k)] lk_X9_98 ⟨⟨rfl, rfl⟩, Nat.le_of_ble_eq_true rfl, Nat.le_of_ble_eq_true rfl⟩ rfl rfl (by have := mX5_endX (g := g) V isP1 hP0.kok (nI k); rw [(hP0.exy hkS).1] at this; exact this) rfl (Nat.le_of_ble_eq_true rfl) rfl dX9_command_100 (kpI ?_)
        refine x_iret dX9_command_103 rfl ?_
        rw [hQ]
        refine ⟨_, rfl, ?_, hCQ, frQ.refl V⟩
        rw [cmdZ_k hN24 hk0 hkS, (show what = 3 by assumption)]
        exact (cmdK_v S m k).2.2.2.1.symm
      by_cases c9 : what = 4
      · refine x_tableIn 104 dX9_command_19 (by rw [c9]; decide) (by rw [c9]; decide) (by rw [c9]; rfl) (by decide) ?_
        refine x_aload_n dX9_command_104 0 rfl ?_
        refine x_getR fl_X9_12 rfl rfl dX9_command_105 ?_
        refine x_iload_n dX9_command_108 1 rfl ?_
        refine x_callV (K := jX5_endY) [.int (nI k)] lk_X9_101 ⟨⟨rfl, rfl⟩, Nat.le_of_ble_eq_true rfl, Nat.le_of_ble_eq_true rfl⟩ rfl rfl (by have := mX5_endY (g := g) V isP1 hP0.kok (nI k); rw [(hP0.exy hkS).2] at this; exact this) rfl (Nat.le_of_ble_eq_true rfl) rfl dX9_command_109 (kpI ?_)
        refine x_iret dX9_command_112 rfl ?_
        rw [hQ]
        refine ⟨_, rfl, ?_, hCQ, frQ.refl V⟩
        rw [cmdZ_k hN24 hk0 hkS, (show what = 4 by assumption)]
        exact (cmdK_v S m k).2.2.2.2.1.symm
      by_cases c10 : what = 5
      · refine x_tableIn 113 dX9_command_19 (by rw [c10]; decide) (by rw [c10]; decide) (by rw [c10]; rfl) (by decide) ?_
        refine x_aload_n dX9_command_113 0 rfl ?_
        refine x_getR fl_X9_12 rfl rfl dX9_command_114 ?_
        refine x_iload_n dX9_command_117 1 rfl ?_
        refine x_iload_n dX9_command_118 2 rfl ?_
        refine x_iconst (v := 5) dX9_command_119 (by decide) ?_
        refine x_isub dX9_command_120 ?_
        refine x_callV (K := jX5_control) [.int (nI k), .int (what - 5)] lk_X9_125 ⟨⟨rfl, rfl⟩, Nat.le_of_ble_eq_true rfl, Nat.le_of_ble_eq_true rfl⟩ rfl rfl (mX5_control V isP1 hP0.kok (nI k) (what - 5)) rfl (Nat.le_of_ble_eq_true rfl) rfl dX9_command_121 (kpI ?_)
        refine x_iret dX9_command_124 rfl ?_
        rw [hQ]
        refine ⟨_, rfl, ?_, hCQ, frQ.refl V⟩
        rw [cmdZ_k hN24 hk0 hkS]
        first
          | (rw [(show what = 5 by assumption), (show (5 : Int32) - 5 = nI 0 by decide), hP0.ctl hkS (by omega)]; exact (cmdK_v S m k).2.2.2.2.2.1.symm)
          | (rw [(show what = 6 by assumption), (show (6 : Int32) - 5 = nI 1 by decide), hP0.ctl hkS (by omega)]; exact (cmdK_v S m k).2.2.2.2.2.2.1.symm)
          | (rw [(show what = 7 by assumption), (show (7 : Int32) - 5 = nI 2 by decide), hP0.ctl hkS (by omega)]; exact (cmdK_v S m k).2.2.2.2.2.2.2.1.symm)
          | (rw [(show what = 8 by assumption), (show (8 : Int32) - 5 = nI 3 by decide), hP0.ctl hkS (by omega)]; exact (cmdK_v S m k).2.2.2.2.2.2.2.2.symm)
      by_cases c11 : what = 6
      · refine x_tableIn 113 dX9_command_19 (by rw [c11]; decide) (by rw [c11]; decide) (by rw [c11]; rfl) (by decide) ?_
        refine x_aload_n dX9_command_113 0 rfl ?_
        refine x_getR fl_X9_12 rfl rfl dX9_command_114 ?_
        refine x_iload_n dX9_command_117 1 rfl ?_
        refine x_iload_n dX9_command_118 2 rfl ?_
        refine x_iconst (v := 5) dX9_command_119 (by decide) ?_
        refine x_isub dX9_command_120 ?_
        refine x_callV (K := jX5_control) [.int (nI k), .int (what - 5)] lk_X9_125 ⟨⟨rfl, rfl⟩, Nat.le_of_ble_eq_true rfl, Nat.le_of_ble_eq_true rfl⟩ rfl rfl (mX5_control V isP1 hP0.kok (nI k) (what - 5)) rfl (Nat.le_of_ble_eq_true rfl) rfl dX9_command_121 (kpI ?_)
        refine x_iret dX9_command_124 rfl ?_
        rw [hQ]
        refine ⟨_, rfl, ?_, hCQ, frQ.refl V⟩
        rw [cmdZ_k hN24 hk0 hkS]
        first
          | (rw [(show what = 5 by assumption), (show (5 : Int32) - 5 = nI 0 by decide), hP0.ctl hkS (by omega)]; exact (cmdK_v S m k).2.2.2.2.2.1.symm)
          | (rw [(show what = 6 by assumption), (show (6 : Int32) - 5 = nI 1 by decide), hP0.ctl hkS (by omega)]; exact (cmdK_v S m k).2.2.2.2.2.2.1.symm)
          | (rw [(show what = 7 by assumption), (show (7 : Int32) - 5 = nI 2 by decide), hP0.ctl hkS (by omega)]; exact (cmdK_v S m k).2.2.2.2.2.2.2.1.symm)
          | (rw [(show what = 8 by assumption), (show (8 : Int32) - 5 = nI 3 by decide), hP0.ctl hkS (by omega)]; exact (cmdK_v S m k).2.2.2.2.2.2.2.2.symm)
      by_cases c12 : what = 7
      · refine x_tableIn 113 dX9_command_19 (by rw [c12]; decide) (by rw [c12]; decide) (by rw [c12]; rfl) (by decide) ?_
        refine x_aload_n dX9_command_113 0 rfl ?_
        refine x_getR fl_X9_12 rfl rfl dX9_command_114 ?_
        refine x_iload_n dX9_command_117 1 rfl ?_
        refine x_iload_n dX9_command_118 2 rfl ?_
        refine x_iconst (v := 5) dX9_command_119 (by decide) ?_
        refine x_isub dX9_command_120 ?_
        refine x_callV (K := jX5_control) [.int (nI k), .int (what - 5)] lk_X9_125 ⟨⟨rfl, rfl⟩, Nat.le_of_ble_eq_true rfl, Nat.le_of_ble_eq_true rfl⟩ rfl rfl (mX5_control V isP1 hP0.kok (nI k) (what - 5)) rfl (Nat.le_of_ble_eq_true rfl) rfl dX9_command_121 (kpI ?_)
        refine x_iret dX9_command_124 rfl ?_
        rw [hQ]
        refine ⟨_, rfl, ?_, hCQ, frQ.refl V⟩
        rw [cmdZ_k hN24 hk0 hkS]
        first
          | (rw [(show what = 5 by assumption), (show (5 : Int32) - 5 = nI 0 by decide), hP0.ctl hkS (by omega)]; exact (cmdK_v S m k).2.2.2.2.2.1.symm)
          | (rw [(show what = 6 by assumption), (show (6 : Int32) - 5 = nI 1 by decide), hP0.ctl hkS (by omega)]; exact (cmdK_v S m k).2.2.2.2.2.2.1.symm)
          | (rw [(show what = 7 by assumption), (show (7 : Int32) - 5 = nI 2 by decide), hP0.ctl hkS (by omega)]; exact (cmdK_v S m k).2.2.2.2.2.2.2.1.symm)
          | (rw [(show what = 8 by assumption), (show (8 : Int32) - 5 = nI 3 by decide), hP0.ctl hkS (by omega)]; exact (cmdK_v S m k).2.2.2.2.2.2.2.2.symm)
      by_cases c13 : what = 8
      · refine x_tableIn 113 dX9_command_19 (by rw [c13]; decide) (by rw [c13]; decide) (by rw [c13]; rfl) (by decide) ?_
        refine x_aload_n dX9_command_113 0 rfl ?_
        refine x_getR fl_X9_12 rfl rfl dX9_command_114 ?_
        refine x_iload_n dX9_command_117 1 rfl ?_
        refine x_iload_n dX9_command_118 2 rfl ?_
        refine x_iconst (v := 5) dX9_command_119 (by decide) ?_
        refine x_isub dX9_command_120 ?_
        refine x_callV (K := jX5_control) [.int (nI k), .int (what - 5)] lk_X9_125 ⟨⟨rfl, rfl⟩, Nat.le_of_ble_eq_true rfl, Nat.le_of_ble_eq_true rfl⟩ rfl rfl (mX5_control V isP1 hP0.kok (nI k) (what - 5)) rfl (Nat.le_of_ble_eq_true rfl) rfl dX9_command_121 (kpI ?_)
        refine x_iret dX9_command_124 rfl ?_
        rw [hQ]
        refine ⟨_, rfl, ?_, hCQ, frQ.refl V⟩
        rw [cmdZ_k hN24 hk0 hkS]
        first
          | (rw [(show what = 5 by assumption), (show (5 : Int32) - 5 = nI 0 by decide), hP0.ctl hkS (by omega)]; exact (cmdK_v S m k).2.2.2.2.2.1.symm)
          | (rw [(show what = 6 by assumption), (show (6 : Int32) - 5 = nI 1 by decide), hP0.ctl hkS (by omega)]; exact (cmdK_v S m k).2.2.2.2.2.2.1.symm)
          | (rw [(show what = 7 by assumption), (show (7 : Int32) - 5 = nI 2 by decide), hP0.ctl hkS (by omega)]; exact (cmdK_v S m k).2.2.2.2.2.2.2.1.symm)
          | (rw [(show what = 8 by assumption), (show (8 : Int32) - 5 = nI 3 by decide), hP0.ctl hkS (by omega)]; exact (cmdK_v S m k).2.2.2.2.2.2.2.2.symm)
      refine x_tableOut 125 dX9_command_19 (by have q0 : ¬ what.toInt = 0 := fun q => c3 (Int32.toInt_inj.mp (q.trans (by decide))); have q1 : ¬ what.toInt = 1 := fun q => c4 (Int32.toInt_inj.mp (q.trans (by decide))); have q2 : ¬ what.toInt = 2 := fun q => c5 (Int32.toInt_inj.mp (q.trans (by decide))); have q3 : ¬ what.toInt = 3 := fun q => c8 (Int32.toInt_inj.mp (q.trans (by decide))); have q4 : ¬ what.toInt = 4 := fun q => c9 (Int32.toInt_inj.mp (q.trans (by decide))); have q5 : ¬ what.toInt = 5 := fun q => c10 (Int32.toInt_inj.mp (q.trans (by decide))); have q6 : ¬ what.toInt = 6 := fun q => c11 (Int32.toInt_inj.mp (q.trans (by decide))); have q7 : ¬ what.toInt = 7 := fun q => c12 (Int32.toInt_inj.mp (q.trans (by decide))); have q8 : ¬ what.toInt = 8 := fun q => c13 (Int32.toInt_inj.mp (q.trans (by decide))); omega) (by decide) ?_
      refine x_ldc ct_X9_83 dX9_command_125 ?_
      refine x_iret dX9_command_127 rfl ?_
      rw [hQ]
      refine ⟨_, rfl, ?_, hCQ, frQ.refl V⟩
      rw [cmdZ_k hN24 hk0 hkS]
      unfold cmdK
      rw [if_neg (by grind), if_neg (by grind), if_neg (by grind), if_neg (by grind), if_neg (by grind), if_neg (by grind), if_neg (by grind), if_neg (by grind), if_neg (by grind)]
    · refine x_ldc ct_X9_111 dX9_command_15 ?_
      refine x_iret dX9_command_17 rfl ?_
      rw [hQ]
      exact ⟨_, rfl, (cmdZ_no (fun q => by grind)).symm, hCQ, frQ.refl V⟩
set_option maxHeartbeats 1000000 in
set_option maxRecDepth 100000 in
theorem mX10_command {g : gX} {V : vM} {m : Nat → Int32} {N : Nat} {t : Int32} {S : FS} {fb : Nat → Nat} (hMQ : MZ V m N t S fb) (c what : Int32) : MM g jX10_command V [.ref (g.2.1 49), .int c, .int what] (eI (fun z U => z = cmdZ S m N c what ∧ MZ U m N t S fb ∧ frM V U)) := by
  refine MM.of plX10_command (Nat.le_of_ble_eq_true rfl) ?_
  obtain ⟨Q, hQ⟩ : ∃ Q : Option Value → vM → Prop, Q = (eI (fun z U => z = cmdZ S m N c what ∧ MZ U m N t S fb ∧ frM V U)) := ⟨_, rfl⟩
  rw [← hQ]
  show XX g jX10_command Q V 0 [(0, .ref (g.2.1 49)), (1, .int c), (2, .int what)] []
  obtain ⟨hw, hm50, hN8, ht9, hS, hG, h24, h15, hcn, hL⟩ := id hMQ
  have hN24 := hw.1
  have hcl := cntM_le (kd7 m) N
  refine x_iload_n dX10_command_0 1 rfl ?_
  refine x_iconst (v := 0) dX10_command_1 (by decide) ?_
  refine x_aload_n dX10_command_2 0 rfl ?_
  refine x_callV (K := jX10_many) [] lk_X10_89 ⟨⟨rfl, rfl⟩, Nat.le_of_ble_eq_true rfl, Nat.le_of_ble_eq_true rfl⟩ rfl rfl (by have := mX10_many (g := g) V; rw [hm50, hN8] at this; exact this) rfl (Nat.le_of_ble_eq_true rfl) rfl dX10_command_3 (kpI ?_)
  refine x_iconst (v := 1) dX10_command_6 (by decide) ?_
  refine x_isub dX10_command_7 ?_
  refine x_callS (K := jX10_in) [.int c, .int 0, .int ((nI N) - 1)] lk_X10_80 ⟨⟨rfl, rfl⟩, Nat.le_of_ble_eq_true rfl, Nat.le_of_ble_eq_true rfl⟩ (mX10_in V c 0 ((nI N) - 1)) rfl (Nat.le_of_ble_eq_true rfl) rfl dX10_command_8 (kpI ?_)
  refine x_if_ne 17 dX10_command_11 (by decide) (fun c1 => ?_) (fun c1 => ?_)
  · have c1n : (0 ≤ c ∧ c ≤ ((nI N) - 1)) := Classical.not_not.mp (fun q => c1 (iB_0.mpr q))
    obtain ⟨k, hk0, hkS⟩ := nI_ex (c := c) (n := N) (by omega) ((bt_pred (by omega)).mp (by assumption))
    refine YY.L (lv' := [(0, .ref (g.2.1 49)), (1, .int (nI k)), (2, .int what)]) (by rw [hk0]) ?_
    refine x_iload_n dX10_command_17 2 rfl ?_
    refine x_iconst (v := 0) dX10_command_18 (by decide) ?_
    refine x_bipush (v := 8) dX10_command_19 (by decide) ?_
    refine x_callS (K := jX10_in) [.int what, .int 0, .int 8] lk_X10_80 ⟨⟨rfl, rfl⟩, Nat.le_of_ble_eq_true rfl, Nat.le_of_ble_eq_true rfl⟩ (mX10_in V what 0 8) rfl (Nat.le_of_ble_eq_true rfl) rfl dX10_command_21 (kpI ?_)
    refine x_if_ne 30 dX10_command_24 (by decide) (fun c2 => ?_) (fun c2 => ?_)
    · have c2n : (0 ≤ what ∧ what ≤ 8) := Classical.not_not.mp (fun q => c2 (iB_0.mpr q))
      refine x_aload_n dX10_command_30 0 rfl ?_
      refine x_iload_n dX10_command_31 1 rfl ?_
      refine x_callV (K := jX10_kind) [.int (nI k)] lk_X10_93 ⟨⟨rfl, rfl⟩, Nat.le_of_ble_eq_true rfl, Nat.le_of_ble_eq_true rfl⟩ rfl rfl (by have := mX10_kind (g := g) V k (by omega); rw [hm50] at this; exact this) rfl (Nat.le_of_ble_eq_true rfl) rfl dX10_command_32 (kpI ?_)
      refine x_istore_n 3 [(3, .int (m (k * 7))), (0, .ref (g.2.1 49)), (1, .int (nI k)), (2, .int what)] dX10_command_35 rfl (by decide) rfl ?_
      refine x_iload_n dX10_command_36 3 rfl ?_
      by_cases c3 : what = 0
      · refine x_tableIn 72 dX10_command_37 (by rw [c3]; decide) (by rw [c3]; decide) (by rw [c3]; rfl) (by decide) ?_
        refine x_iload_n dX10_command_72 0 rfl ?_
        refine x_iret dX10_command_73 rfl ?_
        rw [hQ]
        refine ⟨_, rfl, ?_, hMQ, frM.refl V⟩
        rw [cmdZ_k hN24 hk0 hkS, (show what = 0 by assumption)]
        exact (cmdK_v S m k).1.symm
      by_cases c4 : what = 1
      · refine x_tableIn 74 dX10_command_37 (by rw [c4]; decide) (by rw [c4]; decide) (by rw [c4]; rfl) (by decide) ?_
        refine x_aload_n dX10_command_74 1 rfl ?_
        refine x_iload_n dX10_command_75 2 rfl ?_
        refine x_callV (K := jX10_contourOf) [.int (nI k)] lk_X10_108 ⟨⟨rfl, rfl⟩, Nat.le_of_ble_eq_true rfl, Nat.le_of_ble_eq_true rfl⟩ rfl rfl (by have := mX10_contourOf (g := g) V k (by omega); rw [hm50, if_neg (by have := hw.cpos hkS; omega)] at this; exact this) rfl (Nat.le_of_ble_eq_true rfl) rfl dX10_command_76 (kpI ?_)
        refine x_iret dX10_command_79 rfl ?_
        rw [hQ]
        refine ⟨_, rfl, ?_, hMQ, frM.refl V⟩
        rw [cmdZ_k hN24 hk0 hkS, (show what = 1 by assumption)]
        exact (cmdK_v S m k).2.1.symm
      by_cases c5 : what = 2
      · refine x_tableIn 80 dX10_command_37 (by rw [c5]; decide) (by rw [c5]; decide) (by rw [c5]; rfl) (by decide) ?_
        refine x_aload_n dX10_command_80 1 rfl ?_
        refine x_callV (K := jX10_flatten) [] lk_X10_111 ⟨⟨rfl, rfl⟩, Nat.le_of_ble_eq_true rfl, Nat.le_of_ble_eq_true rfl⟩ rfl rfl (mX10_flatten V hw hm50 hN8 t ht9) rfl (Nat.le_of_ble_eq_true rfl) rfl dX10_command_81 (keV fun U6 hU7 => ?_)
        have hMQ2 := hMQ.aft hU7
        have hFr := hU7.2.2
        have hF : FRM U6 S N := by rw [← hS]; exact hU7.1
        have hE : U6 65 S.2.1 = nI S.1 := by rw [← hS]; exact hU7.2.1
        have hmU := hMQ2.2.1
        refine x_aload_n dX10_command_84 1 rfl ?_
        refine x_getR fl_X10_59 rfl rfl dX10_command_85 ?_
        refine x_iload_n dX10_command_88 2 rfl ?_
        have b8 : vp_in (nI k) 24 := by exact vp_in_nI (by omega) (by decide)
        refine x_iald rfl b8 dX10_command_89 ?_
        refine x_topi (y := U6 66 k) (by rw [nI_clamp (by omega)]) ?_
        refine x_topi (hF.2.2.2.2 k hkS) ?_
        refine x_iret dX10_command_90 rfl ?_
        rw [hQ]
        refine ⟨_, rfl, ?_, hMQ2, hFr⟩
        rw [cmdZ_k hN24 hk0 hkS, (show what = 2 by assumption)]
        exact (cmdK_v S m k).2.2.1.symm
      by_cases c9 : what = 3
      · refine x_tableIn 91 dX10_command_37 (by rw [c9]; decide) (by rw [c9]; decide) (by rw [c9]; rfl) (by decide) ?_
        refine x_aload_n dX10_command_91 1 rfl ?_
        refine x_iload_n dX10_command_92 2 rfl ?_
        refine x_callV (K := jX10_endX) [.int (nI k)] lk_X10_114 ⟨⟨rfl, rfl⟩, Nat.le_of_ble_eq_true rfl, Nat.le_of_ble_eq_true rfl⟩ rfl rfl (by have := mX10_endX (g := g) V N hN24 (by rw [hm50]; exact hN8) (by rw [hm50]; exact hw) k hkS; rw [hm50] at this; exact this) rfl (Nat.le_of_ble_eq_true rfl) rfl dX10_command_93 (kpI ?_)
        refine x_iret dX10_command_96 rfl ?_
        rw [hQ]
        refine ⟨_, rfl, ?_, hMQ, frM.refl V⟩
        rw [cmdZ_k hN24 hk0 hkS, (show what = 3 by assumption)]
        exact (cmdK_v S m k).2.2.2.1.symm
      by_cases c10 : what = 4
      · refine x_tableIn 97 dX10_command_37 (by rw [c10]; decide) (by rw [c10]; decide) (by rw [c10]; rfl) (by decide) ?_
        refine x_aload_n dX10_command_97 1 rfl ?_
        refine x_iload_n dX10_command_98 2 rfl ?_
        refine x_callV (K := jX10_endY) [.int (nI k)] lk_X10_117 ⟨⟨rfl, rfl⟩, Nat.le_of_ble_eq_true rfl, Nat.le_of_ble_eq_true rfl⟩ rfl rfl (by have := mX10_endY (g := g) V N hN24 (by rw [hm50]; exact hN8) (by rw [hm50]; exact hw) k hkS; rw [hm50] at this; exact this) rfl (Nat.le_of_ble_eq_true rfl) rfl dX10_command_99 (kpI ?_)
        refine x_iret dX10_command_102 rfl ?_
        rw [hQ]
        refine ⟨_, rfl, ?_, hMQ, frM.refl V⟩
        rw [cmdZ_k hN24 hk0 hkS, (show what = 4 by assumption)]
        exact (cmdK_v S m k).2.2.2.2.1.symm
      refine x_tableOut 103 dX10_command_37 (by have q0 : ¬ what.toInt = 0 := fun q => c3 (Int32.toInt_inj.mp (q.trans (by decide))); have q1 : ¬ what.toInt = 1 := fun q => c4 (Int32.toInt_inj.mp (q.trans (by decide))); have q2 : ¬ what.toInt = 2 := fun q => c5 (Int32.toInt_inj.mp (q.trans (by decide))); have q3 : ¬ what.toInt = 3 := fun q => c9 (Int32.toInt_inj.mp (q.trans (by decide))); have q4 : ¬ what.toInt = 4 := fun q => c10 (Int32.toInt_inj.mp (q.trans (by decide))); omega) (by decide) ?_
      have h08 : 0 ≤ what ∧ what ≤ 8 := by assumption
      obtain ⟨w, hw0, hwS⟩ := nI_ex (c := what) (n := 9) (by omega) (⟨h08.1, nI_le_lt (n := 9) (by omega) (by omega) h08.2⟩)
      refine YY.L (lv' := [(3, .int (m (k * 7))), (0, .ref (g.2.1 49)), (1, .int (nI k)), (2, .int (nI w))]) (by rw [hw0]) ?_
      have n0 : ¬ w = 0 := fun q => absurd (show what = 0 by rw [hw0, q]; rfl) (by grind)
      have n1 : ¬ w = 1 := fun q => absurd (show what = 1 by rw [hw0, q]; rfl) (by grind)
      have n2 : ¬ w = 2 := fun q => absurd (show what = 2 by rw [hw0, q]; rfl) (by grind)
      have n3 : ¬ w = 3 := fun q => absurd (show what = 3 by rw [hw0, q]; rfl) (by grind)
      have n4 : ¬ w = 4 := fun q => absurd (show what = 4 by rw [hw0, q]; rfl) (by grind)
      refine x_iload_n dX10_command_103 0 rfl ?_
      refine x_iconst (v := 3) dX10_command_104 (by decide) ?_
      refine x_icmp_eq 119 dX10_command_105 (by decide) (fun c11 => ?_) (fun c11 => ?_)
      · refine x_iconst (v := 1) dX10_command_119 (by decide) ?_
        refine x_goto 124 dX10_command_120 (by decide) ?_
        refine x_istore 4 [(4, .int 1), (3, .int (m (k * 7))), (0, .ref (g.2.1 49)), (1, .int (nI k)), (2, .int (nI w))] dX10_command_124 (by decide) rfl ?_
        refine x_iload dX10_command_126 0 rfl ?_
        refine x_if_eq 147 dX10_command_128 (by decide) (fun c12 => by exfalso; revert c12; decide) (fun c12 => ?_)
        refine x_aload_n dX10_command_131 2 rfl ?_
        refine x_getR fl_X10_9 rfl rfl dX10_command_132 ?_
        refine x_bipush (v := 7) dX10_command_135 (by decide) ?_
        refine x_iload_n dX10_command_137 3 rfl ?_
        refine x_imul dX10_command_138 ?_
        refine x_iload_n dX10_command_139 4 rfl ?_
        refine x_iadd dX10_command_140 ?_
        refine x_iconst (v := 4) dX10_command_141 (by decide) ?_
        refine x_isub dX10_command_142 ?_
        have q13 : (((7 * (nI k)) + (nI w)) - 4 : Int32) = nI (((7 * k) + w) - 4) := nsub (by omega) (nadd (nmul (rfl) (rfl)) (rfl)) (rfl)
        refine YY.S (st' := [.int (nI (((7 * k) + w) - 4)), .ref (g.2.1 50)]) (by rw [q13]) ?_
        have b14 : vp_in (nI (((7 * k) + w) - 4)) 170 := by exact vp_in_nI (by omega) (by decide)
        refine x_iald rfl b14 dX10_command_143 ?_
        refine x_topi (y := V 50 (((7 * k) + w) - 4)) (by rw [nI_clamp (by omega)]) ?_
        refine x_goto 149 dX10_command_144 (by decide) ?_
        refine x_iret dX10_command_149 rfl ?_
        rw [hQ]
        refine ⟨_, rfl, ?_, hMQ, frM.refl V⟩
        rw [cmdZ_k hN24 hk0 hkS, hw0, cmdK_w S m k (by omega) hwS]
        unfold ctl7
        first | rw [if_pos (by first | exact Or.inl (by assumption) | exact Or.inr ⟨by assumption, by omega⟩), ← hm50, show 7 * k + w - 4 = k * 7 + 1 + (w - 5) by omega] | rw [if_neg (by first | exact fun q => by rcases q with q | q; (exact absurd q (by assumption)); exact absurd q.1 (by assumption) | exact fun q => by rcases q with q | q; (exact absurd q (by assumption)); exact absurd q.2 (by omega))]
      · refine x_iload_n dX10_command_108 0 rfl ?_
        refine x_iconst (v := 2) dX10_command_109 (by decide) ?_
        refine x_icmp_ne 123 dX10_command_110 (by decide) (fun c15 => ?_) (fun c15 => ?_)
        · refine x_iconst (v := 0) dX10_command_123 (by decide) ?_
          refine x_istore 4 [(4, .int 0), (3, .int (m (k * 7))), (0, .ref (g.2.1 49)), (1, .int (nI k)), (2, .int (nI w))] dX10_command_124 (by decide) rfl ?_
          refine x_iload dX10_command_126 0 rfl ?_
          refine x_if_eq 147 dX10_command_128 (by decide) (fun c16 => ?_) (fun c16 => by exfalso; revert c16; decide)
          refine x_ldc ct_X10_103 dX10_command_147 ?_
          refine x_iret dX10_command_149 rfl ?_
          rw [hQ]
          refine ⟨_, rfl, ?_, hMQ, frM.refl V⟩
          rw [cmdZ_k hN24 hk0 hkS, hw0, cmdK_w S m k (by omega) hwS]
          unfold ctl7
          first | rw [if_pos (by first | exact Or.inl (by assumption) | exact Or.inr ⟨by assumption, by omega⟩), ← hm50, show 7 * k + w - 4 = k * 7 + 1 + (w - 5) by omega] | rw [if_neg (by first | exact fun q => by rcases q with q | q; (exact absurd q (by assumption)); exact absurd q.1 (by assumption) | exact fun q => by rcases q with q | q; (exact absurd q (by assumption)); exact absurd q.2 (by omega))]
        · refine x_iload_n dX10_command_113 3 rfl ?_
          refine x_bipush (v := 7) dX10_command_114 (by decide) ?_
          refine x_icmp_ge 123 dX10_command_116 (by decide) (fun c17 => ?_) (fun c17 => ?_)
          · have c17n : 7 ≤ w := (nl_le (a := 7) (b := w) (rfl) (rfl) (by omega) (by omega)).mp c17
            refine x_iconst (v := 0) dX10_command_123 (by decide) ?_
            refine x_istore 4 [(4, .int 0), (3, .int (m (k * 7))), (0, .ref (g.2.1 49)), (1, .int (nI k)), (2, .int (nI w))] dX10_command_124 (by decide) rfl ?_
            refine x_iload dX10_command_126 0 rfl ?_
            refine x_if_eq 147 dX10_command_128 (by decide) (fun c18 => ?_) (fun c18 => by exfalso; revert c18; decide)
            refine x_ldc ct_X10_103 dX10_command_147 ?_
            refine x_iret dX10_command_149 rfl ?_
            rw [hQ]
            refine ⟨_, rfl, ?_, hMQ, frM.refl V⟩
            rw [cmdZ_k hN24 hk0 hkS, hw0, cmdK_w S m k (by omega) hwS]
            unfold ctl7
            first | rw [if_pos (by first | exact Or.inl (by assumption) | exact Or.inr ⟨by assumption, by omega⟩), ← hm50, show 7 * k + w - 4 = k * 7 + 1 + (w - 5) by omega] | rw [if_neg (by first | exact fun q => by rcases q with q | q; (exact absurd q (by assumption)); exact absurd q.1 (by assumption) | exact fun q => by rcases q with q | q; (exact absurd q (by assumption)); exact absurd q.2 (by omega))]
          · have c17n : w < 7 := Nat.not_le.mp (fun q => c17 ((nl_le (a := 7) (b := w) (rfl) (rfl) (by omega) (by omega)).mpr q))
            refine x_iconst (v := 1) dX10_command_119 (by decide) ?_
            refine x_goto 124 dX10_command_120 (by decide) ?_
            refine x_istore 4 [(4, .int 1), (3, .int (m (k * 7))), (0, .ref (g.2.1 49)), (1, .int (nI k)), (2, .int (nI w))] dX10_command_124 (by decide) rfl ?_
            refine x_iload dX10_command_126 0 rfl ?_
            refine x_if_eq 147 dX10_command_128 (by decide) (fun c19 => by exfalso; revert c19; decide) (fun c19 => ?_)
            refine x_aload_n dX10_command_131 2 rfl ?_
            refine x_getR fl_X10_9 rfl rfl dX10_command_132 ?_
            refine x_bipush (v := 7) dX10_command_135 (by decide) ?_
            refine x_iload_n dX10_command_137 3 rfl ?_
            refine x_imul dX10_command_138 ?_
            refine x_iload_n dX10_command_139 4 rfl ?_
            refine x_iadd dX10_command_140 ?_
            refine x_iconst (v := 4) dX10_command_141 (by decide) ?_
            refine x_isub dX10_command_142 ?_
            have q20 : (((7 * (nI k)) + (nI w)) - 4 : Int32) = nI (((7 * k) + w) - 4) := nsub (by omega) (nadd (nmul (rfl) (rfl)) (rfl)) (rfl)
            refine YY.S (st' := [.int (nI (((7 * k) + w) - 4)), .ref (g.2.1 50)]) (by rw [q20]) ?_
            have b21 : vp_in (nI (((7 * k) + w) - 4)) 170 := by exact vp_in_nI (by omega) (by decide)
            refine x_iald rfl b21 dX10_command_143 ?_
            refine x_topi (y := V 50 (((7 * k) + w) - 4)) (by rw [nI_clamp (by omega)]) ?_
            refine x_goto 149 dX10_command_144 (by decide) ?_
            refine x_iret dX10_command_149 rfl ?_
            rw [hQ]
            refine ⟨_, rfl, ?_, hMQ, frM.refl V⟩
            rw [cmdZ_k hN24 hk0 hkS, hw0, cmdK_w S m k (by omega) hwS]
            unfold ctl7
            first | rw [if_pos (by first | exact Or.inl (by assumption) | exact Or.inr ⟨by assumption, by omega⟩), ← hm50, show 7 * k + w - 4 = k * 7 + 1 + (w - 5) by omega] | rw [if_neg (by first | exact fun q => by rcases q with q | q; (exact absurd q (by assumption)); exact absurd q.1 (by assumption) | exact fun q => by rcases q with q | q; (exact absurd q (by assumption)); exact absurd q.2 (by omega))]
    · have c2n : ¬ (0 ≤ what ∧ what ≤ 8) := iB_0.mp c2
      refine x_ldc ct_X10_88 dX10_command_27 ?_
      refine x_iret dX10_command_29 rfl ?_
      rw [hQ]
      refine ⟨_, rfl, ?_, hMQ, frM.refl V⟩
      rw [cmdZ_k hN24 hk0 hkS]
      unfold cmdK
      rw [if_neg (by grind), if_neg (by grind), if_neg (by grind), if_neg (by grind), if_neg (by grind), if_neg (by grind), if_neg (by grind), if_neg (by grind), if_neg (by grind)]
  · have c1n : ¬ (0 ≤ c ∧ c ≤ ((nI N) - 1)) := iB_0.mp c1
    refine x_ldc ct_X10_107 dX10_command_14 ?_
    refine x_iret dX10_command_16 rfl ?_
    rw [hQ]
    exact ⟨_, rfl, (cmdZ_no (fun q => absurd ((bt_pred (by omega)).mpr q) (by assumption))).symm, hMQ, frM.refl V⟩
