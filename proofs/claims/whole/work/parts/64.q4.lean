def measR (S : FS) (fb : Nat → Nat) (m : Nat → Int32) (N a d : Nat) (what : Int32) : Int32 := if what = 0 then nI (fb (a + d) - fb a) else if what = 1 then nI (fb (a + d) - fb a - d) else if what = 2 then lenC S fb a d else if what = 3 then iB (∀ j, j < d → clZ m N (a + j)) else -1000002
def measZ (S : FS) (fb : Nat → Nat) (m : Nat → Int32) (N : Nat) (c what : Int32) : Int32 := if c = -1 then measR S fb m N 0 S.2.1 what else if 0 ≤ c ∧ c < nI S.2.1 then measR S fb m N c.toNatClampNeg 1 what else -1000001
theorem measZ_a {S : FS} {fb : Nat → Nat} {m : Nat → Int32} {N : Nat} {c what : Int32} (h : c = -1) : measZ S fb m N c what = measR S fb m N 0 S.2.1 what := if_pos h
theorem measZ_k {S : FS} {fb : Nat → Nat} {m : Nat → Int32} {N : Nat} {c what : Int32} {k : Nat} (h24 : S.2.1 ≤ 24) (hk : c = nI k) (hS : k < S.2.1) : measZ S fb m N c what = measR S fb m N k 1 what := by
  unfold measZ
  rw [hk, if_neg (nI_nm1 (by omega)), if_pos (nI_bt (by omega) hS), nI_clamp (by omega)]
theorem measZ_no {S : FS} {fb : Nat → Nat} {m : Nat → Int32} {N : Nat} {c what : Int32} (h1 : ¬ c = -1) (h : ¬ (0 ≤ c ∧ c < nI S.2.1)) : measZ S fb m N c what = -1000001 := by
  unfold measZ
  rw [if_neg h1, if_neg h]
/-- what the model adds up, by the contour -/
def mesd (S : FS) (fb : Nat → Nat) (m : Nat → Int32) (N c : Nat) (what : Int32) : Int32 := if what = 0 then nI (fb (c + 1) - fb c) else if what = 1 then nI (fb (c + 1) - fb c - 1) else if what = 2 then S.2.2 2 (fb (c + 1) - 1) else iB (clZ m N c)
theorem mesd_R {S : FS} {fb : Nat → Nat} {m : Nat → Int32} {N c : Nat} {what : Int32} (h : 0 ≤ what ∧ what ≤ 3) : mesd S fb m N c what = measR S fb m N c 1 what := by
  unfold mesd measR
  by_cases h0 : what = 0
  · rw [if_pos h0, if_pos h0]
  · rw [if_neg h0, if_neg h0]
    by_cases h1 : what = 1
    · rw [if_pos h1, if_pos h1]
    · rw [if_neg h1, if_neg h1]
      by_cases h2 : what = 2
      · rw [if_pos h2, if_pos h2]
        show _ = (0 : Int32) + _
        rw [Int32.zero_add]
      · rw [if_neg h2, if_neg h2, if_pos (by grind)]
        exact iB_iff ⟨fun q j hj => by obtain rfl : j = 0 := by omega
                                       exact q, fun q => q 0 (by omega)⟩
/-- the sum as it grows -/
def msum (S : FS) (fb : Nat → Nat) (m : Nat → Int32) (N j : Nat) (what z : Int32) : Prop := (what = 0 → z = nI (fb j)) ∧ (what = 1 → z = nI (fb j - j)) ∧ (what = 2 → z = lenC S fb 0 j) ∧ (what = 3 → ∃ k, z = nI k ∧ k ≤ j ∧ (k = j ↔ ∀ i, i < j → clZ m N i))
theorem msum_0 {S : FS} {fb : Nat → Nat} {m : Nat → Int32} {N : Nat} {what : Int32} (hG : GI S fb) : msum S fb m N 0 what 0 := by
  refine ⟨fun _ => by rw [hG.1]; rfl, fun _ => by rw [hG.1]; rfl, fun _ => rfl, fun _ => ⟨0, rfl, Nat.le_refl _, ⟨fun _ i hi => absurd hi (Nat.not_lt_zero _), fun _ => rfl⟩⟩⟩
theorem msum_s {S : FS} {fb : Nat → Nat} {m : Nat → Int32} {N j : Nat} {what z : Int32} (hG : GI S fb) (h24 : S.2.1 ≤ 24) (h15 : S.1 ≤ 1536) (hj : j < S.2.1) (hw : 0 ≤ what ∧ what ≤ 3) (h : msum S fb m N j what z) : msum S fb m N (j + 1) what (z + mesd S fb m N j what) := by
  obtain ⟨h0, h1, h2, h3⟩ := h
  have hb := hG.bd (j := j + 1) (by omega)
  have hl := (hG.2.2.2 j hj).1
  have hge := hG.ge j 0 (by omega)
  rw [hG.1, Nat.zero_add] at hge
  unfold mesd
  refine ⟨fun e => ?_, fun e => ?_, fun e => ?_, fun e => ?_⟩
  · rw [if_pos e, h0 e, nI_add, show fb j + (fb (j + 1) - fb j) = fb (j + 1) by omega]
  · rw [if_neg (by rw [e]; decide), if_pos e, h1 e, nI_add, show fb j - j + (fb (j + 1) - fb j - 1) = fb (j + 1) - (j + 1) by omega]
  · rw [if_neg (by rw [e]; decide), if_neg (by rw [e]; decide), if_pos e, h2 e]
    show _ = lenC S fb 0 j + S.2.2 2 (fb (0 + j + 1) - 1)
    rw [Nat.zero_add]
  · rw [if_neg (by rw [e]; decide), if_neg (by rw [e]; decide), if_neg (by rw [e]; decide)]
    obtain ⟨k, e1, e2, e3⟩ := h3 e
    by_cases q : clZ m N j
    · refine ⟨k + 1, by rw [e1, iB_1.mpr q, nI_1], by omega, ⟨fun y i hi => ?_, fun y => ?_⟩⟩
      · by_cases r : i = j
        · rw [r]; exact q
        · exact e3.mp (by omega) i (by omega)
      · rw [e3.mpr (fun i hi => y i (by omega))]
    · refine ⟨k, by rw [e1, iB_0.mpr q]; exact Int32.add_zero _, by omega, ⟨fun y => absurd y (by omega), fun y => absurd (y j (by omega)) q⟩⟩
theorem msum_e {S : FS} {fb : Nat → Nat} {m : Nat → Int32} {N : Nat} {what z : Int32} (hG : GI S fb) (h24 : S.2.1 ≤ 24) (hw : 0 ≤ what ∧ what ≤ 3) (h : msum S fb m N S.2.1 what z) : (what < 3 → z = measR S fb m N 0 S.2.1 what) ∧ (¬ what < 3 → z = nI S.2.1 → 1 = measR S fb m N 0 S.2.1 what) ∧ (¬ what < 3 → ¬ z = nI S.2.1 → 0 = measR S fb m N 0 S.2.1 what) := by
  obtain ⟨h0, h1, h2, h3⟩ := h
  unfold measR
  simp only [Nat.zero_add, hG.1, Nat.sub_zero]
  refine ⟨fun q => ?_, fun q e => ?_, fun q e => ?_⟩
  · by_cases e0 : what = 0
    · rw [if_pos e0, h0 e0]
    · rw [if_neg e0]
      by_cases e1 : what = 1
      · rw [if_pos e1, h1 e1]
      · have e2 : what = 2 := by grind
        rw [if_neg e1, if_pos e2, h2 e2]
  all_goals
    have e3 : what = 3 := by grind
    rw [if_neg (by rw [e3]; decide), if_neg (by rw [e3]; decide), if_neg (by rw [e3]; decide), if_pos e3]
    obtain ⟨k, f1, f2, f3⟩ := h3 e3
  · rw [iB_1.mpr]
    refine f3.mp ?_
    rw [f1] at e
    exact (nl_eq rfl rfl (by omega) (by omega)).mp e
  · rw [iB_0.mpr]
    intro y
    exact e (by rw [f1, f3.mpr y])
set_option maxHeartbeats 1000000 in
set_option maxRecDepth 100000 in
theorem mX9_measure {g : gX} {V : vM} {m : Nat → Int32} {N : Nat} {t : Int32} {S : FS} {fb : Nat → Nat} (hCQ : CQ V m N t S fb) (c what : Int32) : MM g jX9_measure V [.ref (g.2.1 0), .int c, .int what] (eI (fun z U => z = measZ S fb m N c what ∧ CQ U m N t S fb ∧ frQ V U)) := by
  refine MM.of plX9_measure (Nat.le_of_ble_eq_true rfl) ?_
  obtain ⟨Q, hQ⟩ : ∃ Q : Option Value → vM → Prop, Q = (eI (fun z U => z = measZ S fb m N c what ∧ CQ U m N t S fb ∧ frQ V U)) := ⟨_, rfl⟩
  rw [← hQ]
  show XX g jX9_measure Q V 0 [(0, .ref (g.2.1 0)), (1, .int c), (2, .int what)] []
  obtain ⟨hC, hS, hG, h24, h15, hcn, hL⟩ := id hCQ
  have hP0 := hC.1
  have hV13 : V 1 3 = nI S.2.1 := by rw [hP0.2.1, hcn]
  have hN24 := hP0.2.2.1.1
  have hcl := cntM_le (kd7 m) N
  refine x_iload_n dX9_measure_0 1 rfl ?_
  refine x_iconst (v := -1) dX9_measure_1 (by decide) ?_
  refine x_icmp_eq 16 dX9_measure_2 (by decide) (fun c1 => ?_) (fun c1 => ?_)
  · refine YY.L (lv' := [(0, .ref (g.2.1 0)), (1, .int (-1)), (2, .int what)]) (by rw [(show c = -1 by assumption)]) ?_
    refine x_aload_n dX9_measure_16 0 rfl ?_
    refine x_callV (K := jX9_flattened) [] lk_X9_118 ⟨⟨rfl, rfl⟩, Nat.le_of_ble_eq_true rfl, Nat.le_of_ble_eq_true rfl⟩ rfl rfl (mX9_flattened hC) rfl (Nat.le_of_ble_eq_true rfl) rfl dX9_measure_17 (keR fun U2 hU3 => ?_)
    have hCQ2 := hCQ.aft hU3
    have hFr := hU3.2.2
    have hF : FRC U2 S := by rw [← hS]; exact hU3.1
    have hPU := hCQ2.1.1
    have hU13 : U2 1 3 = nI (S.2.1) := by rw [hPU.2.1, hcn]
    refine x_astore_n 3 [(3, .ref (g.2.1 6)), (0, .ref (g.2.1 0)), (1, .int (-1)), (2, .int what)] dX9_measure_20 rfl (by decide) rfl ?_
    refine x_iload_n dX9_measure_21 2 rfl ?_
    refine x_iconst (v := -1) dX9_measure_22 (by decide) ?_
    refine x_icmp_ne 30 dX9_measure_23 (by decide) (fun c4 => by exfalso; revert c4; decide) (fun c4 => ?_)
    refine x_iconst (v := 0) dX9_measure_26 (by decide) ?_
    refine x_goto 31 dX9_measure_27 (by decide) ?_
    refine x_istore 4 [(4, .int 0), (3, .ref (g.2.1 6)), (0, .ref (g.2.1 0)), (1, .int (-1)), (2, .int what)] dX9_measure_31 (by decide) rfl ?_
    refine x_iload_n dX9_measure_33 3 rfl ?_
    refine x_iconst (v := -1) dX9_measure_34 (by decide) ?_
    refine x_icmp_ne 48 dX9_measure_35 (by decide) (fun c5 => by exfalso; revert c5; decide) (fun c5 => ?_)
    refine x_aload_n dX9_measure_38 2 rfl ?_
    refine x_getR fl_X9_12 rfl rfl dX9_measure_39 ?_
    refine x_getI fl_X9_91 rfl rfl dX9_measure_42 ?_
    refine x_topi (hU13) ?_
    refine x_goto 51 dX9_measure_45 (by decide) ?_
    refine x_istore 5 [(5, .int (nI (S.2.1))), (4, .int 0), (3, .ref (g.2.1 6)), (0, .ref (g.2.1 0)), (1, .int (-1)), (2, .int what)] dX9_measure_51 (by decide) rfl ?_
    refine x_iload_n dX9_measure_53 5 rfl ?_
    by_cases c6 : what = 0
    · refine x_tableIn 84 dX9_measure_54 (by rw [c6]; decide) (by rw [c6]; decide) (by rw [c6]; rfl) (by decide) ?_
      refine x_aload_n dX9_measure_84 2 rfl ?_
      refine x_iload dX9_measure_85 1 rfl ?_
      refine x_iload dX9_measure_87 0 rfl ?_
      have q7 : (nI (S.2.1) : Int32) = nI S.2.1 := rfl
      refine YY.S (st' := [.int (nI S.2.1), .int 0, .ref (g.2.1 6)]) (by rw [q7]) ?_
      have q8 : (0 : Int32) = nI 0 := rfl
      refine YY.S (st' := [.int (nI S.2.1), .int (nI 0), .ref (g.2.1 6)]) (by rw [q8]) ?_
      refine x_callV (K := jX1_verticesIn) [.int (nI 0), .int (nI S.2.1)] lk_X9_177 ⟨⟨rfl, rfl⟩, Nat.le_of_ble_eq_true rfl, Nat.le_of_ble_eq_true rfl⟩ rfl rfl (by have := mX1_verticesIn (g := g) hF hG h24 h15 0 S.2.1 (by omega); rw [Nat.zero_add] at this; exact this) rfl (Nat.le_of_ble_eq_true rfl) rfl dX9_measure_89 (kpI ?_)
      refine x_iret dX9_measure_92 rfl ?_
      rw [hQ]
      first
        | exact ⟨_, rfl, (measZ_no (by assumption) (by assumption)).symm, hCQ, frQ.refl V⟩
        | (refine ⟨_, rfl, ?_, hCQ2, hFr⟩
           rw [measZ_k h24 hk0 hkS]
           unfold measR
           first | rw [if_pos (by assumption)] | rw [if_neg (by assumption), if_pos (by assumption)] | rw [if_neg (by assumption), if_neg (by assumption), if_pos (by assumption)] | (rw [if_neg (by assumption), if_neg (by assumption), if_neg (by assumption), if_pos (by assumption)]; first | rw [iB_1.mpr (by assumption)] | rw [iB_0.mpr (by assumption)]) | rw [if_neg (by grind), if_neg (by grind), if_neg (by grind), if_neg (by grind)])
        | (refine ⟨_, rfl, ?_, hCQ2, hFr⟩
           rw [measZ_a (by assumption)]
           unfold measR
           (first | ((first | rw [if_pos (by assumption)] | rw [if_neg (by assumption), if_pos (by assumption)] | rw [if_neg (by assumption), if_neg (by assumption), if_pos (by assumption)] | (rw [if_neg (by assumption), if_neg (by assumption), if_neg (by assumption), if_pos (by assumption)]; first | rw [iB_1.mpr (by assumption)] | rw [iB_0.mpr (by assumption)]) | rw [if_neg (by grind), if_neg (by grind), if_neg (by grind), if_neg (by grind)]); done) | (simp only [Nat.zero_add]; first | rw [if_pos (by assumption)] | rw [if_neg (by assumption), if_pos (by assumption)] | rw [if_neg (by assumption), if_neg (by assumption), if_pos (by assumption)] | (rw [if_neg (by assumption), if_neg (by assumption), if_neg (by assumption), if_pos (by assumption)]; first | rw [iB_1.mpr (by assumption)] | rw [iB_0.mpr (by assumption)]) | rw [if_neg (by grind), if_neg (by grind), if_neg (by grind), if_neg (by grind)])))
    by_cases c9 : what = 1
    · refine x_tableIn 93 dX9_measure_54 (by rw [c9]; decide) (by rw [c9]; decide) (by rw [c9]; rfl) (by decide) ?_
      refine x_aload_n dX9_measure_93 2 rfl ?_
      refine x_iload dX9_measure_94 1 rfl ?_
      refine x_iload dX9_measure_96 0 rfl ?_
      have q10 : (nI (S.2.1) : Int32) = nI S.2.1 := rfl
      refine YY.S (st' := [.int (nI S.2.1), .int 0, .ref (g.2.1 6)]) (by rw [q10]) ?_
      have q11 : (0 : Int32) = nI 0 := rfl
      refine YY.S (st' := [.int (nI S.2.1), .int (nI 0), .ref (g.2.1 6)]) (by rw [q11]) ?_
      refine x_callV (K := jX1_segmentsIn) [.int (nI 0), .int (nI S.2.1)] lk_X9_180 ⟨⟨rfl, rfl⟩, Nat.le_of_ble_eq_true rfl, Nat.le_of_ble_eq_true rfl⟩ rfl rfl (by have := mX1_segmentsIn (g := g) hF hG h24 h15 0 S.2.1 (by omega); rw [Nat.zero_add] at this; exact this) rfl (Nat.le_of_ble_eq_true rfl) rfl dX9_measure_98 (kpI ?_)
      refine x_iret dX9_measure_101 rfl ?_
      rw [hQ]
      first
        | exact ⟨_, rfl, (measZ_no (by assumption) (by assumption)).symm, hCQ, frQ.refl V⟩
        | (refine ⟨_, rfl, ?_, hCQ2, hFr⟩
           rw [measZ_k h24 hk0 hkS]
           unfold measR
           first | rw [if_pos (by assumption)] | rw [if_neg (by assumption), if_pos (by assumption)] | rw [if_neg (by assumption), if_neg (by assumption), if_pos (by assumption)] | (rw [if_neg (by assumption), if_neg (by assumption), if_neg (by assumption), if_pos (by assumption)]; first | rw [iB_1.mpr (by assumption)] | rw [iB_0.mpr (by assumption)]) | rw [if_neg (by grind), if_neg (by grind), if_neg (by grind), if_neg (by grind)])
        | (refine ⟨_, rfl, ?_, hCQ2, hFr⟩
           rw [measZ_a (by assumption)]
           unfold measR
           (first | ((first | rw [if_pos (by assumption)] | rw [if_neg (by assumption), if_pos (by assumption)] | rw [if_neg (by assumption), if_neg (by assumption), if_pos (by assumption)] | (rw [if_neg (by assumption), if_neg (by assumption), if_neg (by assumption), if_pos (by assumption)]; first | rw [iB_1.mpr (by assumption)] | rw [iB_0.mpr (by assumption)]) | rw [if_neg (by grind), if_neg (by grind), if_neg (by grind), if_neg (by grind)]); done) | (simp only [Nat.zero_add]; first | rw [if_pos (by assumption)] | rw [if_neg (by assumption), if_pos (by assumption)] | rw [if_neg (by assumption), if_neg (by assumption), if_pos (by assumption)] | (rw [if_neg (by assumption), if_neg (by assumption), if_neg (by assumption), if_pos (by assumption)]; first | rw [iB_1.mpr (by assumption)] | rw [iB_0.mpr (by assumption)]) | rw [if_neg (by grind), if_neg (by grind), if_neg (by grind), if_neg (by grind)])))
    by_cases c12 : what = 2
    · refine x_tableIn 102 dX9_measure_54 (by rw [c12]; decide) (by rw [c12]; decide) (by rw [c12]; rfl) (by decide) ?_
      refine x_aload_n dX9_measure_102 2 rfl ?_
      refine x_iload dX9_measure_103 1 rfl ?_
      refine x_iload dX9_measure_105 0 rfl ?_
      have q13 : (nI (S.2.1) : Int32) = nI S.2.1 := rfl
      refine YY.S (st' := [.int (nI S.2.1), .int 0, .ref (g.2.1 6)]) (by rw [q13]) ?_
      have q14 : (0 : Int32) = nI 0 := rfl
      refine YY.S (st' := [.int (nI S.2.1), .int (nI 0), .ref (g.2.1 6)]) (by rw [q14]) ?_
      refine x_callV (K := jX1_lengthIn) [.int (nI 0), .int (nI S.2.1)] lk_X9_183 ⟨⟨rfl, rfl⟩, Nat.le_of_ble_eq_true rfl, Nat.le_of_ble_eq_true rfl⟩ rfl rfl (by have := mX1_lengthIn (g := g) hF hG h24 h15 0 S.2.1 (by omega); rw [Nat.zero_add] at this; exact this) rfl (Nat.le_of_ble_eq_true rfl) rfl dX9_measure_107 (kpI ?_)
      refine x_iret dX9_measure_110 rfl ?_
      rw [hQ]
      first
        | exact ⟨_, rfl, (measZ_no (by assumption) (by assumption)).symm, hCQ, frQ.refl V⟩
        | (refine ⟨_, rfl, ?_, hCQ2, hFr⟩
           rw [measZ_k h24 hk0 hkS]
           unfold measR
           first | rw [if_pos (by assumption)] | rw [if_neg (by assumption), if_pos (by assumption)] | rw [if_neg (by assumption), if_neg (by assumption), if_pos (by assumption)] | (rw [if_neg (by assumption), if_neg (by assumption), if_neg (by assumption), if_pos (by assumption)]; first | rw [iB_1.mpr (by assumption)] | rw [iB_0.mpr (by assumption)]) | rw [if_neg (by grind), if_neg (by grind), if_neg (by grind), if_neg (by grind)])
        | (refine ⟨_, rfl, ?_, hCQ2, hFr⟩
           rw [measZ_a (by assumption)]
           unfold measR
           (first | ((first | rw [if_pos (by assumption)] | rw [if_neg (by assumption), if_pos (by assumption)] | rw [if_neg (by assumption), if_neg (by assumption), if_pos (by assumption)] | (rw [if_neg (by assumption), if_neg (by assumption), if_neg (by assumption), if_pos (by assumption)]; first | rw [iB_1.mpr (by assumption)] | rw [iB_0.mpr (by assumption)]) | rw [if_neg (by grind), if_neg (by grind), if_neg (by grind), if_neg (by grind)]); done) | (simp only [Nat.zero_add]; first | rw [if_pos (by assumption)] | rw [if_neg (by assumption), if_pos (by assumption)] | rw [if_neg (by assumption), if_neg (by assumption), if_pos (by assumption)] | (rw [if_neg (by assumption), if_neg (by assumption), if_neg (by assumption), if_pos (by assumption)]; first | rw [iB_1.mpr (by assumption)] | rw [iB_0.mpr (by assumption)]) | rw [if_neg (by grind), if_neg (by grind), if_neg (by grind), if_neg (by grind)])))
    by_cases c15 : what = 3
    · refine x_tableIn 111 dX9_measure_54 (by rw [c15]; decide) (by rw [c15]; decide) (by rw [c15]; rfl) (by decide) ?_
      refine x_aload_n dX9_measure_111 3 rfl ?_
      refine x_getR fl_X9_12 rfl rfl dX9_measure_112 ?_
      refine x_iload dX9_measure_115 1 rfl ?_
      refine x_iload dX9_measure_117 0 rfl ?_
      have q16 : (nI (S.2.1) : Int32) = nI S.2.1 := rfl
      refine YY.S (st' := [.int (nI S.2.1), .int 0, .ref (g.2.1 1)]) (by rw [q16]) ?_
      have q17 : (0 : Int32) = nI 0 := rfl
      refine YY.S (st' := [.int (nI S.2.1), .int (nI 0), .ref (g.2.1 1)]) (by rw [q17]) ?_
      refine x_callV (K := jX5_areClosed) [.int (nI 0), .int (nI S.2.1)] lk_X9_186 ⟨⟨rfl, rfl⟩, Nat.le_of_ble_eq_true rfl, Nat.le_of_ble_eq_true rfl⟩ rfl rfl (by have := mX5_areClosed (g := g) hPU 0 S.2.1 (fun _ => by omega) (by omega); rw [Nat.zero_add] at this; exact this) rfl (Nat.le_of_ble_eq_true rfl) rfl dX9_measure_119 (kpI ?_)
      refine x_if_eq 129 dX9_measure_122 (by decide) (fun c18 => ?_) (fun c18 => ?_)
      · have c18n : ¬ (∀ j, j < S.2.1 → clZ m N (0 + j)) := iB_0.mp c18
        refine x_iconst (v := 0) dX9_measure_129 (by decide) ?_
        refine x_iret dX9_measure_130 rfl ?_
        rw [hQ]
        first
          | exact ⟨_, rfl, (measZ_no (by assumption) (by assumption)).symm, hCQ, frQ.refl V⟩
          | (refine ⟨_, rfl, ?_, hCQ2, hFr⟩
             rw [measZ_k h24 hk0 hkS]
             unfold measR
             first | rw [if_pos (by assumption)] | rw [if_neg (by assumption), if_pos (by assumption)] | rw [if_neg (by assumption), if_neg (by assumption), if_pos (by assumption)] | (rw [if_neg (by assumption), if_neg (by assumption), if_neg (by assumption), if_pos (by assumption)]; first | rw [iB_1.mpr (by assumption)] | rw [iB_0.mpr (by assumption)]) | rw [if_neg (by grind), if_neg (by grind), if_neg (by grind), if_neg (by grind)])
          | (refine ⟨_, rfl, ?_, hCQ2, hFr⟩
             rw [measZ_a (by assumption)]
             unfold measR
             (first | ((first | rw [if_pos (by assumption)] | rw [if_neg (by assumption), if_pos (by assumption)] | rw [if_neg (by assumption), if_neg (by assumption), if_pos (by assumption)] | (rw [if_neg (by assumption), if_neg (by assumption), if_neg (by assumption), if_pos (by assumption)]; first | rw [iB_1.mpr (by assumption)] | rw [iB_0.mpr (by assumption)]) | rw [if_neg (by grind), if_neg (by grind), if_neg (by grind), if_neg (by grind)]); done) | (simp only [Nat.zero_add]; first | rw [if_pos (by assumption)] | rw [if_neg (by assumption), if_pos (by assumption)] | rw [if_neg (by assumption), if_neg (by assumption), if_pos (by assumption)] | (rw [if_neg (by assumption), if_neg (by assumption), if_neg (by assumption), if_pos (by assumption)]; first | rw [iB_1.mpr (by assumption)] | rw [iB_0.mpr (by assumption)]) | rw [if_neg (by grind), if_neg (by grind), if_neg (by grind), if_neg (by grind)])))
      · have c18n : (∀ j, j < S.2.1 → clZ m N (0 + j)) := Classical.not_not.mp (fun q => c18 (iB_0.mpr q))
        refine x_iconst (v := 1) dX9_measure_125 (by decide) ?_
        refine x_goto 130 dX9_measure_126 (by decide) ?_
        refine x_iret dX9_measure_130 rfl ?_
        rw [hQ]
        first
          | exact ⟨_, rfl, (measZ_no (by assumption) (by assumption)).symm, hCQ, frQ.refl V⟩
          | (refine ⟨_, rfl, ?_, hCQ2, hFr⟩
             rw [measZ_k h24 hk0 hkS]
             unfold measR
             first | rw [if_pos (by assumption)] | rw [if_neg (by assumption), if_pos (by assumption)] | rw [if_neg (by assumption), if_neg (by assumption), if_pos (by assumption)] | (rw [if_neg (by assumption), if_neg (by assumption), if_neg (by assumption), if_pos (by assumption)]; first | rw [iB_1.mpr (by assumption)] | rw [iB_0.mpr (by assumption)]) | rw [if_neg (by grind), if_neg (by grind), if_neg (by grind), if_neg (by grind)])
          | (refine ⟨_, rfl, ?_, hCQ2, hFr⟩
             rw [measZ_a (by assumption)]
             unfold measR
             (first | ((first | rw [if_pos (by assumption)] | rw [if_neg (by assumption), if_pos (by assumption)] | rw [if_neg (by assumption), if_neg (by assumption), if_pos (by assumption)] | (rw [if_neg (by assumption), if_neg (by assumption), if_neg (by assumption), if_pos (by assumption)]; first | rw [iB_1.mpr (by assumption)] | rw [iB_0.mpr (by assumption)]) | rw [if_neg (by grind), if_neg (by grind), if_neg (by grind), if_neg (by grind)]); done) | (simp only [Nat.zero_add]; first | rw [if_pos (by assumption)] | rw [if_neg (by assumption), if_pos (by assumption)] | rw [if_neg (by assumption), if_neg (by assumption), if_pos (by assumption)] | (rw [if_neg (by assumption), if_neg (by assumption), if_neg (by assumption), if_pos (by assumption)]; first | rw [iB_1.mpr (by assumption)] | rw [iB_0.mpr (by assumption)]) | rw [if_neg (by grind), if_neg (by grind), if_neg (by grind), if_neg (by grind)])))
    refine x_tableOut 131 dX9_measure_54 (by have q0 : ¬ what.toInt = 0 := fun q => c6 (Int32.toInt_inj.mp (q.trans (by decide))); have q1 : ¬ what.toInt = 1 := fun q => c9 (Int32.toInt_inj.mp (q.trans (by decide))); have q2 : ¬ what.toInt = 2 := fun q => c12 (Int32.toInt_inj.mp (q.trans (by decide))); have q3 : ¬ what.toInt = 3 := fun q => c15 (Int32.toInt_inj.mp (q.trans (by decide))); omega) (by decide) ?_
    refine x_ldc ct_X9_83 dX9_measure_131 ?_
    refine x_iret dX9_measure_133 rfl ?_
    rw [hQ]
    first
      | exact ⟨_, rfl, (measZ_no (by assumption) (by assumption)).symm, hCQ, frQ.refl V⟩
      | (refine ⟨_, rfl, ?_, hCQ2, hFr⟩
         rw [measZ_k h24 hk0 hkS]
         unfold measR
         first | rw [if_pos (by assumption)] | rw [if_neg (by assumption), if_pos (by assumption)] | rw [if_neg (by assumption), if_neg (by assumption), if_pos (by assumption)] | (rw [if_neg (by assumption), if_neg (by assumption), if_neg (by assumption), if_pos (by assumption)]; first | rw [iB_1.mpr (by assumption)] | rw [iB_0.mpr (by assumption)]) | rw [if_neg (by grind), if_neg (by grind), if_neg (by grind), if_neg (by grind)])
      | (refine ⟨_, rfl, ?_, hCQ2, hFr⟩
         rw [measZ_a (by assumption)]
         unfold measR
         (first | ((first | rw [if_pos (by assumption)] | rw [if_neg (by assumption), if_pos (by assumption)] | rw [if_neg (by assumption), if_neg (by assumption), if_pos (by assumption)] | (rw [if_neg (by assumption), if_neg (by assumption), if_neg (by assumption), if_pos (by assumption)]; first | rw [iB_1.mpr (by assumption)] | rw [iB_0.mpr (by assumption)]) | rw [if_neg (by grind), if_neg (by grind), if_neg (by grind), if_neg (by grind)]); done) | (simp only [Nat.zero_add]; first | rw [if_pos (by assumption)] | rw [if_neg (by assumption), if_pos (by assumption)] | rw [if_neg (by assumption), if_neg (by assumption), if_pos (by assumption)] | (rw [if_neg (by assumption), if_neg (by assumption), if_neg (by assumption), if_pos (by assumption)]; first | rw [iB_1.mpr (by assumption)] | rw [iB_0.mpr (by assumption)]) | rw [if_neg (by grind), if_neg (by grind), if_neg (by grind), if_neg (by grind)])))
  · refine x_aload_n dX9_measure_5 0 rfl ?_
    refine x_iload_n dX9_measure_6 1 rfl ?_
    refine x_callV (K := jX9_isContour) [.int c] lk_X9_133 ⟨⟨rfl, rfl⟩, Nat.le_of_ble_eq_true rfl, Nat.le_of_ble_eq_true rfl⟩ rfl rfl (by have := mX9_isContour (g := g) V c; rw [hV13] at this; exact this) rfl (Nat.le_of_ble_eq_true rfl) rfl dX9_measure_7 (kpI ?_)
    refine x_if_ne 16 dX9_measure_10 (by decide) (fun c19 => ?_) (fun c19 => ?_)
    · have c19n : (0 ≤ c ∧ c < nI S.2.1) := Classical.not_not.mp (fun q => c19 (iB_0.mpr q))
      obtain ⟨k, hk0, hkS⟩ := nI_ex (c := c) (n := S.2.1) (by omega) (by assumption)
      refine YY.L (lv' := [(0, .ref (g.2.1 0)), (1, .int (nI k)), (2, .int what)]) (by rw [hk0]) ?_
      have hkb := hG.bd (j := k + 1) (by omega)
      have hkl := (hG.2.2.2 k hkS).1
      refine x_aload_n dX9_measure_16 0 rfl ?_
      refine x_callV (K := jX9_flattened) [] lk_X9_118 ⟨⟨rfl, rfl⟩, Nat.le_of_ble_eq_true rfl, Nat.le_of_ble_eq_true rfl⟩ rfl rfl (mX9_flattened hC) rfl (Nat.le_of_ble_eq_true rfl) rfl dX9_measure_17 (keR fun U20 hU21 => ?_)
      have hCQ2 := hCQ.aft hU21
      have hFr := hU21.2.2
      have hF : FRC U20 S := by rw [← hS]; exact hU21.1
      have hPU := hCQ2.1.1
      have hU13 : U20 1 3 = nI (S.2.1) := by rw [hPU.2.1, hcn]
      refine x_astore_n 3 [(3, .ref (g.2.1 6)), (0, .ref (g.2.1 0)), (1, .int (nI k)), (2, .int what)] dX9_measure_20 rfl (by decide) rfl ?_
      refine x_iload_n dX9_measure_21 2 rfl ?_
      refine x_iconst (v := -1) dX9_measure_22 (by decide) ?_
      refine x_icmp_ne 30 dX9_measure_23 (by decide) (fun c22 => ?_) (fun c22 => by exfalso; exact nI_nm1 (by omega) c22)
      refine x_iload_n dX9_measure_30 2 rfl ?_
      refine x_istore 4 [(4, .int (nI k)), (3, .ref (g.2.1 6)), (0, .ref (g.2.1 0)), (1, .int (nI k)), (2, .int what)] dX9_measure_31 (by decide) rfl ?_
      refine x_iload_n dX9_measure_33 3 rfl ?_
      refine x_iconst (v := -1) dX9_measure_34 (by decide) ?_
      refine x_icmp_ne 48 dX9_measure_35 (by decide) (fun c23 => ?_) (fun c23 => by exfalso; exact nI_nm1 (by omega) c23)
      refine x_iload_n dX9_measure_48 3 rfl ?_
      refine x_iconst (v := 1) dX9_measure_49 (by decide) ?_
      refine x_iadd dX9_measure_50 ?_
      refine x_istore 5 [(5, .int ((nI k) + 1)), (4, .int (nI k)), (3, .ref (g.2.1 6)), (0, .ref (g.2.1 0)), (1, .int (nI k)), (2, .int what)] dX9_measure_51 (by decide) rfl ?_
      refine x_iload_n dX9_measure_53 5 rfl ?_
      by_cases c24 : what = 0
      · refine x_tableIn 84 dX9_measure_54 (by rw [c24]; decide) (by rw [c24]; decide) (by rw [c24]; rfl) (by decide) ?_
        refine x_aload_n dX9_measure_84 2 rfl ?_
        refine x_iload dX9_measure_85 1 rfl ?_
        refine x_iload dX9_measure_87 0 rfl ?_
        have q25 : ((nI k) + 1 : Int32) = nI (k + 1) := nadd (rfl) (rfl)
        refine YY.S (st' := [.int (nI (k + 1)), .int (nI k), .ref (g.2.1 6)]) (by rw [q25]) ?_
        refine x_callV (K := jX1_verticesIn) [.int (nI k), .int (nI (k + 1))] lk_X9_177 ⟨⟨rfl, rfl⟩, Nat.le_of_ble_eq_true rfl, Nat.le_of_ble_eq_true rfl⟩ rfl rfl (mX1_verticesIn hF hG h24 h15 k 1 (by omega)) rfl (Nat.le_of_ble_eq_true rfl) rfl dX9_measure_89 (kpI ?_)
        refine x_iret dX9_measure_92 rfl ?_
        rw [hQ]
        first
          | exact ⟨_, rfl, (measZ_no (by assumption) (by assumption)).symm, hCQ, frQ.refl V⟩
          | (refine ⟨_, rfl, ?_, hCQ2, hFr⟩
             rw [measZ_k h24 hk0 hkS]
             unfold measR
             first | rw [if_pos (by assumption)] | rw [if_neg (by assumption), if_pos (by assumption)] | rw [if_neg (by assumption), if_neg (by assumption), if_pos (by assumption)] | (rw [if_neg (by assumption), if_neg (by assumption), if_neg (by assumption), if_pos (by assumption)]; first | rw [iB_1.mpr (by assumption)] | rw [iB_0.mpr (by assumption)]) | rw [if_neg (by grind), if_neg (by grind), if_neg (by grind), if_neg (by grind)])
          | (refine ⟨_, rfl, ?_, hCQ2, hFr⟩
             rw [measZ_a (by assumption)]
             unfold measR
             (first | ((first | rw [if_pos (by assumption)] | rw [if_neg (by assumption), if_pos (by assumption)] | rw [if_neg (by assumption), if_neg (by assumption), if_pos (by assumption)] | (rw [if_neg (by assumption), if_neg (by assumption), if_neg (by assumption), if_pos (by assumption)]; first | rw [iB_1.mpr (by assumption)] | rw [iB_0.mpr (by assumption)]) | rw [if_neg (by grind), if_neg (by grind), if_neg (by grind), if_neg (by grind)]); done) | (simp only [Nat.zero_add]; first | rw [if_pos (by assumption)] | rw [if_neg (by assumption), if_pos (by assumption)] | rw [if_neg (by assumption), if_neg (by assumption), if_pos (by assumption)] | (rw [if_neg (by assumption), if_neg (by assumption), if_neg (by assumption), if_pos (by assumption)]; first | rw [iB_1.mpr (by assumption)] | rw [iB_0.mpr (by assumption)]) | rw [if_neg (by grind), if_neg (by grind), if_neg (by grind), if_neg (by grind)])))
      by_cases c26 : what = 1
      · refine x_tableIn 93 dX9_measure_54 (by rw [c26]; decide) (by rw [c26]; decide) (by rw [c26]; rfl) (by decide) ?_
        refine x_aload_n dX9_measure_93 2 rfl ?_
        refine x_iload dX9_measure_94 1 rfl ?_
        refine x_iload dX9_measure_96 0 rfl ?_
        have q27 : ((nI k) + 1 : Int32) = nI (k + 1) := nadd (rfl) (rfl)
        refine YY.S (st' := [.int (nI (k + 1)), .int (nI k), .ref (g.2.1 6)]) (by rw [q27]) ?_
        refine x_callV (K := jX1_segmentsIn) [.int (nI k), .int (nI (k + 1))] lk_X9_180 ⟨⟨rfl, rfl⟩, Nat.le_of_ble_eq_true rfl, Nat.le_of_ble_eq_true rfl⟩ rfl rfl (mX1_segmentsIn hF hG h24 h15 k 1 (by omega)) rfl (Nat.le_of_ble_eq_true rfl) rfl dX9_measure_98 (kpI ?_)
        refine x_iret dX9_measure_101 rfl ?_
        rw [hQ]
        first
          | exact ⟨_, rfl, (measZ_no (by assumption) (by assumption)).symm, hCQ, frQ.refl V⟩
          | (refine ⟨_, rfl, ?_, hCQ2, hFr⟩
             rw [measZ_k h24 hk0 hkS]
             unfold measR
             first | rw [if_pos (by assumption)] | rw [if_neg (by assumption), if_pos (by assumption)] | rw [if_neg (by assumption), if_neg (by assumption), if_pos (by assumption)] | (rw [if_neg (by assumption), if_neg (by assumption), if_neg (by assumption), if_pos (by assumption)]; first | rw [iB_1.mpr (by assumption)] | rw [iB_0.mpr (by assumption)]) | rw [if_neg (by grind), if_neg (by grind), if_neg (by grind), if_neg (by grind)])
          | (refine ⟨_, rfl, ?_, hCQ2, hFr⟩
             rw [measZ_a (by assumption)]
             unfold measR
             (first | ((first | rw [if_pos (by assumption)] | rw [if_neg (by assumption), if_pos (by assumption)] | rw [if_neg (by assumption), if_neg (by assumption), if_pos (by assumption)] | (rw [if_neg (by assumption), if_neg (by assumption), if_neg (by assumption), if_pos (by assumption)]; first | rw [iB_1.mpr (by assumption)] | rw [iB_0.mpr (by assumption)]) | rw [if_neg (by grind), if_neg (by grind), if_neg (by grind), if_neg (by grind)]); done) | (simp only [Nat.zero_add]; first | rw [if_pos (by assumption)] | rw [if_neg (by assumption), if_pos (by assumption)] | rw [if_neg (by assumption), if_neg (by assumption), if_pos (by assumption)] | (rw [if_neg (by assumption), if_neg (by assumption), if_neg (by assumption), if_pos (by assumption)]; first | rw [iB_1.mpr (by assumption)] | rw [iB_0.mpr (by assumption)]) | rw [if_neg (by grind), if_neg (by grind), if_neg (by grind), if_neg (by grind)])))
      by_cases c28 : what = 2
      · refine x_tableIn 102 dX9_measure_54 (by rw [c28]; decide) (by rw [c28]; decide) (by rw [c28]; rfl) (by decide) ?_
        refine x_aload_n dX9_measure_102 2 rfl ?_
        refine x_iload dX9_measure_103 1 rfl ?_
        refine x_iload dX9_measure_105 0 rfl ?_
        have q29 : ((nI k) + 1 : Int32) = nI (k + 1) := nadd (rfl) (rfl)
        refine YY.S (st' := [.int (nI (k + 1)), .int (nI k), .ref (g.2.1 6)]) (by rw [q29]) ?_
        refine x_callV (K := jX1_lengthIn) [.int (nI k), .int (nI (k + 1))] lk_X9_183 ⟨⟨rfl, rfl⟩, Nat.le_of_ble_eq_true rfl, Nat.le_of_ble_eq_true rfl⟩ rfl rfl (mX1_lengthIn hF hG h24 h15 k 1 (by omega)) rfl (Nat.le_of_ble_eq_true rfl) rfl dX9_measure_107 (kpI ?_)
        refine x_iret dX9_measure_110 rfl ?_
        rw [hQ]
        first
          | exact ⟨_, rfl, (measZ_no (by assumption) (by assumption)).symm, hCQ, frQ.refl V⟩
          | (refine ⟨_, rfl, ?_, hCQ2, hFr⟩
             rw [measZ_k h24 hk0 hkS]
             unfold measR
             first | rw [if_pos (by assumption)] | rw [if_neg (by assumption), if_pos (by assumption)] | rw [if_neg (by assumption), if_neg (by assumption), if_pos (by assumption)] | (rw [if_neg (by assumption), if_neg (by assumption), if_neg (by assumption), if_pos (by assumption)]; first | rw [iB_1.mpr (by assumption)] | rw [iB_0.mpr (by assumption)]) | rw [if_neg (by grind), if_neg (by grind), if_neg (by grind), if_neg (by grind)])
          | (refine ⟨_, rfl, ?_, hCQ2, hFr⟩
             rw [measZ_a (by assumption)]
             unfold measR
             (first | ((first | rw [if_pos (by assumption)] | rw [if_neg (by assumption), if_pos (by assumption)] | rw [if_neg (by assumption), if_neg (by assumption), if_pos (by assumption)] | (rw [if_neg (by assumption), if_neg (by assumption), if_neg (by assumption), if_pos (by assumption)]; first | rw [iB_1.mpr (by assumption)] | rw [iB_0.mpr (by assumption)]) | rw [if_neg (by grind), if_neg (by grind), if_neg (by grind), if_neg (by grind)]); done) | (simp only [Nat.zero_add]; first | rw [if_pos (by assumption)] | rw [if_neg (by assumption), if_pos (by assumption)] | rw [if_neg (by assumption), if_neg (by assumption), if_pos (by assumption)] | (rw [if_neg (by assumption), if_neg (by assumption), if_neg (by assumption), if_pos (by assumption)]; first | rw [iB_1.mpr (by assumption)] | rw [iB_0.mpr (by assumption)]) | rw [if_neg (by grind), if_neg (by grind), if_neg (by grind), if_neg (by grind)])))
      by_cases c30 : what = 3
      · refine x_tableIn 111 dX9_measure_54 (by rw [c30]; decide) (by rw [c30]; decide) (by rw [c30]; rfl) (by decide) ?_
        refine x_aload_n dX9_measure_111 3 rfl ?_
        refine x_getR fl_X9_12 rfl rfl dX9_measure_112 ?_
        refine x_iload dX9_measure_115 1 rfl ?_
        refine x_iload dX9_measure_117 0 rfl ?_
        have q31 : ((nI k) + 1 : Int32) = nI (k + 1) := nadd (rfl) (rfl)
        refine YY.S (st' := [.int (nI (k + 1)), .int (nI k), .ref (g.2.1 1)]) (by rw [q31]) ?_
        refine x_callV (K := jX5_areClosed) [.int (nI k), .int (nI (k + 1))] lk_X9_186 ⟨⟨rfl, rfl⟩, Nat.le_of_ble_eq_true rfl, Nat.le_of_ble_eq_true rfl⟩ rfl rfl (mX5_areClosed (g := g) hPU k 1 (fun _ => by omega) (by omega)) rfl (Nat.le_of_ble_eq_true rfl) rfl dX9_measure_119 (kpI ?_)
        refine x_if_eq 129 dX9_measure_122 (by decide) (fun c32 => ?_) (fun c32 => ?_)
        · have c32n : ¬ (∀ j, j < 1 → clZ m N (k + j)) := iB_0.mp c32
          refine x_iconst (v := 0) dX9_measure_129 (by decide) ?_
          refine x_iret dX9_measure_130 rfl ?_
          rw [hQ]
          first
            | exact ⟨_, rfl, (measZ_no (by assumption) (by assumption)).symm, hCQ, frQ.refl V⟩
            | (refine ⟨_, rfl, ?_, hCQ2, hFr⟩
               rw [measZ_k h24 hk0 hkS]
               unfold measR
               first | rw [if_pos (by assumption)] | rw [if_neg (by assumption), if_pos (by assumption)] | rw [if_neg (by assumption), if_neg (by assumption), if_pos (by assumption)] | (rw [if_neg (by assumption), if_neg (by assumption), if_neg (by assumption), if_pos (by assumption)]; first | rw [iB_1.mpr (by assumption)] | rw [iB_0.mpr (by assumption)]) | rw [if_neg (by grind), if_neg (by grind), if_neg (by grind), if_neg (by grind)])
            | (refine ⟨_, rfl, ?_, hCQ2, hFr⟩
               rw [measZ_a (by assumption)]
               unfold measR
               (first | ((first | rw [if_pos (by assumption)] | rw [if_neg (by assumption), if_pos (by assumption)] | rw [if_neg (by assumption), if_neg (by assumption), if_pos (by assumption)] | (rw [if_neg (by assumption), if_neg (by assumption), if_neg (by assumption), if_pos (by assumption)]; first | rw [iB_1.mpr (by assumption)] | rw [iB_0.mpr (by assumption)]) | rw [if_neg (by grind), if_neg (by grind), if_neg (by grind), if_neg (by grind)]); done) | (simp only [Nat.zero_add]; first | rw [if_pos (by assumption)] | rw [if_neg (by assumption), if_pos (by assumption)] | rw [if_neg (by assumption), if_neg (by assumption), if_pos (by assumption)] | (rw [if_neg (by assumption), if_neg (by assumption), if_neg (by assumption), if_pos (by assumption)]; first | rw [iB_1.mpr (by assumption)] | rw [iB_0.mpr (by assumption)]) | rw [if_neg (by grind), if_neg (by grind), if_neg (by grind), if_neg (by grind)])))
        · have c32n : (∀ j, j < 1 → clZ m N (k + j)) := Classical.not_not.mp (fun q => c32 (iB_0.mpr q))
          refine x_iconst (v := 1) dX9_measure_125 (by decide) ?_
          refine x_goto 130 dX9_measure_126 (by decide) ?_
          refine x_iret dX9_measure_130 rfl ?_
          rw [hQ]
          first
            | exact ⟨_, rfl, (measZ_no (by assumption) (by assumption)).symm, hCQ, frQ.refl V⟩
            | (refine ⟨_, rfl, ?_, hCQ2, hFr⟩
               rw [measZ_k h24 hk0 hkS]
               unfold measR
               first | rw [if_pos (by assumption)] | rw [if_neg (by assumption), if_pos (by assumption)] | rw [if_neg (by assumption), if_neg (by assumption), if_pos (by assumption)] | (rw [if_neg (by assumption), if_neg (by assumption), if_neg (by assumption), if_pos (by assumption)]; first | rw [iB_1.mpr (by assumption)] | rw [iB_0.mpr (by assumption)]) | rw [if_neg (by grind), if_neg (by grind), if_neg (by grind), if_neg (by grind)])
            | (refine ⟨_, rfl, ?_, hCQ2, hFr⟩
               rw [measZ_a (by assumption)]
               unfold measR
               (first | ((first | rw [if_pos (by assumption)] | rw [if_neg (by assumption), if_pos (by assumption)] | rw [if_neg (by assumption), if_neg (by assumption), if_pos (by assumption)] | (rw [if_neg (by assumption), if_neg (by assumption), if_neg (by assumption), if_pos (by assumption)]; first | rw [iB_1.mpr (by assumption)] | rw [iB_0.mpr (by assumption)]) | rw [if_neg (by grind), if_neg (by grind), if_neg (by grind), if_neg (by grind)]); done) | (simp only [Nat.zero_add]; first | rw [if_pos (by assumption)] | rw [if_neg (by assumption), if_pos (by assumption)] | rw [if_neg (by assumption), if_neg (by assumption), if_pos (by assumption)] | (rw [if_neg (by assumption), if_neg (by assumption), if_neg (by assumption), if_pos (by assumption)]; first | rw [iB_1.mpr (by assumption)] | rw [iB_0.mpr (by assumption)]) | rw [if_neg (by grind), if_neg (by grind), if_neg (by grind), if_neg (by grind)])))
      refine x_tableOut 131 dX9_measure_54 (by have q0 : ¬ what.toInt = 0 := fun q => c24 (Int32.toInt_inj.mp (q.trans (by decide))); have q1 : ¬ what.toInt = 1 := fun q => c26 (Int32.toInt_inj.mp (q.trans (by decide))); have q2 : ¬ what.toInt = 2 := fun q => c28 (Int32.toInt_inj.mp (q.trans (by decide))); have q3 : ¬ what.toInt = 3 := fun q => c30 (Int32.toInt_inj.mp (q.trans (by decide))); omega) (by decide) ?_
      refine x_ldc ct_X9_83 dX9_measure_131 ?_
      refine x_iret dX9_measure_133 rfl ?_
      rw [hQ]
      first
        | exact ⟨_, rfl, (measZ_no (by assumption) (by assumption)).symm, hCQ, frQ.refl V⟩
        | (refine ⟨_, rfl, ?_, hCQ2, hFr⟩
           rw [measZ_k h24 hk0 hkS]
           unfold measR
           first | rw [if_pos (by assumption)] | rw [if_neg (by assumption), if_pos (by assumption)] | rw [if_neg (by assumption), if_neg (by assumption), if_pos (by assumption)] | (rw [if_neg (by assumption), if_neg (by assumption), if_neg (by assumption), if_pos (by assumption)]; first | rw [iB_1.mpr (by assumption)] | rw [iB_0.mpr (by assumption)]) | rw [if_neg (by grind), if_neg (by grind), if_neg (by grind), if_neg (by grind)])
        | (refine ⟨_, rfl, ?_, hCQ2, hFr⟩
           rw [measZ_a (by assumption)]
           unfold measR
           (first | ((first | rw [if_pos (by assumption)] | rw [if_neg (by assumption), if_pos (by assumption)] | rw [if_neg (by assumption), if_neg (by assumption), if_pos (by assumption)] | (rw [if_neg (by assumption), if_neg (by assumption), if_neg (by assumption), if_pos (by assumption)]; first | rw [iB_1.mpr (by assumption)] | rw [iB_0.mpr (by assumption)]) | rw [if_neg (by grind), if_neg (by grind), if_neg (by grind), if_neg (by grind)]); done) | (simp only [Nat.zero_add]; first | rw [if_pos (by assumption)] | rw [if_neg (by assumption), if_pos (by assumption)] | rw [if_neg (by assumption), if_neg (by assumption), if_pos (by assumption)] | (rw [if_neg (by assumption), if_neg (by assumption), if_neg (by assumption), if_pos (by assumption)]; first | rw [iB_1.mpr (by assumption)] | rw [iB_0.mpr (by assumption)]) | rw [if_neg (by grind), if_neg (by grind), if_neg (by grind), if_neg (by grind)])))
    · have c19n : ¬ (0 ≤ c ∧ c < nI S.2.1) := iB_0.mp c19
      refine x_ldc ct_X9_111 dX9_measure_13 ?_
      refine x_iret dX9_measure_15 rfl ?_
      rw [hQ]
      first
        | exact ⟨_, rfl, (measZ_no (by assumption) (by assumption)).symm, hCQ, frQ.refl V⟩
        | (refine ⟨_, rfl, ?_, hCQ2, hFr⟩
           rw [measZ_k h24 hk0 hkS]
           unfold measR
           first | rw [if_pos (by assumption)] | rw [if_neg (by assumption), if_pos (by assumption)] | rw [if_neg (by assumption), if_neg (by assumption), if_pos (by assumption)] | (rw [if_neg (by assumption), if_neg (by assumption), if_neg (by assumption), if_pos (by assumption)]; first | rw [iB_1.mpr (by assumption)] | rw [iB_0.mpr (by assumption)]) | rw [if_neg (by grind), if_neg (by grind), if_neg (by grind), if_neg (by grind)])
        | (refine ⟨_, rfl, ?_, hCQ2, hFr⟩
           rw [measZ_a (by assumption)]
           unfold measR
           (first | ((first | rw [if_pos (by assumption)] | rw [if_neg (by assumption), if_pos (by assumption)] | rw [if_neg (by assumption), if_neg (by assumption), if_pos (by assumption)] | (rw [if_neg (by assumption), if_neg (by assumption), if_neg (by assumption), if_pos (by assumption)]; first | rw [iB_1.mpr (by assumption)] | rw [iB_0.mpr (by assumption)]) | rw [if_neg (by grind), if_neg (by grind), if_neg (by grind), if_neg (by grind)]); done) | (simp only [Nat.zero_add]; first | rw [if_pos (by assumption)] | rw [if_neg (by assumption), if_pos (by assumption)] | rw [if_neg (by assumption), if_neg (by assumption), if_pos (by assumption)] | (rw [if_neg (by assumption), if_neg (by assumption), if_neg (by assumption), if_pos (by assumption)]; first | rw [iB_1.mpr (by assumption)] | rw [iB_0.mpr (by assumption)]) | rw [if_neg (by grind), if_neg (by grind), if_neg (by grind), if_neg (by grind)])))
set_option maxHeartbeats 1000000 in
set_option maxRecDepth 100000 in
theorem mX10_measured {g : gX} {V : vM} {S : FS} {fb : Nat → Nat} {kc : Nat} (hF : FRM V S kc) (hE : V 65 S.2.1 = nI S.1) (hG : GI S fb) (h24 : S.2.1 ≤ 24) (h15 : S.1 ≤ 1536) {m : Nat → Int32} {N : Nat} (hw : WF m N) (hmU : V 50 = m) (hN8 : m 168 = nI N) (h0 : 0 < N) (c : Nat) (hc : c < S.2.1) (what : Int32) : MM g jX10_measured V [.ref (g.2.1 49), .int (nI c), .int what] (pI V (mesd S fb m N c what)) := by
  refine MM.of plX10_measured (Nat.le_of_ble_eq_true rfl) ?_
  obtain ⟨Q, hQ⟩ : ∃ Q : Option Value → vM → Prop, Q = (pI V (mesd S fb m N c what)) := ⟨_, rfl⟩
  rw [← hQ]
  show XX g jX10_measured Q V 0 [(0, .ref (g.2.1 49)), (1, .int (nI c)), (2, .int what)] []
  have hb1 := hG.bd (j := c + 1) (by omega)
  have hlt := (hG.2.2.2 c hc).1
  refine x_iload_n dX10_measured_0 2 rfl ?_
  refine x_if_ne 12 dX10_measured_1 (by decide) (fun c1 => ?_) (fun c1 => ?_)
  · refine x_iload_n dX10_measured_12 2 rfl ?_
    refine x_iconst (v := 1) dX10_measured_13 (by decide) ?_
    refine x_icmp_ne 27 dX10_measured_14 (by decide) (fun c2 => ?_) (fun c2 => ?_)
    · refine x_iload_n dX10_measured_27 2 rfl ?_
      refine x_iconst (v := 2) dX10_measured_28 (by decide) ?_
      refine x_icmp_ne 40 dX10_measured_29 (by decide) (fun c3 => ?_) (fun c3 => ?_)
      · refine x_aload_n dX10_measured_40 0 rfl ?_
        refine x_iload_n dX10_measured_41 1 rfl ?_
        refine x_callV (K := jX10_isClosed) [.int (nI c)] lk_X10_251 ⟨⟨rfl, rfl⟩, Nat.le_of_ble_eq_true rfl, Nat.le_of_ble_eq_true rfl⟩ rfl rfl (mX10_isClosed hw hmU hN8 (by omega) c (by omega)) rfl (Nat.le_of_ble_eq_true rfl) rfl dX10_measured_42 (kpI ?_)
        refine x_if_eq 52 dX10_measured_45 (by decide) (fun c4 => ?_) (fun c4 => ?_)
        · have c4n : ¬ (clZ m N c) := iB_0.mp c4
          refine x_iconst (v := 0) dX10_measured_52 (by decide) ?_
          refine x_iret dX10_measured_53 rfl ?_
          rw [hQ]
          refine ⟨rfl, ?_⟩
          unfold mesd
          first | rw [if_pos (by assumption)] | rw [if_neg (by assumption), if_pos (by assumption)] | rw [if_neg (by assumption), if_neg (by assumption), if_pos (by assumption)] | (rw [if_neg (by assumption), if_neg (by assumption), if_neg (by assumption)]; first | rw [iB_1.mpr (by assumption)] | rw [iB_0.mpr (by assumption)])
        · have c4n : (clZ m N c) := Classical.not_not.mp (fun q => c4 (iB_0.mpr q))
          refine x_iconst (v := 1) dX10_measured_48 (by decide) ?_
          refine x_goto 53 dX10_measured_49 (by decide) ?_
          refine x_iret dX10_measured_53 rfl ?_
          rw [hQ]
          refine ⟨rfl, ?_⟩
          unfold mesd
          first | rw [if_pos (by assumption)] | rw [if_neg (by assumption), if_pos (by assumption)] | rw [if_neg (by assumption), if_neg (by assumption), if_pos (by assumption)] | (rw [if_neg (by assumption), if_neg (by assumption), if_neg (by assumption)]; first | rw [iB_1.mpr (by assumption)] | rw [iB_0.mpr (by assumption)])
      · refine x_aload_n dX10_measured_32 0 rfl ?_
        refine x_iload_n dX10_measured_33 1 rfl ?_
        refine x_callV (K := jX10_lengthOfContour) [.int (nI c)] lk_X10_248 ⟨⟨rfl, rfl⟩, Nat.le_of_ble_eq_true rfl, Nat.le_of_ble_eq_true rfl⟩ rfl rfl (mX10_lengthOfContour hF hE hG h24 h15 c (by omega)) rfl (Nat.le_of_ble_eq_true rfl) rfl dX10_measured_34 (kpI ?_)
        refine x_goto 53 dX10_measured_37 (by decide) ?_
        refine x_iret dX10_measured_53 rfl ?_
        rw [hQ]
        refine ⟨rfl, ?_⟩
        unfold mesd
        first | rw [if_pos (by assumption)] | rw [if_neg (by assumption), if_pos (by assumption)] | rw [if_neg (by assumption), if_neg (by assumption), if_pos (by assumption)] | (rw [if_neg (by assumption), if_neg (by assumption), if_neg (by assumption)]; first | rw [iB_1.mpr (by assumption)] | rw [iB_0.mpr (by assumption)])
    · refine x_aload_n dX10_measured_17 0 rfl ?_
      refine x_iload_n dX10_measured_18 1 rfl ?_
      refine x_callV (K := jX10_verticesOf) [.int (nI c)] lk_X10_245 ⟨⟨rfl, rfl⟩, Nat.le_of_ble_eq_true rfl, Nat.le_of_ble_eq_true rfl⟩ rfl rfl (mX10_verticesOf hF hE hG h24 h15 c (by omega)) rfl (Nat.le_of_ble_eq_true rfl) rfl dX10_measured_19 (kpI ?_)
      refine x_iconst (v := 1) dX10_measured_22 (by decide) ?_
      refine x_isub dX10_measured_23 ?_
      refine x_topi (y := nI (fb (c + 1) - fb c - 1)) (nsub (a := fb (c + 1) - fb c) (b := 1) (by omega) rfl rfl) ?_
      refine x_goto 53 dX10_measured_24 (by decide) ?_
      refine x_iret dX10_measured_53 rfl ?_
      rw [hQ]
      refine ⟨rfl, ?_⟩
      unfold mesd
      first | rw [if_pos (by assumption)] | rw [if_neg (by assumption), if_pos (by assumption)] | rw [if_neg (by assumption), if_neg (by assumption), if_pos (by assumption)] | (rw [if_neg (by assumption), if_neg (by assumption), if_neg (by assumption)]; first | rw [iB_1.mpr (by assumption)] | rw [iB_0.mpr (by assumption)])
  · refine x_aload_n dX10_measured_4 0 rfl ?_
    refine x_iload_n dX10_measured_5 1 rfl ?_
    refine x_callV (K := jX10_verticesOf) [.int (nI c)] lk_X10_245 ⟨⟨rfl, rfl⟩, Nat.le_of_ble_eq_true rfl, Nat.le_of_ble_eq_true rfl⟩ rfl rfl (mX10_verticesOf hF hE hG h24 h15 c (by omega)) rfl (Nat.le_of_ble_eq_true rfl) rfl dX10_measured_6 (kpI ?_)
    refine x_goto 53 dX10_measured_9 (by decide) ?_
    refine x_iret dX10_measured_53 rfl ?_
    rw [hQ]
    refine ⟨rfl, ?_⟩
    unfold mesd
    first | rw [if_pos (by assumption)] | rw [if_neg (by assumption), if_pos (by assumption)] | rw [if_neg (by assumption), if_neg (by assumption), if_pos (by assumption)] | (rw [if_neg (by assumption), if_neg (by assumption), if_neg (by assumption)]; first | rw [iB_1.mpr (by assumption)] | rw [iB_0.mpr (by assumption)])
set_option maxHeartbeats 1000000 in
set_option maxRecDepth 100000 in
theorem mX10_measure {g : gX} {V : vM} {m : Nat → Int32} {N : Nat} {t : Int32} {S : FS} {fb : Nat → Nat} (hMQ : MZ V m N t S fb) (c what : Int32) : MM g jX10_measure V [.ref (g.2.1 49), .int c, .int what] (eI (fun z U => z = measZ S fb m N c what ∧ MZ U m N t S fb ∧ frM V U)) := by
  refine MM.of plX10_measure (Nat.le_of_ble_eq_true rfl) ?_
  obtain ⟨Q, hQ⟩ : ∃ Q : Option Value → vM → Prop, Q = (eI (fun z U => z = measZ S fb m N c what ∧ MZ U m N t S fb ∧ frM V U)) := ⟨_, rfl⟩
  rw [← hQ]
  show XX g jX10_measure Q V 0 [(0, .ref (g.2.1 49)), (1, .int c), (2, .int what)] []
  obtain ⟨hw, hm50, hN8, ht9, hS, hG, h24, h15, hcn, hL⟩ := id hMQ
  have hN24 := hw.1
  have hcl := cntM_le (kd7 m) N
  refine x_iload_n dX10_measure_0 1 rfl ?_
  refine x_iconst (v := -1) dX10_measure_1 (by decide) ?_
  refine x_icmp_eq 16 dX10_measure_2 (by decide) (fun c1 => ?_) (fun c1 => ?_)
  · refine YY.L (lv' := [(0, .ref (g.2.1 49)), (1, .int (-1)), (2, .int what)]) (by rw [(show c = -1 by assumption)]) ?_
    refine x_iload_n dX10_measure_16 2 rfl ?_
    refine x_iconst (v := 0) dX10_measure_17 (by decide) ?_
    refine x_iconst (v := 3) dX10_measure_18 (by decide) ?_
    refine x_callS (K := jX10_in) [.int what, .int 0, .int 3] lk_X10_80 ⟨⟨rfl, rfl⟩, Nat.le_of_ble_eq_true rfl, Nat.le_of_ble_eq_true rfl⟩ (mX10_in V what 0 3) rfl (Nat.le_of_ble_eq_true rfl) rfl dX10_measure_19 (kpI ?_)
    refine x_if_ne 28 dX10_measure_22 (by decide) (fun c2 => ?_) (fun c2 => ?_)
    · have c2n : (0 ≤ what ∧ what ≤ 3) := Classical.not_not.mp (fun q => c2 (iB_0.mpr q))
      refine x_aload_n dX10_measure_28 0 rfl ?_
      refine x_callV (K := jX10_flatten) [] lk_X10_111 ⟨⟨rfl, rfl⟩, Nat.le_of_ble_eq_true rfl, Nat.le_of_ble_eq_true rfl⟩ rfl rfl (mX10_flatten V hw hm50 hN8 t ht9) rfl (Nat.le_of_ble_eq_true rfl) rfl dX10_measure_29 (keV fun U3 hU4 => ?_)
      have hMQ2 := hMQ.aft hU4
      have hFr := hU4.2.2
      have hF : FRM U3 S N := by rw [← hS]; exact hU4.1
      have hE : U3 65 S.2.1 = nI S.1 := by rw [← hS]; exact hU4.2.1
      have hmU := hMQ2.2.1
      refine x_iload_n dX10_measure_32 1 rfl ?_
      refine x_if_lt 43 dX10_measure_33 (by decide) (fun c5 => ?_) (fun c5 => by exfalso; revert c5; decide)
      refine x_iconst (v := 0) dX10_measure_43 (by decide) ?_
      refine x_istore_n 3 [(3, .int 0), (0, .ref (g.2.1 49)), (1, .int (-1)), (2, .int what)] dX10_measure_44 rfl (by decide) rfl ?_
      refine x_iconst (v := 0) dX10_measure_45 (by decide) ?_
      refine x_istore 4 [(4, .int 0), (3, .int 0), (0, .ref (g.2.1 49)), (1, .int (-1)), (2, .int what)] dX10_measure_46 (by decide) rfl ?_
      have lp6 : ∀ (fu : Nat) (j : Nat) (zz : Int32), (j ≤ S.2.1) → (msum S fb m N j what zz) → (S.2.1 - j) < fu → XX g jX10_measure Q U3 48 [(4, .int (nI j)), (3, .int zz), (0, .ref (g.2.1 49)), (1, .int (-1)), (2, .int what)] [] := by
        intro fu
        induction fu with
        | zero => intro _ _ _ _ hmz; exact absurd hmz (Nat.not_lt_zero _)
        | succ fu ih =>
          intro j zz hj hz hmz
          refine x_iload dX10_measure_48 0 rfl ?_
          refine x_aload_n dX10_measure_50 2 rfl ?_
          refine x_getI fl_X10_211 rfl rfl dX10_measure_51 ?_
          refine x_topi (hF.2.1) ?_
          refine x_icmp_ge 73 dX10_measure_54 (by decide) (fun c7 => ?_) (fun c7 => ?_)
          · have c7n : S.2.1 ≤ j := (nl_le (a := S.2.1) (b := j) (rfl) (rfl) (by omega) (by omega)).mp c7
            refine x_iload_n dX10_measure_73 4 rfl ?_
            refine x_iconst (v := 3) dX10_measure_74 (by decide) ?_
            refine x_icmp_ge 82 dX10_measure_75 (by decide) (fun c8 => ?_) (fun c8 => ?_)
            · refine x_iload_n dX10_measure_82 1 rfl ?_
              refine x_aload_n dX10_measure_83 2 rfl ?_
              refine x_getI fl_X10_211 rfl rfl dX10_measure_84 ?_
              refine x_topi (hF.2.1) ?_
              refine x_icmp_ne 94 dX10_measure_87 (by decide) (fun c9 => ?_) (fun c9 => ?_)
              · refine x_iconst (v := 0) dX10_measure_94 (by decide) ?_
                refine x_iret dX10_measure_95 rfl ?_
                rw [hQ]
                first
                  | exact ⟨_, rfl, (measZ_no (by assumption) (by assumption)).symm, hMQ, frM.refl V⟩
                  | (refine ⟨_, rfl, ?_, hMQ2, hFr⟩
                     rw [measZ_k h24 hk0 hkS]
                     exact mesd_R (by assumption))
                  | (refine ⟨_, rfl, ?_, hMQ2, hFr⟩
                     have he := msum_e hG h24 (by assumption) (show msum S fb m N S.2.1 what zz by rw [show S.2.1 = j by omega]; exact hz)
                     rw [measZ_a (by assumption)]
                     first | exact he.1 (by assumption) | exact he.2.1 (by assumption) (by assumption) | exact he.2.2 (by assumption) (by assumption) | exact he.1 (by grind) | exact he.2.1 (by grind) (by assumption) | exact he.2.2 (by grind) (by assumption))
                  | (refine ⟨_, rfl, ?_, hMQ, frM.refl V⟩
                     first | rw [measZ_a (by assumption)] | rw [measZ_k h24 hk0 hkS]
                     unfold measR
                     rw [if_neg (by grind), if_neg (by grind), if_neg (by grind), if_neg (by grind)])
              · refine x_iconst (v := 1) dX10_measure_90 (by decide) ?_
                refine x_goto 95 dX10_measure_91 (by decide) ?_
                refine x_iret dX10_measure_95 rfl ?_
                rw [hQ]
                first
                  | exact ⟨_, rfl, (measZ_no (by assumption) (by assumption)).symm, hMQ, frM.refl V⟩
                  | (refine ⟨_, rfl, ?_, hMQ2, hFr⟩
                     rw [measZ_k h24 hk0 hkS]
                     exact mesd_R (by assumption))
                  | (refine ⟨_, rfl, ?_, hMQ2, hFr⟩
                     have he := msum_e hG h24 (by assumption) (show msum S fb m N S.2.1 what zz by rw [show S.2.1 = j by omega]; exact hz)
                     rw [measZ_a (by assumption)]
                     first | exact he.1 (by assumption) | exact he.2.1 (by assumption) (by assumption) | exact he.2.2 (by assumption) (by assumption) | exact he.1 (by grind) | exact he.2.1 (by grind) (by assumption) | exact he.2.2 (by grind) (by assumption))
                  | (refine ⟨_, rfl, ?_, hMQ, frM.refl V⟩
                     first | rw [measZ_a (by assumption)] | rw [measZ_k h24 hk0 hkS]
                     unfold measR
                     rw [if_neg (by grind), if_neg (by grind), if_neg (by grind), if_neg (by grind)])
            · refine x_iload_n dX10_measure_78 1 rfl ?_
              refine x_goto 95 dX10_measure_79 (by decide) ?_
              refine x_iret dX10_measure_95 rfl ?_
              rw [hQ]
              first
                | exact ⟨_, rfl, (measZ_no (by assumption) (by assumption)).symm, hMQ, frM.refl V⟩
                | (refine ⟨_, rfl, ?_, hMQ2, hFr⟩
                   rw [measZ_k h24 hk0 hkS]
                   exact mesd_R (by assumption))
                | (refine ⟨_, rfl, ?_, hMQ2, hFr⟩
                   have he := msum_e hG h24 (by assumption) (show msum S fb m N S.2.1 what zz by rw [show S.2.1 = j by omega]; exact hz)
                   rw [measZ_a (by assumption)]
                   first | exact he.1 (by assumption) | exact he.2.1 (by assumption) (by assumption) | exact he.2.2 (by assumption) (by assumption) | exact he.1 (by grind) | exact he.2.1 (by grind) (by assumption) | exact he.2.2 (by grind) (by assumption))
                | (refine ⟨_, rfl, ?_, hMQ, frM.refl V⟩
                   first | rw [measZ_a (by assumption)] | rw [measZ_k h24 hk0 hkS]
                   unfold measR
                   rw [if_neg (by grind), if_neg (by grind), if_neg (by grind), if_neg (by grind)])
          · have c7n : j < S.2.1 := Nat.not_le.mp (fun q => c7 ((nl_le (a := S.2.1) (b := j) (rfl) (rfl) (by omega) (by omega)).mpr q))
            refine x_iload_n dX10_measure_57 1 rfl ?_
            refine x_aload_n dX10_measure_58 2 rfl ?_
            refine x_iload dX10_measure_59 0 rfl ?_
            refine x_iload_n dX10_measure_61 4 rfl ?_
            refine x_callV (K := jX10_measured) [.int (nI j), .int what] lk_X10_254 ⟨⟨rfl, rfl⟩, Nat.le_of_ble_eq_true rfl, Nat.le_of_ble_eq_true rfl⟩ rfl rfl (mX10_measured hF hE hG h24 h15 hw hmU hN8 (by omega) j (by omega) what) rfl (Nat.le_of_ble_eq_true rfl) rfl dX10_measure_62 (kpI ?_)
            refine x_iadd dX10_measure_65 ?_
            refine x_istore_n 3 [(3, .int (zz + (mesd S fb m N j what))), (4, .int (nI j)), (0, .ref (g.2.1 49)), (1, .int (-1)), (2, .int what)] dX10_measure_66 rfl (by decide) rfl ?_
            refine x_iinc 4 (v := (nI j) + 1) 1 [(4, .int ((nI j) + 1)), (3, .int (zz + (mesd S fb m N j what))), (0, .ref (g.2.1 49)), (1, .int (-1)), (2, .int what)] dX10_measure_67 rfl (by rfl) (by decide) rfl ?_
            refine x_goto 48 dX10_measure_70 (by decide) ?_
            refine YY.L (lv' := [(4, .int (nI (j + 1))), (3, .int (zz + (mesd S fb m N j what))), (0, .ref (g.2.1 49)), (1, .int (-1)), (2, .int what)]) (by simp only [nI_1]) ?_
            exact ih (j + 1) (zz + (mesd S fb m N j what)) (by omega) (by exact msum_s hG h24 h15 (by omega) (by assumption) hz) (by omega)
      refine YY.L (lv' := [(4, .int (nI 0)), (3, .int 0), (0, .ref (g.2.1 49)), (1, .int (-1)), (2, .int what)]) (by rfl) ?_
      exact lp6 _ 0 0 (by omega) (by exact msum_0 hG) (Nat.lt_succ_self _)
    · have c2n : ¬ (0 ≤ what ∧ what ≤ 3) := iB_0.mp c2
      refine x_ldc ct_X10_88 dX10_measure_25 ?_
      refine x_iret dX10_measure_27 rfl ?_
      rw [hQ]
      first
        | exact ⟨_, rfl, (measZ_no (by assumption) (by assumption)).symm, hMQ, frM.refl V⟩
        | (refine ⟨_, rfl, ?_, hMQ2, hFr⟩
           rw [measZ_k h24 hk0 hkS]
           exact mesd_R (by assumption))
        | (refine ⟨_, rfl, ?_, hMQ2, hFr⟩
           have he := msum_e hG h24 (by assumption) (show msum S fb m N S.2.1 what zz by rw [show S.2.1 = j by omega]; exact hz)
           rw [measZ_a (by assumption)]
           first | exact he.1 (by assumption) | exact he.2.1 (by assumption) (by assumption) | exact he.2.2 (by assumption) (by assumption) | exact he.1 (by grind) | exact he.2.1 (by grind) (by assumption) | exact he.2.2 (by grind) (by assumption))
        | (refine ⟨_, rfl, ?_, hMQ, frM.refl V⟩
           first | rw [measZ_a (by assumption)] | rw [measZ_k h24 hk0 hkS]
           unfold measR
           rw [if_neg (by grind), if_neg (by grind), if_neg (by grind), if_neg (by grind)])
  · refine x_aload_n dX10_measure_5 0 rfl ?_
    refine x_iload_n dX10_measure_6 1 rfl ?_
    refine x_callV (K := jX10_isContour) [.int c] lk_X10_123 ⟨⟨rfl, rfl⟩, Nat.le_of_ble_eq_true rfl, Nat.le_of_ble_eq_true rfl⟩ rfl rfl (by have := mX10_isContour (g := g) V N hw.1 (by rw [hm50]; exact hN8) (by rw [hm50]; exact hw) c; rw [hm50, ← hcn] at this; exact this) rfl (Nat.le_of_ble_eq_true rfl) rfl dX10_measure_7 (kpI ?_)
    refine x_if_ne 16 dX10_measure_10 (by decide) (fun c10 => ?_) (fun c10 => ?_)
    · have c10n : (0 ≤ c ∧ c < nI S.2.1) := Classical.not_not.mp (fun q => c10 (iB_0.mpr q))
      obtain ⟨k, hk0, hkS⟩ := nI_ex (c := c) (n := S.2.1) (by omega) (by assumption)
      refine YY.L (lv' := [(0, .ref (g.2.1 49)), (1, .int (nI k)), (2, .int what)]) (by rw [hk0]) ?_
      have hkb := hG.bd (j := k + 1) (by omega)
      have hkl := (hG.2.2.2 k hkS).1
      refine x_iload_n dX10_measure_16 2 rfl ?_
      refine x_iconst (v := 0) dX10_measure_17 (by decide) ?_
      refine x_iconst (v := 3) dX10_measure_18 (by decide) ?_
      refine x_callS (K := jX10_in) [.int what, .int 0, .int 3] lk_X10_80 ⟨⟨rfl, rfl⟩, Nat.le_of_ble_eq_true rfl, Nat.le_of_ble_eq_true rfl⟩ (mX10_in V what 0 3) rfl (Nat.le_of_ble_eq_true rfl) rfl dX10_measure_19 (kpI ?_)
      refine x_if_ne 28 dX10_measure_22 (by decide) (fun c11 => ?_) (fun c11 => ?_)
      · have c11n : (0 ≤ what ∧ what ≤ 3) := Classical.not_not.mp (fun q => c11 (iB_0.mpr q))
        refine x_aload_n dX10_measure_28 0 rfl ?_
        refine x_callV (K := jX10_flatten) [] lk_X10_111 ⟨⟨rfl, rfl⟩, Nat.le_of_ble_eq_true rfl, Nat.le_of_ble_eq_true rfl⟩ rfl rfl (mX10_flatten V hw hm50 hN8 t ht9) rfl (Nat.le_of_ble_eq_true rfl) rfl dX10_measure_29 (keV fun U12 hU13 => ?_)
        have hMQ2 := hMQ.aft hU13
        have hFr := hU13.2.2
        have hF : FRM U12 S N := by rw [← hS]; exact hU13.1
        have hE : U12 65 S.2.1 = nI S.1 := by rw [← hS]; exact hU13.2.1
        have hmU := hMQ2.2.1
        refine x_iload_n dX10_measure_32 1 rfl ?_
        refine x_if_lt 43 dX10_measure_33 (by decide) (fun c14 => by exfalso; exact absurd c14 (nI_pos (by omega))) (fun c14 => ?_)
        refine x_aload_n dX10_measure_36 0 rfl ?_
        refine x_iload_n dX10_measure_37 1 rfl ?_
        refine x_iload_n dX10_measure_38 2 rfl ?_
        refine x_callV (K := jX10_measured) [.int (nI k), .int what] lk_X10_254 ⟨⟨rfl, rfl⟩, Nat.le_of_ble_eq_true rfl, Nat.le_of_ble_eq_true rfl⟩ rfl rfl (mX10_measured hF hE hG h24 h15 hw hmU hN8 (by omega) k (by omega) what) rfl (Nat.le_of_ble_eq_true rfl) rfl dX10_measure_39 (kpI ?_)
        refine x_iret dX10_measure_42 rfl ?_
        rw [hQ]
        first
          | exact ⟨_, rfl, (measZ_no (by assumption) (by assumption)).symm, hMQ, frM.refl V⟩
          | (refine ⟨_, rfl, ?_, hMQ2, hFr⟩
             rw [measZ_k h24 hk0 hkS]
             exact mesd_R (by assumption))
          | (refine ⟨_, rfl, ?_, hMQ2, hFr⟩
             have he := msum_e hG h24 (by assumption) (show msum S fb m N S.2.1 what zz by rw [show S.2.1 = j by omega]; exact hz)
             rw [measZ_a (by assumption)]
             first | exact he.1 (by assumption) | exact he.2.1 (by assumption) (by assumption) | exact he.2.2 (by assumption) (by assumption) | exact he.1 (by grind) | exact he.2.1 (by grind) (by assumption) | exact he.2.2 (by grind) (by assumption))
          | (refine ⟨_, rfl, ?_, hMQ, frM.refl V⟩
             first | rw [measZ_a (by assumption)] | rw [measZ_k h24 hk0 hkS]
             unfold measR
             rw [if_neg (by grind), if_neg (by grind), if_neg (by grind), if_neg (by grind)])
      · have c11n : ¬ (0 ≤ what ∧ what ≤ 3) := iB_0.mp c11
        refine x_ldc ct_X10_88 dX10_measure_25 ?_
        refine x_iret dX10_measure_27 rfl ?_
        rw [hQ]
        first
          | exact ⟨_, rfl, (measZ_no (by assumption) (by assumption)).symm, hMQ, frM.refl V⟩
          | (refine ⟨_, rfl, ?_, hMQ2, hFr⟩
             rw [measZ_k h24 hk0 hkS]
             exact mesd_R (by assumption))
          | (refine ⟨_, rfl, ?_, hMQ2, hFr⟩
             have he := msum_e hG h24 (by assumption) (show msum S fb m N S.2.1 what zz by rw [show S.2.1 = j by omega]; exact hz)
             rw [measZ_a (by assumption)]
             first | exact he.1 (by assumption) | exact he.2.1 (by assumption) (by assumption) | exact he.2.2 (by assumption) (by assumption) | exact he.1 (by grind) | exact he.2.1 (by grind) (by assumption) | exact he.2.2 (by grind) (by assumption))
          | (refine ⟨_, rfl, ?_, hMQ, frM.refl V⟩
             first | rw [measZ_a (by assumption)] | rw [measZ_k h24 hk0 hkS]
             unfold measR
             rw [if_neg (by grind), if_neg (by grind), if_neg (by grind), if_neg (by grind)])
    · have c10n : ¬ (0 ≤ c ∧ c < nI S.2.1) := iB_0.mp c10
      refine x_ldc ct_X10_107 dX10_measure_13 ?_
      refine x_iret dX10_measure_15 rfl ?_
      rw [hQ]
      first
        | exact ⟨_, rfl, (measZ_no (by assumption) (by assumption)).symm, hMQ, frM.refl V⟩
        | (refine ⟨_, rfl, ?_, hMQ2, hFr⟩
           rw [measZ_k h24 hk0 hkS]
           exact mesd_R (by assumption))
        | (refine ⟨_, rfl, ?_, hMQ2, hFr⟩
           have he := msum_e hG h24 (by assumption) (show msum S fb m N S.2.1 what zz by rw [show S.2.1 = j by omega]; exact hz)
           rw [measZ_a (by assumption)]
           first | exact he.1 (by assumption) | exact he.2.1 (by assumption) (by assumption) | exact he.2.2 (by assumption) (by assumption) | exact he.1 (by grind) | exact he.2.1 (by grind) (by assumption) | exact he.2.2 (by grind) (by assumption))
        | (refine ⟨_, rfl, ?_, hMQ, frM.refl V⟩
           first | rw [measZ_a (by assumption)] | rw [measZ_k h24 hk0 hkS]
           unfold measR
           rw [if_neg (by grind), if_neg (by grind), if_neg (by grind), if_neg (by grind)])
