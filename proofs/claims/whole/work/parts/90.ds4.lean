theorem ds_ans {U : vM} {D : List (Int × Int)} {x what : Int32} (h : DRr U D) (hl : min D.length 1001 ≤ 1000) (hx : ¬ x = -1) : (what = 0 → (if 0 ≤ x ∧ x < U 8 3 ∧ x < 1000 then U 29 x.toNatClampNeg else -1000006) = dsR D x what) ∧ (¬ what = 0 → (if 0 ≤ x ∧ x < U 8 3 ∧ x < 1000 then U 30 x.toNatClampNeg else -1000006) = dsR D x what) := by
  have e3 : U 8 3 = nI D.length := by rw [h.1]; congr 1; omega
  rw [e3]
  by_cases c : 0 ≤ x ∧ x < nI D.length
  · obtain ⟨w, hw, hwl⟩ := nI_ex (by omega) c
    have c3 : 0 ≤ x ∧ x < nI D.length ∧ x < 1000 := ⟨c.1, c.2, by rw [hw]; exact (nI_ltI (a := w) (b := 1000) (by omega) (by omega)).mpr (by omega)⟩
    have hg := h.2 w hwl (by omega)
    rw [if_pos c3, if_pos c3, hw, nI_clamp (by omega), ← hw]
    exact ⟨fun q => dsR_i (by omega) hw hwl (by rw [if_pos q]; exact hg.1), fun q => dsR_i (by omega) hw hwl (by rw [if_neg q]; exact hg.2)⟩
  · rw [if_neg (fun q => c ⟨q.1, q.2.1⟩), if_neg (fun q => c ⟨q.1, q.2.1⟩), dsR_o (by omega) hx c]
    exact ⟨fun _ => rfl, fun _ => rfl⟩
theorem ds_lens {A B : List (Int × Int)} (h : eqL A B) (hl : A.length ≤ 1001) : A.length = min B.length 1001 := by
  have := h.1
  omega
theorem ds_mans {U : vM} {D : List (Int × Int)} {x what : Int32} (h : DMr U D) (hl : min D.length 1001 ≤ 1000) {w u : Nat} (hw : x = nI w) (hwl : w < min D.length 1001) (hu : what = nI u) (hu2 : u < 2) : U 70 (2 * w + u) = dsR D x what := by
  have hg := h w (by omega) (by omega)
  refine dsR_i (by omega) hw (by omega) ?_
  rcases (show u = 0 ∨ u = 1 by omega) with rfl | rfl
  · rw [if_pos (show what = 0 from hu)]; exact hg.1
  · rw [if_neg (by rw [hu]; decide)]; exact hg.2
set_option maxHeartbeats 1000000 in
set_option maxRecDepth 100000 in
theorem mX9_dash {g : gX} {V : vM} {m : Nat → Int32} {N : Nat} {t : Int32} {S : FS} {fb : Nat → Nat} (hCQ : CQ V m N t S fb) (n ph : Nat) (d : Nat → Nat) (hD : DCc V n ph d) (c x what : Int32) : MM g jX9_dash V [.ref (g.2.1 0), .int c, .int x, .int what] (eI (fun z U => z = dsZ S fb n ph d c x what ∧ CQ U m N t S fb ∧ frK V U)) := by
  refine MM.of plX9_dash (Nat.le_of_ble_eq_true rfl) ?_
  obtain ⟨Q, hQ⟩ : ∃ Q : Option Value → vM → Prop, Q = (eI (fun z U => z = dsZ S fb n ph d c x what ∧ CQ U m N t S fb ∧ frK V U)) := ⟨_, rfl⟩
  rw [← hQ]
  show XX g jX9_dash Q V 0 [(0, .ref (g.2.1 0)), (1, .int c), (2, .int x), (3, .int what)] []
  obtain ⟨hC, hS, hG, h24, h15, hcn, hL⟩ := id hCQ
  have hP0 := hC.1
  have hV13 : V 1 3 = nI S.2.1 := by rw [hP0.2.1, hcn]
  have hN24 := hP0.2.2.1.1
  have hcl := cntM_le (kd7 m) N
  have hn6 := hD.2.1
  refine x_aload_n dX9_dash_0 0 rfl ?_
  refine x_iload_n dX9_dash_1 1 rfl ?_
  refine x_callV (K := jX9_isContour) [.int c] lk_X9_133 ⟨⟨rfl, rfl⟩, Nat.le_of_ble_eq_true rfl, Nat.le_of_ble_eq_true rfl⟩ rfl rfl (by have := mX9_isContour (g := g) V c; rw [hV13] at this; exact this) rfl (Nat.le_of_ble_eq_true rfl) rfl dX9_dash_2 (kpI ?_)
  refine x_if_ne 11 dX9_dash_5 (by decide) (fun c1 => ?_) (fun c1 => ?_)
  · have c1n : (0 ≤ c ∧ c < nI S.2.1) := Classical.not_not.mp (fun q => c1 (iB_0.mpr q))
    obtain ⟨k, hk0, hkS⟩ := nI_ex (c := c) (n := S.2.1) (by omega) (by assumption)
    refine YY.L (lv' := [(0, .ref (g.2.1 0)), (1, .int (nI k)), (2, .int x), (3, .int what)]) (by rw [hk0]) ?_
    have hkb := hG.bd (j := k + 1) (by omega)
    have hkl := (hG.2.2.2 k hkS).1
    refine x_iload_n dX9_dash_11 3 rfl ?_
    refine x_iconst (v := 0) dX9_dash_12 (by decide) ?_
    refine x_iconst (v := 1) dX9_dash_13 (by decide) ?_
    refine x_callS (K := jX9_between) [.int what, .int 0, .int 1] lk_X9_129 ⟨⟨rfl, rfl⟩, Nat.le_of_ble_eq_true rfl, Nat.le_of_ble_eq_true rfl⟩ (mX9_between V what 0 1) rfl (Nat.le_of_ble_eq_true rfl) rfl dX9_dash_14 (kpI ?_)
    refine x_if_ne 23 dX9_dash_17 (by decide) (fun c2 => ?_) (fun c2 => ?_)
    · have c2n : (0 ≤ what ∧ what ≤ 1) := Classical.not_not.mp (fun q => c2 (iB_0.mpr q))
      refine x_aload_n dX9_dash_23 0 rfl ?_
      refine x_getR fl_X9_46 rfl rfl dX9_dash_24 ?_
      refine x_getI fl_X9_230 rfl rfl dX9_dash_27 ?_
      refine x_topi (hD.1) ?_
      refine x_if_eq 45 dX9_dash_30 (by decide) (fun c3 => ?_) (fun c3 => ?_)
      · have c3n : n = 0 := (nl_eq (a := n) (b := 0) (rfl) (rfl) (by omega) (by omega)).mp c3
        refine x_ldc ct_X9_107 dX9_dash_45 ?_
        refine x_iret dX9_dash_47 rfl ?_
        rw [hQ]
        exact ⟨_, rfl, (dsZ_n (by rw [hk0]; exact nI_bt (by omega) hkS) (by assumption) (by omega)).symm, hCQ, frK.refl V⟩
      · have c3n : ¬ n = 0 := fun q => c3 ((nl_eq (a := n) (b := 0) (rfl) (rfl) (by omega) (by omega)).mpr q)
        refine x_aload_n dX9_dash_33 0 rfl ?_
        refine x_getR fl_X9_46 rfl rfl dX9_dash_34 ?_
        refine x_getI fl_X9_230 rfl rfl dX9_dash_37 ?_
        refine x_topi (hD.1) ?_
        refine x_iconst (v := 2) dX9_dash_40 (by decide) ?_
        have nz4 : ¬ (2 : Int32) = 0 := by decide
        refine x_irem dX9_dash_41 nz4 ?_
        refine x_topi (y := nI (n % 2)) (nI_mod (b := 2) (by omega) (by omega) (by omega)) ?_
        refine x_if_eq 48 dX9_dash_42 (by decide) (fun c5 => ?_) (fun c5 => ?_)
        · have c5n : n % 2 = 0 := (nl_eq (a := n % 2) (b := 0) (rfl) (rfl) (by omega) (by omega)).mp c5
          refine x_aload_n dX9_dash_48 0 rfl ?_
          refine x_getR fl_X9_46 rfl rfl dX9_dash_49 ?_
          refine x_aload_n dX9_dash_52 0 rfl ?_
          refine x_callV (K := jX9_flattened) [] lk_X9_118 ⟨⟨rfl, rfl⟩, Nat.le_of_ble_eq_true rfl, Nat.le_of_ble_eq_true rfl⟩ rfl rfl (mX9_flattened hC) rfl (Nat.le_of_ble_eq_true rfl) rfl dX9_dash_53 (keR fun U6 hU7 => ?_)
          have hCQ2 := hCQ.aft hU7
          have hFr := hU7.2.2
          have hF : FRC U6 S := by rw [← hS]; exact hU7.1
          have hPU := hCQ2.1.1
          have hU13 : U6 1 3 = nI (S.2.1) := by rw [hPU.2.1, hcn]
          refine x_iload_n dX9_dash_56 1 rfl ?_
          refine x_callV (K := jX1_lengthOf) [.int (nI k)] lk_X9_197 ⟨⟨rfl, rfl⟩, Nat.le_of_ble_eq_true rfl, Nat.le_of_ble_eq_true rfl⟩ rfl rfl (mX1_lengthOf hF hG h24 h15 k (by omega)) rfl (Nat.le_of_ble_eq_true rfl) rfl dX9_dash_57 (kpI ?_)
          refine x_callV (K := jX0_layAlong) [.int (S.2.2 2 (fb (k + 1) - 1))] lk_X9_237 ⟨⟨rfl, rfl⟩, Nat.le_of_ble_eq_true rfl, Nat.le_of_ble_eq_true rfl⟩ rfl rfl (mX0_layAlong U6 n ph d (hD.ag (fun a i q => hFr a i (by omega) (by omega) (by omega) (by omega) (by omega))) (by omega) (by omega) (S.2.2 2 (fb (k + 1) - 1)) (len_b hL h15 (by omega)).2) rfl (Nat.le_of_ble_eq_true rfl) rfl dX9_dash_60 (keI fun r10 U8 hU9 => ?_)
          obtain ⟨D, eD⟩ : ∃ D : List (Int × Int), D = dsA ph d n (S.2.2 2 (fb (k + 1) - 1)).toInt := ⟨_, rfl⟩
          rw [← eD] at hU9
          obtain ⟨hz, hDR, hf8⟩ := hU9
          refine x_topi (y := nI (min D.length 1001)) hz ?_
          have hCQ3 := hCQ2.ag (fun a i q => hf8 a i (by omega) (by omega) (by omega))
          have hFr3 := hFr.K.trans hf8.K
          have hzk : dsZ S fb n ph d c x what = dsR D x what := by rw [dsZ_k h24 hk0 hkS (by assumption) (by omega), eD]
          refine x_istore 4 [(4, .int (nI (min D.length 1001))), (0, .ref (g.2.1 0)), (1, .int (nI k)), (2, .int x), (3, .int what)] dX9_dash_63 (by decide) rfl ?_
          refine x_iload dX9_dash_65 0 rfl ?_
          refine x_sipush (v := 1000) dX9_dash_67 (by decide) ?_
          refine x_icmp_le 76 dX9_dash_70 (by decide) (fun c11 => ?_) (fun c11 => ?_)
          · have c11n : min D.length 1001 ≤ 1000 := (nl_le (a := min D.length 1001) (b := 1000) (rfl) (rfl) (by omega) (by omega)).mp c11
            refine x_iload_n dX9_dash_76 3 rfl ?_
            refine x_iconst (v := -1) dX9_dash_77 (by decide) ?_
            refine x_icmp_ne 84 dX9_dash_78 (by decide) (fun c12 => ?_) (fun c12 => ?_)
            · refine x_iload_n dX9_dash_84 4 rfl ?_
              refine x_if_ne 99 dX9_dash_85 (by decide) (fun c13 => ?_) (fun c13 => ?_)
              · refine x_aload_n dX9_dash_99 1 rfl ?_
                refine x_getR fl_X9_46 rfl rfl dX9_dash_100 ?_
                refine x_iload_n dX9_dash_103 3 rfl ?_
                refine x_callV (K := jX0_endOf) [.int x] lk_X9_243 ⟨⟨rfl, rfl⟩, Nat.le_of_ble_eq_true rfl, Nat.le_of_ble_eq_true rfl⟩ rfl rfl (mX0_endOf U8 x) rfl (Nat.le_of_ble_eq_true rfl) rfl dX9_dash_104 (kpI ?_)
                refine x_iret dX9_dash_107 rfl ?_
                rw [hQ]
                have hda := ds_ans (what := what) hDR (by omega) (show ¬ x = -1 by assumption)
                first
                  | exact ⟨_, rfl, by rw [hzk]; exact hda.1 (by assumption), hCQ3, hFr3⟩
                  | exact ⟨_, rfl, by rw [hzk]; exact hda.2 (by assumption), hCQ3, hFr3⟩
              · refine x_aload_n dX9_dash_88 1 rfl ?_
                refine x_getR fl_X9_46 rfl rfl dX9_dash_89 ?_
                refine x_iload_n dX9_dash_92 3 rfl ?_
                refine x_callV (K := jX0_beginOf) [.int x] lk_X9_240 ⟨⟨rfl, rfl⟩, Nat.le_of_ble_eq_true rfl, Nat.le_of_ble_eq_true rfl⟩ rfl rfl (mX0_beginOf U8 x) rfl (Nat.le_of_ble_eq_true rfl) rfl dX9_dash_93 (kpI ?_)
                refine x_goto 107 dX9_dash_96 (by decide) ?_
                refine x_iret dX9_dash_107 rfl ?_
                rw [hQ]
                have hda := ds_ans (what := what) hDR (by omega) (show ¬ x = -1 by assumption)
                first
                  | exact ⟨_, rfl, by rw [hzk]; exact hda.1 (by assumption), hCQ3, hFr3⟩
                  | exact ⟨_, rfl, by rw [hzk]; exact hda.2 (by assumption), hCQ3, hFr3⟩
            · refine x_iload dX9_dash_81 0 rfl ?_
              refine x_iret dX9_dash_83 rfl ?_
              rw [hQ]
              exact ⟨_, rfl, by rw [hzk, dsR_1 (by omega) (by assumption)]; congr 1; omega, hCQ3, hFr3⟩
          · have c11n : 1000 < min D.length 1001 := Nat.not_le.mp (fun q => c11 ((nl_le (a := min D.length 1001) (b := 1000) (rfl) (rfl) (by omega) (by omega)).mpr q))
            refine x_ldc ct_X9_156 dX9_dash_73 ?_
            refine x_iret dX9_dash_75 rfl ?_
            rw [hQ]
            exact ⟨_, rfl, by rw [hzk, dsR_m (by omega)], hCQ3, hFr3⟩
        · have c5n : ¬ n % 2 = 0 := fun q => c5 ((nl_eq (a := n % 2) (b := 0) (rfl) (rfl) (by omega) (by omega)).mpr q)
          refine x_ldc ct_X9_107 dX9_dash_45 ?_
          refine x_iret dX9_dash_47 rfl ?_
          rw [hQ]
          exact ⟨_, rfl, (dsZ_n (by rw [hk0]; exact nI_bt (by omega) hkS) (by assumption) (by omega)).symm, hCQ, frK.refl V⟩
    · have c2n : ¬ (0 ≤ what ∧ what ≤ 1) := iB_0.mp c2
      refine x_ldc ct_X9_83 dX9_dash_20 ?_
      refine x_iret dX9_dash_22 rfl ?_
      rw [hQ]
      exact ⟨_, rfl, (dsZ_w (by rw [hk0]; exact nI_bt (by omega) hkS) (by assumption)).symm, hCQ, frK.refl V⟩
  · have c1n : ¬ (0 ≤ c ∧ c < nI S.2.1) := iB_0.mp c1
    refine x_ldc ct_X9_111 dX9_dash_8 ?_
    refine x_iret dX9_dash_10 rfl ?_
    rw [hQ]
    exact ⟨_, rfl, (dsZ_no (by assumption)).symm, hCQ, frK.refl V⟩
set_option maxHeartbeats 1000000 in
set_option maxRecDepth 100000 in
theorem mX10_dash {g : gX} {V : vM} {m : Nat → Int32} {N : Nat} {t : Int32} {S : FS} {fb : Nat → Nat} (hMQ : MZ V m N t S fb) (n ph : Nat) (d : Nat → Nat) (hD : DCm V n ph d) (c x what : Int32) : MM g jX10_dash V [.ref (g.2.1 49), .int c, .int x, .int what] (eI (fun z U => z = dsZ S fb n ph d c x what ∧ MZ U m N t S fb ∧ frN V U)) := by
  refine MM.of plX10_dash (Nat.le_of_ble_eq_true rfl) ?_
  obtain ⟨Q, hQ⟩ : ∃ Q : Option Value → vM → Prop, Q = (eI (fun z U => z = dsZ S fb n ph d c x what ∧ MZ U m N t S fb ∧ frN V U)) := ⟨_, rfl⟩
  rw [← hQ]
  show XX g jX10_dash Q V 0 [(0, .ref (g.2.1 49)), (1, .int c), (2, .int x), (3, .int what)] []
  obtain ⟨hw, hm50, hN8, ht9, hS, hG, h24, h15, hcn, hL⟩ := id hMQ
  have hN24 := hw.1
  have hcl := cntM_le (kd7 m) N
  have hn6 := hD.2.1
  refine x_aload_n dX10_dash_0 0 rfl ?_
  refine x_iload_n dX10_dash_1 1 rfl ?_
  refine x_callV (K := jX10_isContour) [.int c] lk_X10_123 ⟨⟨rfl, rfl⟩, Nat.le_of_ble_eq_true rfl, Nat.le_of_ble_eq_true rfl⟩ rfl rfl (by have := mX10_isContour (g := g) V N hw.1 (by rw [hm50]; exact hN8) (by rw [hm50]; exact hw) c; rw [hm50, ← hcn] at this; exact this) rfl (Nat.le_of_ble_eq_true rfl) rfl dX10_dash_2 (kpI ?_)
  refine x_if_ne 11 dX10_dash_5 (by decide) (fun c1 => ?_) (fun c1 => ?_)
  · have c1n : (0 ≤ c ∧ c < nI S.2.1) := Classical.not_not.mp (fun q => c1 (iB_0.mpr q))
    obtain ⟨k, hk0, hkS⟩ := nI_ex (c := c) (n := S.2.1) (by omega) (by assumption)
    refine YY.L (lv' := [(0, .ref (g.2.1 49)), (1, .int (nI k)), (2, .int x), (3, .int what)]) (by rw [hk0]) ?_
    have hkb := hG.bd (j := k + 1) (by omega)
    have hkl := (hG.2.2.2 k hkS).1
    refine x_iload_n dX10_dash_11 3 rfl ?_
    refine x_iconst (v := 0) dX10_dash_12 (by decide) ?_
    refine x_iconst (v := 1) dX10_dash_13 (by decide) ?_
    refine x_callS (K := jX10_in) [.int what, .int 0, .int 1] lk_X10_80 ⟨⟨rfl, rfl⟩, Nat.le_of_ble_eq_true rfl, Nat.le_of_ble_eq_true rfl⟩ (mX10_in V what 0 1) rfl (Nat.le_of_ble_eq_true rfl) rfl dX10_dash_14 (kpI ?_)
    refine x_if_ne 23 dX10_dash_17 (by decide) (fun c2 => ?_) (fun c2 => ?_)
    · have c2n : (0 ≤ what ∧ what ≤ 1) := Classical.not_not.mp (fun q => c2 (iB_0.mpr q))
      refine x_aload_n dX10_dash_23 0 rfl ?_
      refine x_getI fl_X10_278 rfl rfl dX10_dash_24 ?_
      refine x_topi (hD.1) ?_
      refine x_if_eq 40 dX10_dash_27 (by decide) (fun c3 => ?_) (fun c3 => ?_)
      · have c3n : n = 0 := (nl_eq (a := n) (b := 0) (rfl) (rfl) (by omega) (by omega)).mp c3
        refine x_ldc ct_X10_97 dX10_dash_40 ?_
        refine x_iret dX10_dash_42 rfl ?_
        rw [hQ]
        exact ⟨_, rfl, (dsZ_n (by rw [hk0]; exact nI_bt (by omega) hkS) (by assumption) (by omega)).symm, hMQ, frN.refl V⟩
      · have c3n : ¬ n = 0 := fun q => c3 ((nl_eq (a := n) (b := 0) (rfl) (rfl) (by omega) (by omega)).mpr q)
        refine x_aload_n dX10_dash_30 0 rfl ?_
        refine x_getI fl_X10_278 rfl rfl dX10_dash_31 ?_
        refine x_topi (hD.1) ?_
        refine x_iconst (v := 2) dX10_dash_34 (by decide) ?_
        have nz4 : ¬ (2 : Int32) = 0 := by decide
        refine x_irem dX10_dash_35 nz4 ?_
        refine x_iconst (v := 1) dX10_dash_36 (by decide) ?_
        refine YY.S (st' := [.int 1, .int (nI (n % 2))]) (by rw [show (2 : Int32) = nI 2 from rfl, nI_mod (by omega) (by omega) (by omega)]) ?_
        refine x_icmp_ne 43 dX10_dash_37 (by decide) (fun c5 => ?_) (fun c5 => ?_)
        · have c5n : ¬ n % 2 = 1 := fun q => c5 ((nl_eq (a := n % 2) (b := 1) (rfl) (rfl) (by omega) (by omega)).mpr q)
          refine x_aload_n dX10_dash_43 0 rfl ?_
          refine x_callV (K := jX10_flatten) [] lk_X10_111 ⟨⟨rfl, rfl⟩, Nat.le_of_ble_eq_true rfl, Nat.le_of_ble_eq_true rfl⟩ rfl rfl (mX10_flatten V hw hm50 hN8 t ht9) rfl (Nat.le_of_ble_eq_true rfl) rfl dX10_dash_44 (keV fun U6 hU7 => ?_)
          have hMQ2 := hMQ.aft hU7
          have hFr := hU7.2.2
          have hF : FRM U6 S N := by rw [← hS]; exact hU7.1
          have hE : U6 65 S.2.1 = nI S.1 := by rw [← hS]; exact hU7.2.1
          have hmU := hMQ2.2.1
          refine x_aload_n dX10_dash_47 0 rfl ?_
          refine x_aload_n dX10_dash_48 0 rfl ?_
          refine x_iload_n dX10_dash_49 1 rfl ?_
          refine x_callV (K := jX10_lengthOfContour) [.int (nI k)] lk_X10_248 ⟨⟨rfl, rfl⟩, Nat.le_of_ble_eq_true rfl, Nat.le_of_ble_eq_true rfl⟩ rfl rfl (mX10_lengthOfContour hF hE hG h24 h15 k (by omega)) rfl (Nat.le_of_ble_eq_true rfl) rfl dX10_dash_50 (kpI ?_)
          refine x_callV (K := jX10_layDashes) [.int (S.2.2 2 (fb (k + 1) - 1))] lk_X10_284 ⟨⟨rfl, rfl⟩, Nat.le_of_ble_eq_true rfl, Nat.le_of_ble_eq_true rfl⟩ rfl rfl (mX10_layDashes U6 n ph d (hD.ag hFr.N) (by omega) (S.2.2 2 (fb (k + 1) - 1)) (len_b hL h15 (by omega)).2) rfl (Nat.le_of_ble_eq_true rfl) rfl dX10_dash_53 (keI fun r10 U8 hU9 => ?_)
          obtain ⟨D, eD⟩ : ∃ D : List (Int × Int), D = dsA ph d n (S.2.2 2 (fb (k + 1) - 1)).toInt := ⟨_, rfl⟩
          rw [← eD] at hU9
          obtain ⟨⟨D2, hz, he, h1001⟩, hDM, hf70⟩ := hU9
          refine x_topi (y := nI (min D.length 1001)) (by rw [hz, ds_lens he h1001]) ?_
          have hMQ3 := hMQ2.ag (fun i => hf70 50 i (by decide))
          have hFr3 := hFr.N.trans hf70.N
          have hzk : dsZ S fb n ph d c x what = dsR D x what := by rw [dsZ_k h24 hk0 hkS (by assumption) (by omega), eD]
          refine x_istore 4 [(4, .int (nI (min D.length 1001))), (0, .ref (g.2.1 49)), (1, .int (nI k)), (2, .int x), (3, .int what)] dX10_dash_56 (by decide) rfl ?_
          refine x_iload dX10_dash_58 0 rfl ?_
          refine x_sipush (v := 1000) dX10_dash_60 (by decide) ?_
          refine x_icmp_le 69 dX10_dash_63 (by decide) (fun c11 => ?_) (fun c11 => ?_)
          · have c11n : min D.length 1001 ≤ 1000 := (nl_le (a := min D.length 1001) (b := 1000) (rfl) (rfl) (by omega) (by omega)).mp c11
            refine x_iload_n dX10_dash_69 3 rfl ?_
            refine x_iconst (v := -1) dX10_dash_70 (by decide) ?_
            refine x_icmp_ne 79 dX10_dash_71 (by decide) (fun c12 => ?_) (fun c12 => ?_)
            · refine x_iload_n dX10_dash_79 3 rfl ?_
              refine x_iconst (v := 0) dX10_dash_80 (by decide) ?_
              refine x_iload dX10_dash_81 0 rfl ?_
              refine x_iconst (v := 1) dX10_dash_83 (by decide) ?_
              refine x_isub dX10_dash_84 ?_
              refine x_callS (K := jX10_in) [.int x, .int 0, .int ((nI (min D.length 1001)) - 1)] lk_X10_80 ⟨⟨rfl, rfl⟩, Nat.le_of_ble_eq_true rfl, Nat.le_of_ble_eq_true rfl⟩ (mX10_in U8 x 0 ((nI (min D.length 1001)) - 1)) rfl (Nat.le_of_ble_eq_true rfl) rfl dX10_dash_85 (kpI ?_)
              refine x_if_eq 104 dX10_dash_88 (by decide) (fun c13 => ?_) (fun c13 => ?_)
              · have c13n : ¬ (0 ≤ x ∧ x ≤ ((nI (min D.length 1001)) - 1)) := iB_0.mp c13
                refine x_ldc ct_X10_103 dX10_dash_104 ?_
                refine x_iret dX10_dash_106 rfl ?_
                rw [hQ]
                first
                  | exact ⟨_, rfl, by rw [hzk, dsR_1 (by omega) (by assumption)]; congr 1; omega, hMQ3, hFr3⟩
                  | exact ⟨_, rfl, by rw [hzk]; exact ds_mans hDM (by omega) hw0 hwS hu0 huS, hMQ3, hFr3⟩
                  | exact ⟨_, rfl, by rw [hzk, dsR_o (by omega) (by assumption) (fun q => absurd ((bt_pred (by omega)).mpr q) (by rw [show min D.length 1001 = D.length by omega] at *; assumption))], hMQ3, hFr3⟩
              · have c13n : (0 ≤ x ∧ x ≤ ((nI (min D.length 1001)) - 1)) := Classical.not_not.mp (fun q => c13 (iB_0.mpr q))
                obtain ⟨w, hw0, hwS⟩ := nI_ex (c := x) (n := min D.length 1001) (by omega) ((bt_pred (by omega)).mp (by assumption))
                refine YY.L (lv' := [(4, .int (nI (min D.length 1001))), (0, .ref (g.2.1 49)), (1, .int (nI k)), (2, .int (nI w)), (3, .int what)]) (by rw [hw0]) ?_
                obtain ⟨u, hu0, huS⟩ := nI_ex (c := what) (n := 2) (by omega) (⟨(show 0 ≤ what ∧ what ≤ 1 by assumption).1, nI_le_lt (by omega) (by omega) (show what ≤ nI 1 from (show 0 ≤ what ∧ what ≤ 1 by assumption).2)⟩)
                refine YY.L (lv' := [(4, .int (nI (min D.length 1001))), (0, .ref (g.2.1 49)), (1, .int (nI k)), (2, .int (nI w)), (3, .int (nI u))]) (by rw [hu0]) ?_
                refine x_aload_n dX10_dash_91 1 rfl ?_
                refine x_getR fl_X10_71 rfl rfl dX10_dash_92 ?_
                refine x_iconst (v := 2) dX10_dash_95 (by decide) ?_
                refine x_iload_n dX10_dash_96 3 rfl ?_
                refine x_imul dX10_dash_97 ?_
                refine x_iload_n dX10_dash_98 4 rfl ?_
                refine x_iadd dX10_dash_99 ?_
                have q14 : ((2 * (nI w)) + (nI u) : Int32) = nI ((2 * w) + u) := nadd (nmul (rfl) (rfl)) (rfl)
                refine YY.S (st' := [.int (nI ((2 * w) + u)), .ref (g.2.1 70)]) (by rw [q14]) ?_
                have b15 : vp_in (nI ((2 * w) + u)) 2000 := by exact vp_in_nI (by omega) (by decide)
                refine x_iald rfl b15 dX10_dash_100 ?_
                refine x_topi (y := U8 70 ((2 * w) + u)) (by rw [nI_clamp (by omega)]) ?_
                refine x_goto 106 dX10_dash_101 (by decide) ?_
                refine x_iret dX10_dash_106 rfl ?_
                rw [hQ]
                first
                  | exact ⟨_, rfl, by rw [hzk, dsR_1 (by omega) (by assumption)]; congr 1; omega, hMQ3, hFr3⟩
                  | exact ⟨_, rfl, by rw [hzk]; exact ds_mans hDM (by omega) hw0 hwS hu0 huS, hMQ3, hFr3⟩
                  | exact ⟨_, rfl, by rw [hzk, dsR_o (by omega) (by assumption) (fun q => absurd ((bt_pred (by omega)).mpr q) (by rw [show min D.length 1001 = D.length by omega] at *; assumption))], hMQ3, hFr3⟩
            · refine x_iload dX10_dash_74 0 rfl ?_
              refine x_goto 106 dX10_dash_76 (by decide) ?_
              refine x_iret dX10_dash_106 rfl ?_
              rw [hQ]
              first
                | exact ⟨_, rfl, by rw [hzk, dsR_1 (by omega) (by assumption)]; congr 1; omega, hMQ3, hFr3⟩
                | exact ⟨_, rfl, by rw [hzk]; exact ds_mans hDM (by omega) hw0 hwS hu0 huS, hMQ3, hFr3⟩
                | exact ⟨_, rfl, by rw [hzk, dsR_o (by omega) (by assumption) (fun q => absurd ((bt_pred (by omega)).mpr q) (by rw [show min D.length 1001 = D.length by omega] at *; assumption))], hMQ3, hFr3⟩
          · have c11n : 1000 < min D.length 1001 := Nat.not_le.mp (fun q => c11 ((nl_le (a := min D.length 1001) (b := 1000) (rfl) (rfl) (by omega) (by omega)).mpr q))
            refine x_ldc ct_X10_98 dX10_dash_66 ?_
            refine x_iret dX10_dash_68 rfl ?_
            rw [hQ]
            exact ⟨_, rfl, by rw [hzk, dsR_m (by omega)], hMQ3, hFr3⟩
        · have c5n : n % 2 = 1 := (nl_eq (a := n % 2) (b := 1) (rfl) (rfl) (by omega) (by omega)).mp c5
          refine x_ldc ct_X10_97 dX10_dash_40 ?_
          refine x_iret dX10_dash_42 rfl ?_
          rw [hQ]
          exact ⟨_, rfl, (dsZ_n (by rw [hk0]; exact nI_bt (by omega) hkS) (by assumption) (by omega)).symm, hMQ, frN.refl V⟩
    · have c2n : ¬ (0 ≤ what ∧ what ≤ 1) := iB_0.mp c2
      refine x_ldc ct_X10_88 dX10_dash_20 ?_
      refine x_iret dX10_dash_22 rfl ?_
      rw [hQ]
      exact ⟨_, rfl, (dsZ_w (by rw [hk0]; exact nI_bt (by omega) hkS) (by assumption)).symm, hMQ, frN.refl V⟩
  · have c1n : ¬ (0 ≤ c ∧ c < nI S.2.1) := iB_0.mp c1
    refine x_ldc ct_X10_107 dX10_dash_8 ?_
    refine x_iret dX10_dash_10 rfl ?_
    rw [hQ]
    exact ⟨_, rfl, (dsZ_no (by assumption)).symm, hMQ, frN.refl V⟩
