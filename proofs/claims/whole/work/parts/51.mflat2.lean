theorem mX10_addVertexS {g : gX} {V : vM} {S : FS} {kc : Nat} (hF : FRM V S kc) (hS : SOK S) (hB : SB S) (h17 : S.1 < 1700) (c : Nat) (hc : c < 24) {x y : Int32} (hx : inR x) (hy : inR y) : MM g jX10_addVertex V [.ref (g.2.1 49), .int (nI c), .int x, .int y] (dV (mavV V S c x y)) := by
  obtain ⟨⟨b, hb1, hb2⟩, -⟩ := hB
  have h1 := hS.1
  have h2 := hS.2.1
  have hl := hS.2.2.2 (S.1 - 1) (by omega)
  have e := hF.2.2.1 (S.1 - 1) (by omega)
  have := mX10_addVertex (g := g) V hF.1 hF.2.1 h2 hS.2.2.1 (b := b) (by rw [hF.2.2.2.1 _ (by omega)]; exact hb1) (by omega) h17 c hc x y (fun _ => ⟨by rw [e.1]; exact natAbs_r hx hl.1, by rw [e.2.1]; exact natAbs_r hy hl.2⟩)
  rw [if_pos hb2] at this
  exact this
theorem okL_len : ∀ {st : STK}, okL st → st.length ≤ 7
  | [], _ => by simp
  | (h, p) :: r, ho => by
    obtain ⟨o1, o2, -⟩ := ho
    show r.length + 1 ≤ 7
    omega
set_option maxHeartbeats 8000000 in
set_option maxRecDepth 100000 in
theorem mX10_flattenQuad {g : gX} (V : vM) (c : Nat) (hc : c < 24) (t : Int32) (ht : V 50 169 = t) {B : Nat} (hBB : B ≤ 1600) {R S0 : FS} {p0 : Nat → Int32} (H0 : AM 2 t c B R V V [(0, p0)] S0) : MM g jX10_flattenQuad V [.ref (g.2.1 49), .int (nI c)] (eV (fun U => FRM U R (c + 1) ∧ SOK R ∧ SB R ∧ R.1 ≤ B ∧ frM V U)) := by
  refine MM.of plX10_flattenQuad (Nat.le_of_ble_eq_true rfl) ?_
  obtain ⟨Q, hQ⟩ : ∃ Q : Option Value → vM → Prop, Q = (eV (fun U => FRM U R (c + 1) ∧ SOK R ∧ SB R ∧ R.1 ≤ B ∧ frM V U)) := ⟨_, rfl⟩
  rw [← hQ]
  show XX g jX10_flattenQuad Q V 0 [(0, .ref (g.2.1 49)), (1, .int (nI c))] []
  refine x_aload_n dX10_flattenQuad_0 0 rfl ?_
  refine x_getR fl_X10_9 rfl rfl dX10_flattenQuad_1 ?_
  refine x_sipush (v := 169) dX10_flattenQuad_4 (by decide) ?_
  have q1 : (169 : Int32) = nI 169 := rfl
  refine YY.S (st' := [.int (nI 169), .ref (g.2.1 50)]) (by rw [q1]) ?_
  have b2 : vp_in (nI 169) 170 := by exact vp_in_nI (by omega) (by decide)
  refine x_iald rfl b2 dX10_flattenQuad_7 ?_
  refine x_topi (y := V 50 169) (by rw [nI_clamp (by omega)]) ?_
  refine x_topi (ht) ?_
  refine x_istore_n 2 [(2, .int t), (0, .ref (g.2.1 49)), (1, .int (nI c))] dX10_flattenQuad_8 rfl (by decide) rfl ?_
  have lp3 : ∀ (fu : Nat) (stk : STK) (S : FS) (U : vM), (AM 2 t c B R V U stk S) → (snd7 stk) < fu → XX g jX10_flattenQuad Q U 9 [(2, .int t), (0, .ref (g.2.1 49)), (1, .int (nI c))] [] := by
    intro fu
    induction fu with
    | zero => intro _ _ _ _ hmz; exact absurd hmz (Nat.not_lt_zero _)
    | succ fu ih =>
      intro stk S U hAM hmz
      have hlen : stk.length ≤ 7 := okL_len hAM.2.2.1
      refine x_aload_n dX10_flattenQuad_9 1 rfl ?_
      refine x_getI fl_X10_220 rfl rfl dX10_flattenQuad_10 ?_
      refine x_topi (hAM.1) ?_
      refine x_if_le 248 dX10_flattenQuad_13 (by decide) (fun c4 => ?_) (fun c4 => ?_)
      · have c4n : stk.length ≤ 0 := (nl_le (a := stk.length) (b := 0) (rfl) (rfl) (by omega) (by omega)).mp c4
        refine x_vret dX10_flattenQuad_248 rfl ?_
        rw [hQ]
        refine ⟨rfl, ?_⟩
        have hnil : stk = [] := by
          cases stk with
          | nil => rfl
          | cons q r => exfalso; have := hAM.2.2.1; simp_all
        subst hnil
        obtain ⟨-, -, -, -, q5, q6, q7, q8, q9, q10⟩ := hAM
        have q8 : S = R := q8
        rw [← q8]
        exact ⟨q5, q6, q7, by simpa [slv] using q9, q10⟩
      · have c4n : 0 < stk.length := Nat.not_le.mp (fun q => c4 ((nl_le (a := stk.length) (b := 0) (rfl) (rfl) (by omega) (by omega)).mpr q))
        obtain ⟨h, p, r, rfl⟩ : ∃ h p r, stk = (h, p) :: r := by
          cases stk with
          | nil => exfalso; have := hAM.1; simp_all
          | cons q r => exact ⟨q.1, q.2, r, rfl⟩
        obtain ⟨hp38, ⟨s1, s2, s3⟩, ⟨o1, o2, o3⟩, ⟨g1, g2⟩, -⟩ := id hAM
        have hp38 : U 49 38 = nI (r.length + 1) := hp38
        refine x_aload_n dX10_flattenQuad_16 1 rfl ?_
        refine x_dup dX10_flattenQuad_17 rfl ?_
        refine x_getI fl_X10_220 rfl rfl dX10_flattenQuad_18 ?_
        refine x_topi (hp38) ?_
        refine x_iconst (v := 1) dX10_flattenQuad_21 (by decide) ?_
        refine x_isub dX10_flattenQuad_22 ?_
        refine x_topi (y := nI r.length) (nI_pred _) ?_
        refine x_putI fp_X10_220 rfl rfl dX10_flattenQuad_23 ?_
        obtain ⟨U5, eU5⟩ : ∃ v_v : vM, v_v = uM U 49 38 (nI r.length) := ⟨_, rfl⟩
        refine YY.V eU5.symm ?_
        refine x_bipush (v := 8) dX10_flattenQuad_26 (by decide) ?_
        refine x_aload_n dX10_flattenQuad_28 1 rfl ?_
        refine x_getI fl_X10_220 rfl rfl dX10_flattenQuad_29 ?_
        refine x_topi (y := nI r.length) (by rw [eU5, uM_hit]) ?_
        refine x_imul dX10_flattenQuad_32 ?_
        refine x_istore_n 3 [(3, .int (8 * (nI r.length))), (2, .int t), (0, .ref (g.2.1 49)), (1, .int (nI c))] dX10_flattenQuad_33 rfl (by decide) rfl ?_
        refine x_aload_n dX10_flattenQuad_34 2 rfl ?_
        refine x_getR fl_X10_65 rfl rfl dX10_flattenQuad_35 ?_
        refine x_aload_n dX10_flattenQuad_38 2 rfl ?_
        refine x_getI fl_X10_220 rfl rfl dX10_flattenQuad_39 ?_
        refine x_topi (y := nI r.length) (by rw [eU5, uM_hit]) ?_
        have b6 : vp_in (nI r.length) 10 := by exact vp_in_nI (by omega) (by decide)
        refine x_iald rfl b6 dX10_flattenQuad_42 ?_
        refine x_topi (y := U5 68 r.length) (by rw [nI_clamp (by omega)]) ?_
        refine x_topi (y := U 68 r.length) (by rw [eU5, uM_na (by decide)]) ?_
        refine x_topi (s1) ?_
        refine x_istore 4 [(4, .int (nI h)), (3, .int (8 * (nI r.length))), (2, .int t), (0, .ref (g.2.1 49)), (1, .int (nI c))] dX10_flattenQuad_43 (by decide) rfl ?_
        refine x_aload_n dX10_flattenQuad_45 3 rfl ?_
        refine x_getR fl_X10_62 rfl rfl dX10_flattenQuad_46 ?_
        refine x_iload_n dX10_flattenQuad_49 1 rfl ?_
        have q7 : (8 * (nI r.length) : Int32) = nI (8 * r.length) := nmul (rfl) (rfl)
        refine YY.S (st' := [.int (nI (8 * r.length)), .ref (g.2.1 67)]) (by rw [q7]) ?_
        have b8 : vp_in (nI (8 * r.length)) 80 := by exact vp_in_nI (by omega) (by decide)
        refine x_iald rfl b8 dX10_flattenQuad_50 ?_
        refine x_topi (y := U5 67 (8 * r.length)) (by rw [nI_clamp (by omega)]) ?_
        refine x_topi (y := U 67 (8 * r.length)) (by rw [eU5, uM_na (by decide)]) ?_
        refine x_istore 5 [(5, .int (U 67 (8 * r.length))), (4, .int (nI h)), (3, .int (8 * (nI r.length))), (2, .int t), (0, .ref (g.2.1 49)), (1, .int (nI c))] dX10_flattenQuad_51 (by decide) rfl ?_
        refine x_aload_n dX10_flattenQuad_53 4 rfl ?_
        refine x_getR fl_X10_62 rfl rfl dX10_flattenQuad_54 ?_
        refine x_iload_n dX10_flattenQuad_57 2 rfl ?_
        refine x_iconst (v := 1) dX10_flattenQuad_58 (by decide) ?_
        refine x_iadd dX10_flattenQuad_59 ?_
        have q9 : ((8 * (nI r.length)) + 1 : Int32) = nI ((8 * r.length) + 1) := nadd (nmul (rfl) (rfl)) (rfl)
        refine YY.S (st' := [.int (nI ((8 * r.length) + 1)), .ref (g.2.1 67)]) (by rw [q9]) ?_
        have b10 : vp_in (nI ((8 * r.length) + 1)) 80 := by exact vp_in_nI (by omega) (by decide)
        refine x_iald rfl b10 dX10_flattenQuad_60 ?_
        refine x_topi (y := U5 67 ((8 * r.length) + 1)) (by rw [nI_clamp (by omega)]) ?_
        refine x_topi (y := U 67 ((8 * r.length) + 1)) (by rw [eU5, uM_na (by decide)]) ?_
        refine x_istore 6 [(6, .int (U 67 ((8 * r.length) + 1))), (5, .int (U 67 (8 * r.length))), (4, .int (nI h)), (3, .int (8 * (nI r.length))), (2, .int t), (0, .ref (g.2.1 49)), (1, .int (nI c))] dX10_flattenQuad_61 (by decide) rfl ?_
        refine x_aload_n dX10_flattenQuad_63 5 rfl ?_
        refine x_getR fl_X10_62 rfl rfl dX10_flattenQuad_64 ?_
        refine x_iload_n dX10_flattenQuad_67 3 rfl ?_
        refine x_iconst (v := 2) dX10_flattenQuad_68 (by decide) ?_
        refine x_iadd dX10_flattenQuad_69 ?_
        have q11 : ((8 * (nI r.length)) + 2 : Int32) = nI ((8 * r.length) + 2) := nadd (nmul (rfl) (rfl)) (rfl)
        refine YY.S (st' := [.int (nI ((8 * r.length) + 2)), .ref (g.2.1 67)]) (by rw [q11]) ?_
        have b12 : vp_in (nI ((8 * r.length) + 2)) 80 := by exact vp_in_nI (by omega) (by decide)
        refine x_iald rfl b12 dX10_flattenQuad_70 ?_
        refine x_topi (y := U5 67 ((8 * r.length) + 2)) (by rw [nI_clamp (by omega)]) ?_
        refine x_topi (y := U 67 ((8 * r.length) + 2)) (by rw [eU5, uM_na (by decide)]) ?_
        refine x_istore 7 [(7, .int (U 67 ((8 * r.length) + 2))), (6, .int (U 67 ((8 * r.length) + 1))), (5, .int (U 67 (8 * r.length))), (4, .int (nI h)), (3, .int (8 * (nI r.length))), (2, .int t), (0, .ref (g.2.1 49)), (1, .int (nI c))] dX10_flattenQuad_71 (by decide) rfl ?_
        refine x_aload_n dX10_flattenQuad_73 6 rfl ?_
        refine x_getR fl_X10_62 rfl rfl dX10_flattenQuad_74 ?_
        refine x_iload_n dX10_flattenQuad_77 4 rfl ?_
        refine x_iconst (v := 3) dX10_flattenQuad_78 (by decide) ?_
        refine x_iadd dX10_flattenQuad_79 ?_
        have q13 : ((8 * (nI r.length)) + 3 : Int32) = nI ((8 * r.length) + 3) := nadd (nmul (rfl) (rfl)) (rfl)
        refine YY.S (st' := [.int (nI ((8 * r.length) + 3)), .ref (g.2.1 67)]) (by rw [q13]) ?_
        have b14 : vp_in (nI ((8 * r.length) + 3)) 80 := by exact vp_in_nI (by omega) (by decide)
        refine x_iald rfl b14 dX10_flattenQuad_80 ?_
        refine x_topi (y := U5 67 ((8 * r.length) + 3)) (by rw [nI_clamp (by omega)]) ?_
        refine x_topi (y := U 67 ((8 * r.length) + 3)) (by rw [eU5, uM_na (by decide)]) ?_
        refine x_istore 8 [(8, .int (U 67 ((8 * r.length) + 3))), (7, .int (U 67 ((8 * r.length) + 2))), (6, .int (U 67 ((8 * r.length) + 1))), (5, .int (U 67 (8 * r.length))), (4, .int (nI h)), (3, .int (8 * (nI r.length))), (2, .int t), (0, .ref (g.2.1 49)), (1, .int (nI c))] dX10_flattenQuad_81 (by decide) rfl ?_
        refine x_aload_n dX10_flattenQuad_83 7 rfl ?_
        refine x_getR fl_X10_62 rfl rfl dX10_flattenQuad_84 ?_
        refine x_iload_n dX10_flattenQuad_87 5 rfl ?_
        refine x_iconst (v := 4) dX10_flattenQuad_88 (by decide) ?_
        refine x_iadd dX10_flattenQuad_89 ?_
        have q15 : ((8 * (nI r.length)) + 4 : Int32) = nI ((8 * r.length) + 4) := nadd (nmul (rfl) (rfl)) (rfl)
        refine YY.S (st' := [.int (nI ((8 * r.length) + 4)), .ref (g.2.1 67)]) (by rw [q15]) ?_
        have b16 : vp_in (nI ((8 * r.length) + 4)) 80 := by exact vp_in_nI (by omega) (by decide)
        refine x_iald rfl b16 dX10_flattenQuad_90 ?_
        refine x_topi (y := U5 67 ((8 * r.length) + 4)) (by rw [nI_clamp (by omega)]) ?_
        refine x_topi (y := U 67 ((8 * r.length) + 4)) (by rw [eU5, uM_na (by decide)]) ?_
        refine x_istore 9 [(9, .int (U 67 ((8 * r.length) + 4))), (8, .int (U 67 ((8 * r.length) + 3))), (7, .int (U 67 ((8 * r.length) + 2))), (6, .int (U 67 ((8 * r.length) + 1))), (5, .int (U 67 (8 * r.length))), (4, .int (nI h)), (3, .int (8 * (nI r.length))), (2, .int t), (0, .ref (g.2.1 49)), (1, .int (nI c))] dX10_flattenQuad_91 (by decide) rfl ?_
        refine x_aload_n dX10_flattenQuad_93 8 rfl ?_
        refine x_getR fl_X10_62 rfl rfl dX10_flattenQuad_94 ?_
        refine x_iload_n dX10_flattenQuad_97 6 rfl ?_
        refine x_iconst (v := 5) dX10_flattenQuad_98 (by decide) ?_
        refine x_iadd dX10_flattenQuad_99 ?_
        have q17 : ((8 * (nI r.length)) + 5 : Int32) = nI ((8 * r.length) + 5) := nadd (nmul (rfl) (rfl)) (rfl)
        refine YY.S (st' := [.int (nI ((8 * r.length) + 5)), .ref (g.2.1 67)]) (by rw [q17]) ?_
        have b18 : vp_in (nI ((8 * r.length) + 5)) 80 := by exact vp_in_nI (by omega) (by decide)
        refine x_iald rfl b18 dX10_flattenQuad_100 ?_
        refine x_topi (y := U5 67 ((8 * r.length) + 5)) (by rw [nI_clamp (by omega)]) ?_
        refine x_topi (y := U 67 ((8 * r.length) + 5)) (by rw [eU5, uM_na (by decide)]) ?_
        refine x_istore 10 [(10, .int (U 67 ((8 * r.length) + 5))), (9, .int (U 67 ((8 * r.length) + 4))), (8, .int (U 67 ((8 * r.length) + 3))), (7, .int (U 67 ((8 * r.length) + 2))), (6, .int (U 67 ((8 * r.length) + 1))), (5, .int (U 67 (8 * r.length))), (4, .int (nI h)), (3, .int (8 * (nI r.length))), (2, .int t), (0, .ref (g.2.1 49)), (1, .int (nI c))] dX10_flattenQuad_101 (by decide) rfl ?_
        refine x_iload dX10_flattenQuad_103 6 rfl ?_
        refine x_bipush (v := 6) dX10_flattenQuad_105 (by decide) ?_
        refine x_icmp_eq 135 dX10_flattenQuad_107 (by decide) (fun c19 => ?_) (fun c19 => ?_)
        · have c19n : h = 6 := (nl_eq (a := h) (b := 6) (rfl) (rfl) (by omega) (by omega)).mp c19
          refine x_aload_n dX10_flattenQuad_135 9 rfl ?_
          refine x_iload_n dX10_flattenQuad_136 10 rfl ?_
          refine x_iload dX10_flattenQuad_137 1 rfl ?_
          refine x_iload dX10_flattenQuad_139 0 rfl ?_
          have hF1 : FRM U5 S (c + 1) := by rw [eU5]; exact hAM.2.2.2.2.1.kept (uM_ni (by decide)) (uM_ni (by decide)) (fun a i q => uM_na (by omega))
          have hxr : inR (U 67 ((8 * r.length) + 4)) ∧ inR (U 67 ((8 * r.length) + 5)) := ⟨by rw [s2 4 (by omega)]; exact g1 _ (by omega), by rw [s2 5 (by omega)]; exact g1 _ (by omega)⟩
          refine x_callV (K := jX10_addVertex) [.int (nI c), .int (U 67 ((8 * r.length) + 4)), .int (U 67 ((8 * r.length) + 5))] lk_X10_227 ⟨⟨rfl, rfl⟩, Nat.le_of_ble_eq_true rfl, Nat.le_of_ble_eq_true rfl⟩ rfl rfl (mX10_addVertexS hF1 hAM.2.2.2.2.2.1 hAM.2.2.2.2.2.2.1 (by have := hAM.2.2.2.2.2.2.2.2.1; omega) c hc hxr.1 hxr.2) rfl (Nat.le_of_ble_eq_true rfl) rfl dX10_flattenQuad_141 (kdV ?_)
          obtain ⟨U20, eU20⟩ : ∃ v_v : vM, v_v = mavV U5 S c (U 67 ((8 * r.length) + 4)) (U 67 ((8 * r.length) + 5)) := ⟨_, rfl⟩
          refine YY.V eU20.symm ?_
          refine x_goto 245 dX10_flattenQuad_144 (by decide) ?_
          refine x_goto 9 dX10_flattenQuad_245 (by decide) ?_
          refine x_lv [8, 9, 10] rfl ?_
          exact ih r (fadd S c (U 67 (8 * r.length + 4)) (U 67 (8 * r.length + 5))) U20 (by exact AM_leaf (l := 2) (by omega) hAM (by first | exact Or.inl (by omega) | exact Or.inr (by unfold flt; rw [if_pos rfl]; (first | assumption | exact Int32.not_lt.mp (by assumption) | exact Int32.not_le.mpr (by assumption)))) (by subst_vars; rfl)) (by first | exact Nat.lt_of_lt_of_le (snd7_leaf h p r (by omega)) (by omega) | exact Nat.lt_of_lt_of_le (snd7_split h p _ _ r (by omega)) (by omega))
        · have c19n : ¬ h = 6 := fun q => c19 ((nl_eq (a := h) (b := 6) (rfl) (rfl) (by omega) (by omega)).mpr q)
          refine x_iload dX10_flattenQuad_110 5 rfl ?_
          refine x_iload dX10_flattenQuad_112 3 rfl ?_
          refine x_iload dX10_flattenQuad_114 1 rfl ?_
          refine x_callS (K := jX10_bend) [.int (U 67 (8 * r.length)), .int (U 67 ((8 * r.length) + 2)), .int (U 67 ((8 * r.length) + 4))] lk_X10_223 ⟨⟨rfl, rfl⟩, Nat.le_of_ble_eq_true rfl, Nat.le_of_ble_eq_true rfl⟩ (mX10_bend U5 (U 67 (8 * r.length)) (U 67 ((8 * r.length) + 2)) (U 67 ((8 * r.length) + 4))) rfl (Nat.le_of_ble_eq_true rfl) rfl dX10_flattenQuad_116 (kpI ?_)
          refine x_iload dX10_flattenQuad_119 4 rfl ?_
          refine x_iload dX10_flattenQuad_121 2 rfl ?_
          refine x_iload dX10_flattenQuad_123 0 rfl ?_
          refine x_callS (K := jX10_bend) [.int (U 67 ((8 * r.length) + 1)), .int (U 67 ((8 * r.length) + 3)), .int (U 67 ((8 * r.length) + 5))] lk_X10_223 ⟨⟨rfl, rfl⟩, Nat.le_of_ble_eq_true rfl, Nat.le_of_ble_eq_true rfl⟩ (mX10_bend U5 (U 67 ((8 * r.length) + 1)) (U 67 ((8 * r.length) + 3)) (U 67 ((8 * r.length) + 5))) rfl (Nat.le_of_ble_eq_true rfl) rfl dX10_flattenQuad_125 (kpI ?_)
          refine x_iadd dX10_flattenQuad_128 ?_
          refine x_iconst (v := 4) dX10_flattenQuad_129 (by decide) ?_
          refine x_iload_n dX10_flattenQuad_130 8 rfl ?_
          refine x_imul dX10_flattenQuad_131 ?_
          refine x_icmp_gt 147 dX10_flattenQuad_132 (by decide) (fun c21 => ?_) (fun c21 => ?_)
          · refine x_iload dX10_flattenQuad_147 5 rfl ?_
            refine x_iload dX10_flattenQuad_149 3 rfl ?_
            refine x_callS (K := jX10_mid) [.int (U 67 (8 * r.length)), .int (U 67 ((8 * r.length) + 2))] lk_X10_231 ⟨⟨rfl, rfl⟩, Nat.le_of_ble_eq_true rfl, Nat.le_of_ble_eq_true rfl⟩ (mX10_mid U5 (U 67 (8 * r.length)) (U 67 ((8 * r.length) + 2))) rfl (Nat.le_of_ble_eq_true rfl) rfl dX10_flattenQuad_151 (kpI ?_)
            refine x_istore 11 [(11, .int (hmid (U 67 (8 * r.length)) (U 67 ((8 * r.length) + 2)))), (10, .int (U 67 ((8 * r.length) + 5))), (9, .int (U 67 ((8 * r.length) + 4))), (8, .int (U 67 ((8 * r.length) + 3))), (7, .int (U 67 ((8 * r.length) + 2))), (6, .int (U 67 ((8 * r.length) + 1))), (5, .int (U 67 (8 * r.length))), (4, .int (nI h)), (3, .int (8 * (nI r.length))), (2, .int t), (0, .ref (g.2.1 49)), (1, .int (nI c))] dX10_flattenQuad_154 (by decide) rfl ?_
            refine x_iload dX10_flattenQuad_156 5 rfl ?_
            refine x_iload dX10_flattenQuad_158 3 rfl ?_
            refine x_callS (K := jX10_mid) [.int (U 67 ((8 * r.length) + 1)), .int (U 67 ((8 * r.length) + 3))] lk_X10_231 ⟨⟨rfl, rfl⟩, Nat.le_of_ble_eq_true rfl, Nat.le_of_ble_eq_true rfl⟩ (mX10_mid U5 (U 67 ((8 * r.length) + 1)) (U 67 ((8 * r.length) + 3))) rfl (Nat.le_of_ble_eq_true rfl) rfl dX10_flattenQuad_160 (kpI ?_)
            refine x_istore 12 [(12, .int (hmid (U 67 ((8 * r.length) + 1)) (U 67 ((8 * r.length) + 3)))), (11, .int (hmid (U 67 (8 * r.length)) (U 67 ((8 * r.length) + 2)))), (10, .int (U 67 ((8 * r.length) + 5))), (9, .int (U 67 ((8 * r.length) + 4))), (8, .int (U 67 ((8 * r.length) + 3))), (7, .int (U 67 ((8 * r.length) + 2))), (6, .int (U 67 ((8 * r.length) + 1))), (5, .int (U 67 (8 * r.length))), (4, .int (nI h)), (3, .int (8 * (nI r.length))), (2, .int t), (0, .ref (g.2.1 49)), (1, .int (nI c))] dX10_flattenQuad_163 (by decide) rfl ?_
            refine x_iload dX10_flattenQuad_165 5 rfl ?_
            refine x_iload dX10_flattenQuad_167 3 rfl ?_
            refine x_callS (K := jX10_mid) [.int (U 67 ((8 * r.length) + 2)), .int (U 67 ((8 * r.length) + 4))] lk_X10_231 ⟨⟨rfl, rfl⟩, Nat.le_of_ble_eq_true rfl, Nat.le_of_ble_eq_true rfl⟩ (mX10_mid U5 (U 67 ((8 * r.length) + 2)) (U 67 ((8 * r.length) + 4))) rfl (Nat.le_of_ble_eq_true rfl) rfl dX10_flattenQuad_169 (kpI ?_)
            refine x_istore 13 [(13, .int (hmid (U 67 ((8 * r.length) + 2)) (U 67 ((8 * r.length) + 4)))), (12, .int (hmid (U 67 ((8 * r.length) + 1)) (U 67 ((8 * r.length) + 3)))), (11, .int (hmid (U 67 (8 * r.length)) (U 67 ((8 * r.length) + 2)))), (10, .int (U 67 ((8 * r.length) + 5))), (9, .int (U 67 ((8 * r.length) + 4))), (8, .int (U 67 ((8 * r.length) + 3))), (7, .int (U 67 ((8 * r.length) + 2))), (6, .int (U 67 ((8 * r.length) + 1))), (5, .int (U 67 (8 * r.length))), (4, .int (nI h)), (3, .int (8 * (nI r.length))), (2, .int t), (0, .ref (g.2.1 49)), (1, .int (nI c))] dX10_flattenQuad_172 (by decide) rfl ?_
            refine x_iload dX10_flattenQuad_174 5 rfl ?_
            refine x_iload dX10_flattenQuad_176 3 rfl ?_
            refine x_callS (K := jX10_mid) [.int (U 67 ((8 * r.length) + 3)), .int (U 67 ((8 * r.length) + 5))] lk_X10_231 ⟨⟨rfl, rfl⟩, Nat.le_of_ble_eq_true rfl, Nat.le_of_ble_eq_true rfl⟩ (mX10_mid U5 (U 67 ((8 * r.length) + 3)) (U 67 ((8 * r.length) + 5))) rfl (Nat.le_of_ble_eq_true rfl) rfl dX10_flattenQuad_178 (kpI ?_)
            refine x_istore 14 [(14, .int (hmid (U 67 ((8 * r.length) + 3)) (U 67 ((8 * r.length) + 5)))), (13, .int (hmid (U 67 ((8 * r.length) + 2)) (U 67 ((8 * r.length) + 4)))), (12, .int (hmid (U 67 ((8 * r.length) + 1)) (U 67 ((8 * r.length) + 3)))), (11, .int (hmid (U 67 (8 * r.length)) (U 67 ((8 * r.length) + 2)))), (10, .int (U 67 ((8 * r.length) + 5))), (9, .int (U 67 ((8 * r.length) + 4))), (8, .int (U 67 ((8 * r.length) + 3))), (7, .int (U 67 ((8 * r.length) + 2))), (6, .int (U 67 ((8 * r.length) + 1))), (5, .int (U 67 (8 * r.length))), (4, .int (nI h)), (3, .int (8 * (nI r.length))), (2, .int t), (0, .ref (g.2.1 49)), (1, .int (nI c))] dX10_flattenQuad_181 (by decide) rfl ?_
            refine x_iload dX10_flattenQuad_183 3 rfl ?_
            refine x_iload dX10_flattenQuad_185 1 rfl ?_
            refine x_callS (K := jX10_mid) [.int (hmid (U 67 (8 * r.length)) (U 67 ((8 * r.length) + 2))), .int (hmid (U 67 ((8 * r.length) + 2)) (U 67 ((8 * r.length) + 4)))] lk_X10_231 ⟨⟨rfl, rfl⟩, Nat.le_of_ble_eq_true rfl, Nat.le_of_ble_eq_true rfl⟩ (mX10_mid U5 (hmid (U 67 (8 * r.length)) (U 67 ((8 * r.length) + 2))) (hmid (U 67 ((8 * r.length) + 2)) (U 67 ((8 * r.length) + 4)))) rfl (Nat.le_of_ble_eq_true rfl) rfl dX10_flattenQuad_187 (kpI ?_)
            refine x_istore 15 [(15, .int (hmid (hmid (U 67 (8 * r.length)) (U 67 ((8 * r.length) + 2))) (hmid (U 67 ((8 * r.length) + 2)) (U 67 ((8 * r.length) + 4))))), (14, .int (hmid (U 67 ((8 * r.length) + 3)) (U 67 ((8 * r.length) + 5)))), (13, .int (hmid (U 67 ((8 * r.length) + 2)) (U 67 ((8 * r.length) + 4)))), (12, .int (hmid (U 67 ((8 * r.length) + 1)) (U 67 ((8 * r.length) + 3)))), (11, .int (hmid (U 67 (8 * r.length)) (U 67 ((8 * r.length) + 2)))), (10, .int (U 67 ((8 * r.length) + 5))), (9, .int (U 67 ((8 * r.length) + 4))), (8, .int (U 67 ((8 * r.length) + 3))), (7, .int (U 67 ((8 * r.length) + 2))), (6, .int (U 67 ((8 * r.length) + 1))), (5, .int (U 67 (8 * r.length))), (4, .int (nI h)), (3, .int (8 * (nI r.length))), (2, .int t), (0, .ref (g.2.1 49)), (1, .int (nI c))] dX10_flattenQuad_190 (by decide) rfl ?_
            refine x_iload dX10_flattenQuad_192 3 rfl ?_
            refine x_iload dX10_flattenQuad_194 1 rfl ?_
            refine x_callS (K := jX10_mid) [.int (hmid (U 67 ((8 * r.length) + 1)) (U 67 ((8 * r.length) + 3))), .int (hmid (U 67 ((8 * r.length) + 3)) (U 67 ((8 * r.length) + 5)))] lk_X10_231 ⟨⟨rfl, rfl⟩, Nat.le_of_ble_eq_true rfl, Nat.le_of_ble_eq_true rfl⟩ (mX10_mid U5 (hmid (U 67 ((8 * r.length) + 1)) (U 67 ((8 * r.length) + 3))) (hmid (U 67 ((8 * r.length) + 3)) (U 67 ((8 * r.length) + 5)))) rfl (Nat.le_of_ble_eq_true rfl) rfl dX10_flattenQuad_196 (kpI ?_)
            refine x_istore 16 [(16, .int (hmid (hmid (U 67 ((8 * r.length) + 1)) (U 67 ((8 * r.length) + 3))) (hmid (U 67 ((8 * r.length) + 3)) (U 67 ((8 * r.length) + 5))))), (15, .int (hmid (hmid (U 67 (8 * r.length)) (U 67 ((8 * r.length) + 2))) (hmid (U 67 ((8 * r.length) + 2)) (U 67 ((8 * r.length) + 4))))), (14, .int (hmid (U 67 ((8 * r.length) + 3)) (U 67 ((8 * r.length) + 5)))), (13, .int (hmid (U 67 ((8 * r.length) + 2)) (U 67 ((8 * r.length) + 4)))), (12, .int (hmid (U 67 ((8 * r.length) + 1)) (U 67 ((8 * r.length) + 3)))), (11, .int (hmid (U 67 (8 * r.length)) (U 67 ((8 * r.length) + 2)))), (10, .int (U 67 ((8 * r.length) + 5))), (9, .int (U 67 ((8 * r.length) + 4))), (8, .int (U 67 ((8 * r.length) + 3))), (7, .int (U 67 ((8 * r.length) + 2))), (6, .int (U 67 ((8 * r.length) + 1))), (5, .int (U 67 (8 * r.length))), (4, .int (nI h)), (3, .int (8 * (nI r.length))), (2, .int t), (0, .ref (g.2.1 49)), (1, .int (nI c))] dX10_flattenQuad_199 (by decide) rfl ?_
            refine x_aload_n dX10_flattenQuad_201 15 rfl ?_
            refine x_iload dX10_flattenQuad_202 12 rfl ?_
            refine x_iconst (v := 1) dX10_flattenQuad_204 (by decide) ?_
            refine x_iadd dX10_flattenQuad_205 ?_
            refine x_iload dX10_flattenQuad_206 1 rfl ?_
            refine x_iload dX10_flattenQuad_208 0 rfl ?_
            refine x_iload dX10_flattenQuad_210 3 rfl ?_
            refine x_iload dX10_flattenQuad_212 2 rfl ?_
            refine x_iload dX10_flattenQuad_214 7 rfl ?_
            refine x_iload dX10_flattenQuad_216 6 rfl ?_
            refine x_iconst (v := 0) dX10_flattenQuad_218 (by decide) ?_
            refine x_iconst (v := 0) dX10_flattenQuad_219 (by decide) ?_
            have hp1 : U5 49 38 = nI r.length := by rw [eU5, uM_hit]
            refine x_callV (K := jX10_push) [.int ((nI h) + 1), .int (hmid (hmid (U 67 (8 * r.length)) (U 67 ((8 * r.length) + 2))) (hmid (U 67 ((8 * r.length) + 2)) (U 67 ((8 * r.length) + 4)))), .int (hmid (hmid (U 67 ((8 * r.length) + 1)) (U 67 ((8 * r.length) + 3))) (hmid (U 67 ((8 * r.length) + 3)) (U 67 ((8 * r.length) + 5)))), .int (hmid (U 67 ((8 * r.length) + 2)) (U 67 ((8 * r.length) + 4))), .int (hmid (U 67 ((8 * r.length) + 3)) (U 67 ((8 * r.length) + 5))), .int (U 67 ((8 * r.length) + 4)), .int (U 67 ((8 * r.length) + 5)), .int 0, .int 0] lk_X10_235 ⟨⟨rfl, rfl⟩, Nat.le_of_ble_eq_true rfl, Nat.le_of_ble_eq_true rfl⟩ rfl rfl (mX10_push U5 (m := r.length) hp1 (by omega) ((nI h) + 1) (hmid (hmid (U 67 (8 * r.length)) (U 67 ((8 * r.length) + 2))) (hmid (U 67 ((8 * r.length) + 2)) (U 67 ((8 * r.length) + 4)))) (hmid (hmid (U 67 ((8 * r.length) + 1)) (U 67 ((8 * r.length) + 3))) (hmid (U 67 ((8 * r.length) + 3)) (U 67 ((8 * r.length) + 5)))) (hmid (U 67 ((8 * r.length) + 2)) (U 67 ((8 * r.length) + 4))) (hmid (U 67 ((8 * r.length) + 3)) (U 67 ((8 * r.length) + 5))) (U 67 ((8 * r.length) + 4)) (U 67 ((8 * r.length) + 5)) 0 0) rfl (Nat.le_of_ble_eq_true rfl) rfl dX10_flattenQuad_220 (kdV ?_)
            obtain ⟨U22, eU22⟩ : ∃ v_v : vM, v_v = mpush U5 r.length ((nI h) + 1) (hmid (hmid (U 67 (8 * r.length)) (U 67 ((8 * r.length) + 2))) (hmid (U 67 ((8 * r.length) + 2)) (U 67 ((8 * r.length) + 4)))) (hmid (hmid (U 67 ((8 * r.length) + 1)) (U 67 ((8 * r.length) + 3))) (hmid (U 67 ((8 * r.length) + 3)) (U 67 ((8 * r.length) + 5)))) (hmid (U 67 ((8 * r.length) + 2)) (U 67 ((8 * r.length) + 4))) (hmid (U 67 ((8 * r.length) + 3)) (U 67 ((8 * r.length) + 5))) (U 67 ((8 * r.length) + 4)) (U 67 ((8 * r.length) + 5)) 0 0 := ⟨_, rfl⟩
            refine YY.V eU22.symm ?_
            have hp2 : U22 49 38 = nI (r.length + 1) := by rw [eU22]; exact mpush_p.2.2.2.2.2.2.2.2.2
            refine x_aload_n dX10_flattenQuad_223 15 rfl ?_
            refine x_iload dX10_flattenQuad_224 12 rfl ?_
            refine x_iconst (v := 1) dX10_flattenQuad_226 (by decide) ?_
            refine x_iadd dX10_flattenQuad_227 ?_
            refine x_iload dX10_flattenQuad_228 11 rfl ?_
            refine x_iload dX10_flattenQuad_230 10 rfl ?_
            refine x_iload dX10_flattenQuad_232 5 rfl ?_
            refine x_iload dX10_flattenQuad_234 4 rfl ?_
            refine x_iload dX10_flattenQuad_236 1 rfl ?_
            refine x_iload dX10_flattenQuad_238 0 rfl ?_
            refine x_iconst (v := 0) dX10_flattenQuad_240 (by decide) ?_
            refine x_iconst (v := 0) dX10_flattenQuad_241 (by decide) ?_
            refine x_callV (K := jX10_push) [.int ((nI h) + 1), .int (U 67 (8 * r.length)), .int (U 67 ((8 * r.length) + 1)), .int (hmid (U 67 (8 * r.length)) (U 67 ((8 * r.length) + 2))), .int (hmid (U 67 ((8 * r.length) + 1)) (U 67 ((8 * r.length) + 3))), .int (hmid (hmid (U 67 (8 * r.length)) (U 67 ((8 * r.length) + 2))) (hmid (U 67 ((8 * r.length) + 2)) (U 67 ((8 * r.length) + 4)))), .int (hmid (hmid (U 67 ((8 * r.length) + 1)) (U 67 ((8 * r.length) + 3))) (hmid (U 67 ((8 * r.length) + 3)) (U 67 ((8 * r.length) + 5)))), .int 0, .int 0] lk_X10_235 ⟨⟨rfl, rfl⟩, Nat.le_of_ble_eq_true rfl, Nat.le_of_ble_eq_true rfl⟩ rfl rfl (mX10_push U22 (m := (r.length + 1)) hp2 (by omega) ((nI h) + 1) (U 67 (8 * r.length)) (U 67 ((8 * r.length) + 1)) (hmid (U 67 (8 * r.length)) (U 67 ((8 * r.length) + 2))) (hmid (U 67 ((8 * r.length) + 1)) (U 67 ((8 * r.length) + 3))) (hmid (hmid (U 67 (8 * r.length)) (U 67 ((8 * r.length) + 2))) (hmid (U 67 ((8 * r.length) + 2)) (U 67 ((8 * r.length) + 4)))) (hmid (hmid (U 67 ((8 * r.length) + 1)) (U 67 ((8 * r.length) + 3))) (hmid (U 67 ((8 * r.length) + 3)) (U 67 ((8 * r.length) + 5)))) 0 0) rfl (Nat.le_of_ble_eq_true rfl) rfl dX10_flattenQuad_242 (kdV ?_)
            obtain ⟨U23, eU23⟩ : ∃ v_v : vM, v_v = mpush U22 (r.length + 1) ((nI h) + 1) (U 67 (8 * r.length)) (U 67 ((8 * r.length) + 1)) (hmid (U 67 (8 * r.length)) (U 67 ((8 * r.length) + 2))) (hmid (U 67 ((8 * r.length) + 1)) (U 67 ((8 * r.length) + 3))) (hmid (hmid (U 67 (8 * r.length)) (U 67 ((8 * r.length) + 2))) (hmid (U 67 ((8 * r.length) + 2)) (U 67 ((8 * r.length) + 4)))) (hmid (hmid (U 67 ((8 * r.length) + 1)) (U 67 ((8 * r.length) + 3))) (hmid (U 67 ((8 * r.length) + 3)) (U 67 ((8 * r.length) + 5)))) 0 0 := ⟨_, rfl⟩
            refine YY.V eU23.symm ?_
            refine x_goto 9 dX10_flattenQuad_245 (by decide) ?_
            refine x_lv [14, 15, 16] rfl ?_
            exact ih ((h + 1, hA 2 p) :: (h + 1, hB 2 p) :: r) S U23 (by refine AM_split (l := 2) (q := (fun k => U 67 (8 * r.length + k))) (by omega) hAM (by omega) rfl (by unfold flt; rw [if_pos rfl]; (first | assumption | exact Int32.not_lt.mp (by assumption) | exact Int32.not_le.mpr (by assumption))) (y6 := 0) (y7 := 0) (z6 := 0) (z7 := 0) (fun z => absurd z (by decide)) (fun z => absurd z (by decide)) ?_; subst_vars; simp only [nI_1]; rfl) (by first | exact Nat.lt_of_lt_of_le (snd7_leaf h p r (by omega)) (by omega) | exact Nat.lt_of_lt_of_le (snd7_split h p _ _ r (by omega)) (by omega))
          · refine x_aload_n dX10_flattenQuad_135 9 rfl ?_
            refine x_iload_n dX10_flattenQuad_136 10 rfl ?_
            refine x_iload dX10_flattenQuad_137 1 rfl ?_
            refine x_iload dX10_flattenQuad_139 0 rfl ?_
            have hF1 : FRM U5 S (c + 1) := by rw [eU5]; exact hAM.2.2.2.2.1.kept (uM_ni (by decide)) (uM_ni (by decide)) (fun a i q => uM_na (by omega))
            have hxr : inR (U 67 ((8 * r.length) + 4)) ∧ inR (U 67 ((8 * r.length) + 5)) := ⟨by rw [s2 4 (by omega)]; exact g1 _ (by omega), by rw [s2 5 (by omega)]; exact g1 _ (by omega)⟩
            refine x_callV (K := jX10_addVertex) [.int (nI c), .int (U 67 ((8 * r.length) + 4)), .int (U 67 ((8 * r.length) + 5))] lk_X10_227 ⟨⟨rfl, rfl⟩, Nat.le_of_ble_eq_true rfl, Nat.le_of_ble_eq_true rfl⟩ rfl rfl (mX10_addVertexS hF1 hAM.2.2.2.2.2.1 hAM.2.2.2.2.2.2.1 (by have := hAM.2.2.2.2.2.2.2.2.1; omega) c hc hxr.1 hxr.2) rfl (Nat.le_of_ble_eq_true rfl) rfl dX10_flattenQuad_141 (kdV ?_)
            obtain ⟨U24, eU24⟩ : ∃ v_v : vM, v_v = mavV U5 S c (U 67 ((8 * r.length) + 4)) (U 67 ((8 * r.length) + 5)) := ⟨_, rfl⟩
            refine YY.V eU24.symm ?_
            refine x_goto 245 dX10_flattenQuad_144 (by decide) ?_
            refine x_goto 9 dX10_flattenQuad_245 (by decide) ?_
            refine x_lv [8, 9, 10] rfl ?_
            exact ih r (fadd S c (U 67 (8 * r.length + 4)) (U 67 (8 * r.length + 5))) U24 (by exact AM_leaf (l := 2) (by omega) hAM (by first | exact Or.inl (by omega) | exact Or.inr (by unfold flt; rw [if_pos rfl]; (first | assumption | exact Int32.not_lt.mp (by assumption) | exact Int32.not_le.mpr (by assumption)))) (by subst_vars; rfl)) (by first | exact Nat.lt_of_lt_of_le (snd7_leaf h p r (by omega)) (by omega) | exact Nat.lt_of_lt_of_le (snd7_split h p _ _ r (by omega)) (by omega))
  exact lp3 _ ([(0, p0)]) S0 V (by exact H0) (Nat.lt_succ_self _)
set_option maxHeartbeats 8000000 in
set_option maxRecDepth 100000 in
theorem mX10_flattenCubic {g : gX} (V : vM) (c : Nat) (hc : c < 24) (t : Int32) (ht : V 50 169 = t) {B : Nat} (hBB : B ≤ 1600) {R S0 : FS} {p0 : Nat → Int32} (H0 : AM 3 t c B R V V [(0, p0)] S0) : MM g jX10_flattenCubic V [.ref (g.2.1 49), .int (nI c)] (eV (fun U => FRM U R (c + 1) ∧ SOK R ∧ SB R ∧ R.1 ≤ B ∧ frM V U)) := by
  refine MM.of plX10_flattenCubic (Nat.le_of_ble_eq_true rfl) ?_
  obtain ⟨Q, hQ⟩ : ∃ Q : Option Value → vM → Prop, Q = (eV (fun U => FRM U R (c + 1) ∧ SOK R ∧ SB R ∧ R.1 ≤ B ∧ frM V U)) := ⟨_, rfl⟩
  rw [← hQ]
  show XX g jX10_flattenCubic Q V 0 [(0, .ref (g.2.1 49)), (1, .int (nI c))] []
  refine x_aload_n dX10_flattenCubic_0 0 rfl ?_
  refine x_getR fl_X10_9 rfl rfl dX10_flattenCubic_1 ?_
  refine x_sipush (v := 169) dX10_flattenCubic_4 (by decide) ?_
  have q1 : (169 : Int32) = nI 169 := rfl
  refine YY.S (st' := [.int (nI 169), .ref (g.2.1 50)]) (by rw [q1]) ?_
  have b2 : vp_in (nI 169) 170 := by exact vp_in_nI (by omega) (by decide)
  refine x_iald rfl b2 dX10_flattenCubic_7 ?_
  refine x_topi (y := V 50 169) (by rw [nI_clamp (by omega)]) ?_
  refine x_topi (ht) ?_
  refine x_istore_n 2 [(2, .int t), (0, .ref (g.2.1 49)), (1, .int (nI c))] dX10_flattenCubic_8 rfl (by decide) rfl ?_
  have lp3 : ∀ (fu : Nat) (stk : STK) (S : FS) (U : vM), (AM 3 t c B R V U stk S) → (snd7 stk) < fu → XX g jX10_flattenCubic Q U 9 [(2, .int t), (0, .ref (g.2.1 49)), (1, .int (nI c))] [] := by
    intro fu
    induction fu with
    | zero => intro _ _ _ _ hmz; exact absurd hmz (Nat.not_lt_zero _)
    | succ fu ih =>
      intro stk S U hAM hmz
      have hlen : stk.length ≤ 7 := okL_len hAM.2.2.1
      refine x_aload_n dX10_flattenCubic_9 1 rfl ?_
      refine x_getI fl_X10_220 rfl rfl dX10_flattenCubic_10 ?_
      refine x_topi (hAM.1) ?_
      refine x_if_le 365 dX10_flattenCubic_13 (by decide) (fun c4 => ?_) (fun c4 => ?_)
      · have c4n : stk.length ≤ 0 := (nl_le (a := stk.length) (b := 0) (rfl) (rfl) (by omega) (by omega)).mp c4
        refine x_vret dX10_flattenCubic_365 rfl ?_
        rw [hQ]
        refine ⟨rfl, ?_⟩
        have hnil : stk = [] := by
          cases stk with
          | nil => rfl
          | cons q r => exfalso; have := hAM.2.2.1; simp_all
        subst hnil
        obtain ⟨-, -, -, -, q5, q6, q7, q8, q9, q10⟩ := hAM
        have q8 : S = R := q8
        rw [← q8]
        exact ⟨q5, q6, q7, by simpa [slv] using q9, q10⟩
      · have c4n : 0 < stk.length := Nat.not_le.mp (fun q => c4 ((nl_le (a := stk.length) (b := 0) (rfl) (rfl) (by omega) (by omega)).mpr q))
        obtain ⟨h, p, r, rfl⟩ : ∃ h p r, stk = (h, p) :: r := by
          cases stk with
          | nil => exfalso; have := hAM.1; simp_all
          | cons q r => exact ⟨q.1, q.2, r, rfl⟩
        obtain ⟨hp38, ⟨s1, s2, s3⟩, ⟨o1, o2, o3⟩, ⟨g1, g2⟩, -⟩ := id hAM
        have hp38 : U 49 38 = nI (r.length + 1) := hp38
        refine x_aload_n dX10_flattenCubic_16 1 rfl ?_
        refine x_dup dX10_flattenCubic_17 rfl ?_
        refine x_getI fl_X10_220 rfl rfl dX10_flattenCubic_18 ?_
        refine x_topi (hp38) ?_
        refine x_iconst (v := 1) dX10_flattenCubic_21 (by decide) ?_
        refine x_isub dX10_flattenCubic_22 ?_
        refine x_topi (y := nI r.length) (nI_pred _) ?_
        refine x_putI fp_X10_220 rfl rfl dX10_flattenCubic_23 ?_
        obtain ⟨U5, eU5⟩ : ∃ v_v : vM, v_v = uM U 49 38 (nI r.length) := ⟨_, rfl⟩
        refine YY.V eU5.symm ?_
        refine x_bipush (v := 8) dX10_flattenCubic_26 (by decide) ?_
        refine x_aload_n dX10_flattenCubic_28 1 rfl ?_
        refine x_getI fl_X10_220 rfl rfl dX10_flattenCubic_29 ?_
        refine x_topi (y := nI r.length) (by rw [eU5, uM_hit]) ?_
        refine x_imul dX10_flattenCubic_32 ?_
        refine x_istore_n 3 [(3, .int (8 * (nI r.length))), (2, .int t), (0, .ref (g.2.1 49)), (1, .int (nI c))] dX10_flattenCubic_33 rfl (by decide) rfl ?_
        refine x_aload_n dX10_flattenCubic_34 2 rfl ?_
        refine x_getR fl_X10_65 rfl rfl dX10_flattenCubic_35 ?_
        refine x_aload_n dX10_flattenCubic_38 2 rfl ?_
        refine x_getI fl_X10_220 rfl rfl dX10_flattenCubic_39 ?_
        refine x_topi (y := nI r.length) (by rw [eU5, uM_hit]) ?_
        have b6 : vp_in (nI r.length) 10 := by exact vp_in_nI (by omega) (by decide)
        refine x_iald rfl b6 dX10_flattenCubic_42 ?_
        refine x_topi (y := U5 68 r.length) (by rw [nI_clamp (by omega)]) ?_
        refine x_topi (y := U 68 r.length) (by rw [eU5, uM_na (by decide)]) ?_
        refine x_topi (s1) ?_
        refine x_istore 4 [(4, .int (nI h)), (3, .int (8 * (nI r.length))), (2, .int t), (0, .ref (g.2.1 49)), (1, .int (nI c))] dX10_flattenCubic_43 (by decide) rfl ?_
        refine x_aload_n dX10_flattenCubic_45 3 rfl ?_
        refine x_getR fl_X10_62 rfl rfl dX10_flattenCubic_46 ?_
        refine x_iload_n dX10_flattenCubic_49 1 rfl ?_
        have q7 : (8 * (nI r.length) : Int32) = nI (8 * r.length) := nmul (rfl) (rfl)
        refine YY.S (st' := [.int (nI (8 * r.length)), .ref (g.2.1 67)]) (by rw [q7]) ?_
        have b8 : vp_in (nI (8 * r.length)) 80 := by exact vp_in_nI (by omega) (by decide)
        refine x_iald rfl b8 dX10_flattenCubic_50 ?_
        refine x_topi (y := U5 67 (8 * r.length)) (by rw [nI_clamp (by omega)]) ?_
        refine x_topi (y := U 67 (8 * r.length)) (by rw [eU5, uM_na (by decide)]) ?_
        refine x_istore 5 [(5, .int (U 67 (8 * r.length))), (4, .int (nI h)), (3, .int (8 * (nI r.length))), (2, .int t), (0, .ref (g.2.1 49)), (1, .int (nI c))] dX10_flattenCubic_51 (by decide) rfl ?_
        refine x_aload_n dX10_flattenCubic_53 4 rfl ?_
        refine x_getR fl_X10_62 rfl rfl dX10_flattenCubic_54 ?_
        refine x_iload_n dX10_flattenCubic_57 2 rfl ?_
        refine x_iconst (v := 1) dX10_flattenCubic_58 (by decide) ?_
        refine x_iadd dX10_flattenCubic_59 ?_
        have q9 : ((8 * (nI r.length)) + 1 : Int32) = nI ((8 * r.length) + 1) := nadd (nmul (rfl) (rfl)) (rfl)
        refine YY.S (st' := [.int (nI ((8 * r.length) + 1)), .ref (g.2.1 67)]) (by rw [q9]) ?_
        have b10 : vp_in (nI ((8 * r.length) + 1)) 80 := by exact vp_in_nI (by omega) (by decide)
        refine x_iald rfl b10 dX10_flattenCubic_60 ?_
        refine x_topi (y := U5 67 ((8 * r.length) + 1)) (by rw [nI_clamp (by omega)]) ?_
        refine x_topi (y := U 67 ((8 * r.length) + 1)) (by rw [eU5, uM_na (by decide)]) ?_
        refine x_istore 6 [(6, .int (U 67 ((8 * r.length) + 1))), (5, .int (U 67 (8 * r.length))), (4, .int (nI h)), (3, .int (8 * (nI r.length))), (2, .int t), (0, .ref (g.2.1 49)), (1, .int (nI c))] dX10_flattenCubic_61 (by decide) rfl ?_
        refine x_aload_n dX10_flattenCubic_63 5 rfl ?_
        refine x_getR fl_X10_62 rfl rfl dX10_flattenCubic_64 ?_
        refine x_iload_n dX10_flattenCubic_67 3 rfl ?_
        refine x_iconst (v := 2) dX10_flattenCubic_68 (by decide) ?_
        refine x_iadd dX10_flattenCubic_69 ?_
        have q11 : ((8 * (nI r.length)) + 2 : Int32) = nI ((8 * r.length) + 2) := nadd (nmul (rfl) (rfl)) (rfl)
        refine YY.S (st' := [.int (nI ((8 * r.length) + 2)), .ref (g.2.1 67)]) (by rw [q11]) ?_
        have b12 : vp_in (nI ((8 * r.length) + 2)) 80 := by exact vp_in_nI (by omega) (by decide)
        refine x_iald rfl b12 dX10_flattenCubic_70 ?_
        refine x_topi (y := U5 67 ((8 * r.length) + 2)) (by rw [nI_clamp (by omega)]) ?_
        refine x_topi (y := U 67 ((8 * r.length) + 2)) (by rw [eU5, uM_na (by decide)]) ?_
        refine x_istore 7 [(7, .int (U 67 ((8 * r.length) + 2))), (6, .int (U 67 ((8 * r.length) + 1))), (5, .int (U 67 (8 * r.length))), (4, .int (nI h)), (3, .int (8 * (nI r.length))), (2, .int t), (0, .ref (g.2.1 49)), (1, .int (nI c))] dX10_flattenCubic_71 (by decide) rfl ?_
        refine x_aload_n dX10_flattenCubic_73 6 rfl ?_
        refine x_getR fl_X10_62 rfl rfl dX10_flattenCubic_74 ?_
        refine x_iload_n dX10_flattenCubic_77 4 rfl ?_
        refine x_iconst (v := 3) dX10_flattenCubic_78 (by decide) ?_
        refine x_iadd dX10_flattenCubic_79 ?_
        have q13 : ((8 * (nI r.length)) + 3 : Int32) = nI ((8 * r.length) + 3) := nadd (nmul (rfl) (rfl)) (rfl)
        refine YY.S (st' := [.int (nI ((8 * r.length) + 3)), .ref (g.2.1 67)]) (by rw [q13]) ?_
        have b14 : vp_in (nI ((8 * r.length) + 3)) 80 := by exact vp_in_nI (by omega) (by decide)
        refine x_iald rfl b14 dX10_flattenCubic_80 ?_
        refine x_topi (y := U5 67 ((8 * r.length) + 3)) (by rw [nI_clamp (by omega)]) ?_
        refine x_topi (y := U 67 ((8 * r.length) + 3)) (by rw [eU5, uM_na (by decide)]) ?_
        refine x_istore 8 [(8, .int (U 67 ((8 * r.length) + 3))), (7, .int (U 67 ((8 * r.length) + 2))), (6, .int (U 67 ((8 * r.length) + 1))), (5, .int (U 67 (8 * r.length))), (4, .int (nI h)), (3, .int (8 * (nI r.length))), (2, .int t), (0, .ref (g.2.1 49)), (1, .int (nI c))] dX10_flattenCubic_81 (by decide) rfl ?_
        refine x_aload_n dX10_flattenCubic_83 7 rfl ?_
        refine x_getR fl_X10_62 rfl rfl dX10_flattenCubic_84 ?_
        refine x_iload_n dX10_flattenCubic_87 5 rfl ?_
        refine x_iconst (v := 4) dX10_flattenCubic_88 (by decide) ?_
        refine x_iadd dX10_flattenCubic_89 ?_
        have q15 : ((8 * (nI r.length)) + 4 : Int32) = nI ((8 * r.length) + 4) := nadd (nmul (rfl) (rfl)) (rfl)
        refine YY.S (st' := [.int (nI ((8 * r.length) + 4)), .ref (g.2.1 67)]) (by rw [q15]) ?_
        have b16 : vp_in (nI ((8 * r.length) + 4)) 80 := by exact vp_in_nI (by omega) (by decide)
        refine x_iald rfl b16 dX10_flattenCubic_90 ?_
        refine x_topi (y := U5 67 ((8 * r.length) + 4)) (by rw [nI_clamp (by omega)]) ?_
        refine x_topi (y := U 67 ((8 * r.length) + 4)) (by rw [eU5, uM_na (by decide)]) ?_
        refine x_istore 9 [(9, .int (U 67 ((8 * r.length) + 4))), (8, .int (U 67 ((8 * r.length) + 3))), (7, .int (U 67 ((8 * r.length) + 2))), (6, .int (U 67 ((8 * r.length) + 1))), (5, .int (U 67 (8 * r.length))), (4, .int (nI h)), (3, .int (8 * (nI r.length))), (2, .int t), (0, .ref (g.2.1 49)), (1, .int (nI c))] dX10_flattenCubic_91 (by decide) rfl ?_
        refine x_aload_n dX10_flattenCubic_93 8 rfl ?_
        refine x_getR fl_X10_62 rfl rfl dX10_flattenCubic_94 ?_
        refine x_iload_n dX10_flattenCubic_97 6 rfl ?_
        refine x_iconst (v := 5) dX10_flattenCubic_98 (by decide) ?_
        refine x_iadd dX10_flattenCubic_99 ?_
        have q17 : ((8 * (nI r.length)) + 5 : Int32) = nI ((8 * r.length) + 5) := nadd (nmul (rfl) (rfl)) (rfl)
        refine YY.S (st' := [.int (nI ((8 * r.length) + 5)), .ref (g.2.1 67)]) (by rw [q17]) ?_
        have b18 : vp_in (nI ((8 * r.length) + 5)) 80 := by exact vp_in_nI (by omega) (by decide)
        refine x_iald rfl b18 dX10_flattenCubic_100 ?_
        refine x_topi (y := U5 67 ((8 * r.length) + 5)) (by rw [nI_clamp (by omega)]) ?_
        refine x_topi (y := U 67 ((8 * r.length) + 5)) (by rw [eU5, uM_na (by decide)]) ?_
        refine x_istore 10 [(10, .int (U 67 ((8 * r.length) + 5))), (9, .int (U 67 ((8 * r.length) + 4))), (8, .int (U 67 ((8 * r.length) + 3))), (7, .int (U 67 ((8 * r.length) + 2))), (6, .int (U 67 ((8 * r.length) + 1))), (5, .int (U 67 (8 * r.length))), (4, .int (nI h)), (3, .int (8 * (nI r.length))), (2, .int t), (0, .ref (g.2.1 49)), (1, .int (nI c))] dX10_flattenCubic_101 (by decide) rfl ?_
        refine x_aload_n dX10_flattenCubic_103 9 rfl ?_
        refine x_getR fl_X10_62 rfl rfl dX10_flattenCubic_104 ?_
        refine x_iload_n dX10_flattenCubic_107 7 rfl ?_
        refine x_bipush (v := 6) dX10_flattenCubic_108 (by decide) ?_
        refine x_iadd dX10_flattenCubic_110 ?_
        have q19 : ((8 * (nI r.length)) + 6 : Int32) = nI ((8 * r.length) + 6) := nadd (nmul (rfl) (rfl)) (rfl)
        refine YY.S (st' := [.int (nI ((8 * r.length) + 6)), .ref (g.2.1 67)]) (by rw [q19]) ?_
        have b20 : vp_in (nI ((8 * r.length) + 6)) 80 := by exact vp_in_nI (by omega) (by decide)
        refine x_iald rfl b20 dX10_flattenCubic_111 ?_
        refine x_topi (y := U5 67 ((8 * r.length) + 6)) (by rw [nI_clamp (by omega)]) ?_
        refine x_topi (y := U 67 ((8 * r.length) + 6)) (by rw [eU5, uM_na (by decide)]) ?_
        refine x_istore 11 [(11, .int (U 67 ((8 * r.length) + 6))), (10, .int (U 67 ((8 * r.length) + 5))), (9, .int (U 67 ((8 * r.length) + 4))), (8, .int (U 67 ((8 * r.length) + 3))), (7, .int (U 67 ((8 * r.length) + 2))), (6, .int (U 67 ((8 * r.length) + 1))), (5, .int (U 67 (8 * r.length))), (4, .int (nI h)), (3, .int (8 * (nI r.length))), (2, .int t), (0, .ref (g.2.1 49)), (1, .int (nI c))] dX10_flattenCubic_112 (by decide) rfl ?_
        refine x_aload_n dX10_flattenCubic_114 10 rfl ?_
        refine x_getR fl_X10_62 rfl rfl dX10_flattenCubic_115 ?_
        refine x_iload_n dX10_flattenCubic_118 8 rfl ?_
        refine x_bipush (v := 7) dX10_flattenCubic_119 (by decide) ?_
        refine x_iadd dX10_flattenCubic_121 ?_
        have q21 : ((8 * (nI r.length)) + 7 : Int32) = nI ((8 * r.length) + 7) := nadd (nmul (rfl) (rfl)) (rfl)
        refine YY.S (st' := [.int (nI ((8 * r.length) + 7)), .ref (g.2.1 67)]) (by rw [q21]) ?_
        have b22 : vp_in (nI ((8 * r.length) + 7)) 80 := by exact vp_in_nI (by omega) (by decide)
        refine x_iald rfl b22 dX10_flattenCubic_122 ?_
        refine x_topi (y := U5 67 ((8 * r.length) + 7)) (by rw [nI_clamp (by omega)]) ?_
        refine x_topi (y := U 67 ((8 * r.length) + 7)) (by rw [eU5, uM_na (by decide)]) ?_
        refine x_istore 12 [(12, .int (U 67 ((8 * r.length) + 7))), (11, .int (U 67 ((8 * r.length) + 6))), (10, .int (U 67 ((8 * r.length) + 5))), (9, .int (U 67 ((8 * r.length) + 4))), (8, .int (U 67 ((8 * r.length) + 3))), (7, .int (U 67 ((8 * r.length) + 2))), (6, .int (U 67 ((8 * r.length) + 1))), (5, .int (U 67 (8 * r.length))), (4, .int (nI h)), (3, .int (8 * (nI r.length))), (2, .int t), (0, .ref (g.2.1 49)), (1, .int (nI c))] dX10_flattenCubic_123 (by decide) rfl ?_
        refine x_iload dX10_flattenCubic_125 7 rfl ?_
        refine x_iload dX10_flattenCubic_127 5 rfl ?_
        refine x_iload dX10_flattenCubic_129 3 rfl ?_
        refine x_callS (K := jX10_bend) [.int (U 67 (8 * r.length)), .int (U 67 ((8 * r.length) + 2)), .int (U 67 ((8 * r.length) + 4))] lk_X10_223 ⟨⟨rfl, rfl⟩, Nat.le_of_ble_eq_true rfl, Nat.le_of_ble_eq_true rfl⟩ (mX10_bend U5 (U 67 (8 * r.length)) (U 67 ((8 * r.length) + 2)) (U 67 ((8 * r.length) + 4))) rfl (Nat.le_of_ble_eq_true rfl) rfl dX10_flattenCubic_131 (kpI ?_)
        refine x_iload dX10_flattenCubic_134 6 rfl ?_
        refine x_iload dX10_flattenCubic_136 4 rfl ?_
        refine x_iload dX10_flattenCubic_138 2 rfl ?_
        refine x_callS (K := jX10_bend) [.int (U 67 ((8 * r.length) + 1)), .int (U 67 ((8 * r.length) + 3)), .int (U 67 ((8 * r.length) + 5))] lk_X10_223 ⟨⟨rfl, rfl⟩, Nat.le_of_ble_eq_true rfl, Nat.le_of_ble_eq_true rfl⟩ (mX10_bend U5 (U 67 ((8 * r.length) + 1)) (U 67 ((8 * r.length) + 3)) (U 67 ((8 * r.length) + 5))) rfl (Nat.le_of_ble_eq_true rfl) rfl dX10_flattenCubic_140 (kpI ?_)
        refine x_iadd dX10_flattenCubic_143 ?_
        refine x_iconst (v := 2) dX10_flattenCubic_144 (by decide) ?_
        refine x_iload_n dX10_flattenCubic_145 10 rfl ?_
        refine x_imul dX10_flattenCubic_146 ?_
        refine x_icmp_gt 179 dX10_flattenCubic_147 (by decide) (fun c23 => ?_) (fun c23 => ?_)
        · refine x_iconst (v := 0) dX10_flattenCubic_179 (by decide) ?_
          refine x_istore 13 [(13, .int 0), (12, .int (U 67 ((8 * r.length) + 7))), (11, .int (U 67 ((8 * r.length) + 6))), (10, .int (U 67 ((8 * r.length) + 5))), (9, .int (U 67 ((8 * r.length) + 4))), (8, .int (U 67 ((8 * r.length) + 3))), (7, .int (U 67 ((8 * r.length) + 2))), (6, .int (U 67 ((8 * r.length) + 1))), (5, .int (U 67 (8 * r.length))), (4, .int (nI h)), (3, .int (8 * (nI r.length))), (2, .int t), (0, .ref (g.2.1 49)), (1, .int (nI c))] dX10_flattenCubic_180 (by decide) rfl ?_
          refine x_iload dX10_flattenCubic_182 9 rfl ?_
          refine x_bipush (v := 6) dX10_flattenCubic_184 (by decide) ?_
          refine x_icmp_eq 194 dX10_flattenCubic_186 (by decide) (fun c24 => ?_) (fun c24 => ?_)
          · have c24n : h = 6 := (nl_eq (a := h) (b := 6) (rfl) (rfl) (by omega) (by omega)).mp c24
            refine x_aload_n dX10_flattenCubic_194 12 rfl ?_
            refine x_iload_n dX10_flattenCubic_195 13 rfl ?_
            refine x_iload dX10_flattenCubic_196 2 rfl ?_
            refine x_iload dX10_flattenCubic_198 1 rfl ?_
            have hF1 : FRM U5 S (c + 1) := by rw [eU5]; exact hAM.2.2.2.2.1.kept (uM_ni (by decide)) (uM_ni (by decide)) (fun a i q => uM_na (by omega))
            have hxr : inR (U 67 ((8 * r.length) + 6)) ∧ inR (U 67 ((8 * r.length) + 7)) := ⟨by rw [s2 6 (by omega)]; exact g1 _ (by omega), by rw [s2 7 (by omega)]; exact g1 _ (by omega)⟩
            refine x_callV (K := jX10_addVertex) [.int (nI c), .int (U 67 ((8 * r.length) + 6)), .int (U 67 ((8 * r.length) + 7))] lk_X10_227 ⟨⟨rfl, rfl⟩, Nat.le_of_ble_eq_true rfl, Nat.le_of_ble_eq_true rfl⟩ rfl rfl (mX10_addVertexS hF1 hAM.2.2.2.2.2.1 hAM.2.2.2.2.2.2.1 (by have := hAM.2.2.2.2.2.2.2.2.1; omega) c hc hxr.1 hxr.2) rfl (Nat.le_of_ble_eq_true rfl) rfl dX10_flattenCubic_200 (kdV ?_)
            obtain ⟨U25, eU25⟩ : ∃ v_v : vM, v_v = mavV U5 S c (U 67 ((8 * r.length) + 6)) (U 67 ((8 * r.length) + 7)) := ⟨_, rfl⟩
            refine YY.V eU25.symm ?_
            refine x_goto 362 dX10_flattenCubic_203 (by decide) ?_
            refine x_goto 9 dX10_flattenCubic_362 (by decide) ?_
            refine x_lv [11, 12, 13] rfl ?_
            exact ih r (fadd S c (U 67 (8 * r.length + 6)) (U 67 (8 * r.length + 7))) U25 (by exact AM_leaf (l := 3) (by omega) hAM (by first | exact Or.inl (by omega) | exact Or.inr (by unfold flt; rw [if_neg (by decide)]; exact ⟨by (first | assumption | exact Int32.not_lt.mp (by assumption) | exact Int32.not_le.mpr (by assumption)), by (first | assumption | exact Int32.not_lt.mp (by assumption) | exact Int32.not_le.mpr (by assumption))⟩)) (by subst_vars; rfl)) (by first | exact Nat.lt_of_lt_of_le (snd7_leaf h p r (by omega)) (by omega) | exact Nat.lt_of_lt_of_le (snd7_split h p _ _ r (by omega)) (by omega))
          · have c24n : ¬ h = 6 := fun q => c24 ((nl_eq (a := h) (b := 6) (rfl) (rfl) (by omega) (by omega)).mpr q)
            refine x_iload dX10_flattenCubic_189 0 rfl ?_
            refine x_if_eq 206 dX10_flattenCubic_191 (by decide) (fun c26 => ?_) (fun c26 => by exfalso; revert c26; decide)
            refine x_iload dX10_flattenCubic_206 6 rfl ?_
            refine x_iload dX10_flattenCubic_208 4 rfl ?_
            refine x_callS (K := jX10_mid) [.int (U 67 ((8 * r.length) + 2)), .int (U 67 ((8 * r.length) + 4))] lk_X10_231 ⟨⟨rfl, rfl⟩, Nat.le_of_ble_eq_true rfl, Nat.le_of_ble_eq_true rfl⟩ (mX10_mid U5 (U 67 ((8 * r.length) + 2)) (U 67 ((8 * r.length) + 4))) rfl (Nat.le_of_ble_eq_true rfl) rfl dX10_flattenCubic_210 (kpI ?_)
            refine x_istore 14 [(14, .int (hmid (U 67 ((8 * r.length) + 2)) (U 67 ((8 * r.length) + 4)))), (13, .int 0), (12, .int (U 67 ((8 * r.length) + 7))), (11, .int (U 67 ((8 * r.length) + 6))), (10, .int (U 67 ((8 * r.length) + 5))), (9, .int (U 67 ((8 * r.length) + 4))), (8, .int (U 67 ((8 * r.length) + 3))), (7, .int (U 67 ((8 * r.length) + 2))), (6, .int (U 67 ((8 * r.length) + 1))), (5, .int (U 67 (8 * r.length))), (4, .int (nI h)), (3, .int (8 * (nI r.length))), (2, .int t), (0, .ref (g.2.1 49)), (1, .int (nI c))] dX10_flattenCubic_213 (by decide) rfl ?_
            refine x_iload dX10_flattenCubic_215 6 rfl ?_
            refine x_iload dX10_flattenCubic_217 4 rfl ?_
            refine x_callS (K := jX10_mid) [.int (U 67 ((8 * r.length) + 3)), .int (U 67 ((8 * r.length) + 5))] lk_X10_231 ⟨⟨rfl, rfl⟩, Nat.le_of_ble_eq_true rfl, Nat.le_of_ble_eq_true rfl⟩ (mX10_mid U5 (U 67 ((8 * r.length) + 3)) (U 67 ((8 * r.length) + 5))) rfl (Nat.le_of_ble_eq_true rfl) rfl dX10_flattenCubic_219 (kpI ?_)
            refine x_istore 15 [(15, .int (hmid (U 67 ((8 * r.length) + 3)) (U 67 ((8 * r.length) + 5)))), (14, .int (hmid (U 67 ((8 * r.length) + 2)) (U 67 ((8 * r.length) + 4)))), (13, .int 0), (12, .int (U 67 ((8 * r.length) + 7))), (11, .int (U 67 ((8 * r.length) + 6))), (10, .int (U 67 ((8 * r.length) + 5))), (9, .int (U 67 ((8 * r.length) + 4))), (8, .int (U 67 ((8 * r.length) + 3))), (7, .int (U 67 ((8 * r.length) + 2))), (6, .int (U 67 ((8 * r.length) + 1))), (5, .int (U 67 (8 * r.length))), (4, .int (nI h)), (3, .int (8 * (nI r.length))), (2, .int t), (0, .ref (g.2.1 49)), (1, .int (nI c))] dX10_flattenCubic_222 (by decide) rfl ?_
            refine x_iload dX10_flattenCubic_224 10 rfl ?_
            refine x_iload dX10_flattenCubic_226 8 rfl ?_
            refine x_callS (K := jX10_mid) [.int (U 67 (8 * r.length)), .int (U 67 ((8 * r.length) + 2))] lk_X10_231 ⟨⟨rfl, rfl⟩, Nat.le_of_ble_eq_true rfl, Nat.le_of_ble_eq_true rfl⟩ (mX10_mid U5 (U 67 (8 * r.length)) (U 67 ((8 * r.length) + 2))) rfl (Nat.le_of_ble_eq_true rfl) rfl dX10_flattenCubic_228 (kpI ?_)
            refine x_istore 16 [(16, .int (hmid (U 67 (8 * r.length)) (U 67 ((8 * r.length) + 2)))), (15, .int (hmid (U 67 ((8 * r.length) + 3)) (U 67 ((8 * r.length) + 5)))), (14, .int (hmid (U 67 ((8 * r.length) + 2)) (U 67 ((8 * r.length) + 4)))), (13, .int 0), (12, .int (U 67 ((8 * r.length) + 7))), (11, .int (U 67 ((8 * r.length) + 6))), (10, .int (U 67 ((8 * r.length) + 5))), (9, .int (U 67 ((8 * r.length) + 4))), (8, .int (U 67 ((8 * r.length) + 3))), (7, .int (U 67 ((8 * r.length) + 2))), (6, .int (U 67 ((8 * r.length) + 1))), (5, .int (U 67 (8 * r.length))), (4, .int (nI h)), (3, .int (8 * (nI r.length))), (2, .int t), (0, .ref (g.2.1 49)), (1, .int (nI c))] dX10_flattenCubic_231 (by decide) rfl ?_
            refine x_iload dX10_flattenCubic_233 10 rfl ?_
            refine x_iload dX10_flattenCubic_235 8 rfl ?_
            refine x_callS (K := jX10_mid) [.int (U 67 ((8 * r.length) + 1)), .int (U 67 ((8 * r.length) + 3))] lk_X10_231 ⟨⟨rfl, rfl⟩, Nat.le_of_ble_eq_true rfl, Nat.le_of_ble_eq_true rfl⟩ (mX10_mid U5 (U 67 ((8 * r.length) + 1)) (U 67 ((8 * r.length) + 3))) rfl (Nat.le_of_ble_eq_true rfl) rfl dX10_flattenCubic_237 (kpI ?_)
            refine x_istore 17 [(17, .int (hmid (U 67 ((8 * r.length) + 1)) (U 67 ((8 * r.length) + 3)))), (16, .int (hmid (U 67 (8 * r.length)) (U 67 ((8 * r.length) + 2)))), (15, .int (hmid (U 67 ((8 * r.length) + 3)) (U 67 ((8 * r.length) + 5)))), (14, .int (hmid (U 67 ((8 * r.length) + 2)) (U 67 ((8 * r.length) + 4)))), (13, .int 0), (12, .int (U 67 ((8 * r.length) + 7))), (11, .int (U 67 ((8 * r.length) + 6))), (10, .int (U 67 ((8 * r.length) + 5))), (9, .int (U 67 ((8 * r.length) + 4))), (8, .int (U 67 ((8 * r.length) + 3))), (7, .int (U 67 ((8 * r.length) + 2))), (6, .int (U 67 ((8 * r.length) + 1))), (5, .int (U 67 (8 * r.length))), (4, .int (nI h)), (3, .int (8 * (nI r.length))), (2, .int t), (0, .ref (g.2.1 49)), (1, .int (nI c))] dX10_flattenCubic_240 (by decide) rfl ?_
            refine x_iload dX10_flattenCubic_242 8 rfl ?_
            refine x_iload dX10_flattenCubic_244 6 rfl ?_
            refine x_callS (K := jX10_mid) [.int (U 67 ((8 * r.length) + 4)), .int (U 67 ((8 * r.length) + 6))] lk_X10_231 ⟨⟨rfl, rfl⟩, Nat.le_of_ble_eq_true rfl, Nat.le_of_ble_eq_true rfl⟩ (mX10_mid U5 (U 67 ((8 * r.length) + 4)) (U 67 ((8 * r.length) + 6))) rfl (Nat.le_of_ble_eq_true rfl) rfl dX10_flattenCubic_246 (kpI ?_)
            refine x_istore 18 [(18, .int (hmid (U 67 ((8 * r.length) + 4)) (U 67 ((8 * r.length) + 6)))), (17, .int (hmid (U 67 ((8 * r.length) + 1)) (U 67 ((8 * r.length) + 3)))), (16, .int (hmid (U 67 (8 * r.length)) (U 67 ((8 * r.length) + 2)))), (15, .int (hmid (U 67 ((8 * r.length) + 3)) (U 67 ((8 * r.length) + 5)))), (14, .int (hmid (U 67 ((8 * r.length) + 2)) (U 67 ((8 * r.length) + 4)))), (13, .int 0), (12, .int (U 67 ((8 * r.length) + 7))), (11, .int (U 67 ((8 * r.length) + 6))), (10, .int (U 67 ((8 * r.length) + 5))), (9, .int (U 67 ((8 * r.length) + 4))), (8, .int (U 67 ((8 * r.length) + 3))), (7, .int (U 67 ((8 * r.length) + 2))), (6, .int (U 67 ((8 * r.length) + 1))), (5, .int (U 67 (8 * r.length))), (4, .int (nI h)), (3, .int (8 * (nI r.length))), (2, .int t), (0, .ref (g.2.1 49)), (1, .int (nI c))] dX10_flattenCubic_249 (by decide) rfl ?_
            refine x_iload dX10_flattenCubic_251 8 rfl ?_
            refine x_iload dX10_flattenCubic_253 6 rfl ?_
            refine x_callS (K := jX10_mid) [.int (U 67 ((8 * r.length) + 5)), .int (U 67 ((8 * r.length) + 7))] lk_X10_231 ⟨⟨rfl, rfl⟩, Nat.le_of_ble_eq_true rfl, Nat.le_of_ble_eq_true rfl⟩ (mX10_mid U5 (U 67 ((8 * r.length) + 5)) (U 67 ((8 * r.length) + 7))) rfl (Nat.le_of_ble_eq_true rfl) rfl dX10_flattenCubic_255 (kpI ?_)
            refine x_istore 19 [(19, .int (hmid (U 67 ((8 * r.length) + 5)) (U 67 ((8 * r.length) + 7)))), (18, .int (hmid (U 67 ((8 * r.length) + 4)) (U 67 ((8 * r.length) + 6)))), (17, .int (hmid (U 67 ((8 * r.length) + 1)) (U 67 ((8 * r.length) + 3)))), (16, .int (hmid (U 67 (8 * r.length)) (U 67 ((8 * r.length) + 2)))), (15, .int (hmid (U 67 ((8 * r.length) + 3)) (U 67 ((8 * r.length) + 5)))), (14, .int (hmid (U 67 ((8 * r.length) + 2)) (U 67 ((8 * r.length) + 4)))), (13, .int 0), (12, .int (U 67 ((8 * r.length) + 7))), (11, .int (U 67 ((8 * r.length) + 6))), (10, .int (U 67 ((8 * r.length) + 5))), (9, .int (U 67 ((8 * r.length) + 4))), (8, .int (U 67 ((8 * r.length) + 3))), (7, .int (U 67 ((8 * r.length) + 2))), (6, .int (U 67 ((8 * r.length) + 1))), (5, .int (U 67 (8 * r.length))), (4, .int (nI h)), (3, .int (8 * (nI r.length))), (2, .int t), (0, .ref (g.2.1 49)), (1, .int (nI c))] dX10_flattenCubic_258 (by decide) rfl ?_
            refine x_iload dX10_flattenCubic_260 3 rfl ?_
            refine x_iload dX10_flattenCubic_262 5 rfl ?_
            refine x_callS (K := jX10_mid) [.int (hmid (U 67 (8 * r.length)) (U 67 ((8 * r.length) + 2))), .int (hmid (U 67 ((8 * r.length) + 2)) (U 67 ((8 * r.length) + 4)))] lk_X10_231 ⟨⟨rfl, rfl⟩, Nat.le_of_ble_eq_true rfl, Nat.le_of_ble_eq_true rfl⟩ (mX10_mid U5 (hmid (U 67 (8 * r.length)) (U 67 ((8 * r.length) + 2))) (hmid (U 67 ((8 * r.length) + 2)) (U 67 ((8 * r.length) + 4)))) rfl (Nat.le_of_ble_eq_true rfl) rfl dX10_flattenCubic_264 (kpI ?_)
            refine x_istore 20 [(20, .int (hmid (hmid (U 67 (8 * r.length)) (U 67 ((8 * r.length) + 2))) (hmid (U 67 ((8 * r.length) + 2)) (U 67 ((8 * r.length) + 4))))), (19, .int (hmid (U 67 ((8 * r.length) + 5)) (U 67 ((8 * r.length) + 7)))), (18, .int (hmid (U 67 ((8 * r.length) + 4)) (U 67 ((8 * r.length) + 6)))), (17, .int (hmid (U 67 ((8 * r.length) + 1)) (U 67 ((8 * r.length) + 3)))), (16, .int (hmid (U 67 (8 * r.length)) (U 67 ((8 * r.length) + 2)))), (15, .int (hmid (U 67 ((8 * r.length) + 3)) (U 67 ((8 * r.length) + 5)))), (14, .int (hmid (U 67 ((8 * r.length) + 2)) (U 67 ((8 * r.length) + 4)))), (13, .int 0), (12, .int (U 67 ((8 * r.length) + 7))), (11, .int (U 67 ((8 * r.length) + 6))), (10, .int (U 67 ((8 * r.length) + 5))), (9, .int (U 67 ((8 * r.length) + 4))), (8, .int (U 67 ((8 * r.length) + 3))), (7, .int (U 67 ((8 * r.length) + 2))), (6, .int (U 67 ((8 * r.length) + 1))), (5, .int (U 67 (8 * r.length))), (4, .int (nI h)), (3, .int (8 * (nI r.length))), (2, .int t), (0, .ref (g.2.1 49)), (1, .int (nI c))] dX10_flattenCubic_267 (by decide) rfl ?_
            refine x_iload dX10_flattenCubic_269 3 rfl ?_
            refine x_iload dX10_flattenCubic_271 5 rfl ?_
            refine x_callS (K := jX10_mid) [.int (hmid (U 67 ((8 * r.length) + 1)) (U 67 ((8 * r.length) + 3))), .int (hmid (U 67 ((8 * r.length) + 3)) (U 67 ((8 * r.length) + 5)))] lk_X10_231 ⟨⟨rfl, rfl⟩, Nat.le_of_ble_eq_true rfl, Nat.le_of_ble_eq_true rfl⟩ (mX10_mid U5 (hmid (U 67 ((8 * r.length) + 1)) (U 67 ((8 * r.length) + 3))) (hmid (U 67 ((8 * r.length) + 3)) (U 67 ((8 * r.length) + 5)))) rfl (Nat.le_of_ble_eq_true rfl) rfl dX10_flattenCubic_273 (kpI ?_)
            refine x_istore 21 [(21, .int (hmid (hmid (U 67 ((8 * r.length) + 1)) (U 67 ((8 * r.length) + 3))) (hmid (U 67 ((8 * r.length) + 3)) (U 67 ((8 * r.length) + 5))))), (20, .int (hmid (hmid (U 67 (8 * r.length)) (U 67 ((8 * r.length) + 2))) (hmid (U 67 ((8 * r.length) + 2)) (U 67 ((8 * r.length) + 4))))), (19, .int (hmid (U 67 ((8 * r.length) + 5)) (U 67 ((8 * r.length) + 7)))), (18, .int (hmid (U 67 ((8 * r.length) + 4)) (U 67 ((8 * r.length) + 6)))), (17, .int (hmid (U 67 ((8 * r.length) + 1)) (U 67 ((8 * r.length) + 3)))), (16, .int (hmid (U 67 (8 * r.length)) (U 67 ((8 * r.length) + 2)))), (15, .int (hmid (U 67 ((8 * r.length) + 3)) (U 67 ((8 * r.length) + 5)))), (14, .int (hmid (U 67 ((8 * r.length) + 2)) (U 67 ((8 * r.length) + 4)))), (13, .int 0), (12, .int (U 67 ((8 * r.length) + 7))), (11, .int (U 67 ((8 * r.length) + 6))), (10, .int (U 67 ((8 * r.length) + 5))), (9, .int (U 67 ((8 * r.length) + 4))), (8, .int (U 67 ((8 * r.length) + 3))), (7, .int (U 67 ((8 * r.length) + 2))), (6, .int (U 67 ((8 * r.length) + 1))), (5, .int (U 67 (8 * r.length))), (4, .int (nI h)), (3, .int (8 * (nI r.length))), (2, .int t), (0, .ref (g.2.1 49)), (1, .int (nI c))] dX10_flattenCubic_276 (by decide) rfl ?_
            refine x_iload dX10_flattenCubic_278 7 rfl ?_
            refine x_iload dX10_flattenCubic_280 3 rfl ?_
            refine x_callS (K := jX10_mid) [.int (hmid (U 67 ((8 * r.length) + 2)) (U 67 ((8 * r.length) + 4))), .int (hmid (U 67 ((8 * r.length) + 4)) (U 67 ((8 * r.length) + 6)))] lk_X10_231 ⟨⟨rfl, rfl⟩, Nat.le_of_ble_eq_true rfl, Nat.le_of_ble_eq_true rfl⟩ (mX10_mid U5 (hmid (U 67 ((8 * r.length) + 2)) (U 67 ((8 * r.length) + 4))) (hmid (U 67 ((8 * r.length) + 4)) (U 67 ((8 * r.length) + 6)))) rfl (Nat.le_of_ble_eq_true rfl) rfl dX10_flattenCubic_282 (kpI ?_)
            refine x_istore 22 [(22, .int (hmid (hmid (U 67 ((8 * r.length) + 2)) (U 67 ((8 * r.length) + 4))) (hmid (U 67 ((8 * r.length) + 4)) (U 67 ((8 * r.length) + 6))))), (21, .int (hmid (hmid (U 67 ((8 * r.length) + 1)) (U 67 ((8 * r.length) + 3))) (hmid (U 67 ((8 * r.length) + 3)) (U 67 ((8 * r.length) + 5))))), (20, .int (hmid (hmid (U 67 (8 * r.length)) (U 67 ((8 * r.length) + 2))) (hmid (U 67 ((8 * r.length) + 2)) (U 67 ((8 * r.length) + 4))))), (19, .int (hmid (U 67 ((8 * r.length) + 5)) (U 67 ((8 * r.length) + 7)))), (18, .int (hmid (U 67 ((8 * r.length) + 4)) (U 67 ((8 * r.length) + 6)))), (17, .int (hmid (U 67 ((8 * r.length) + 1)) (U 67 ((8 * r.length) + 3)))), (16, .int (hmid (U 67 (8 * r.length)) (U 67 ((8 * r.length) + 2)))), (15, .int (hmid (U 67 ((8 * r.length) + 3)) (U 67 ((8 * r.length) + 5)))), (14, .int (hmid (U 67 ((8 * r.length) + 2)) (U 67 ((8 * r.length) + 4)))), (13, .int 0), (12, .int (U 67 ((8 * r.length) + 7))), (11, .int (U 67 ((8 * r.length) + 6))), (10, .int (U 67 ((8 * r.length) + 5))), (9, .int (U 67 ((8 * r.length) + 4))), (8, .int (U 67 ((8 * r.length) + 3))), (7, .int (U 67 ((8 * r.length) + 2))), (6, .int (U 67 ((8 * r.length) + 1))), (5, .int (U 67 (8 * r.length))), (4, .int (nI h)), (3, .int (8 * (nI r.length))), (2, .int t), (0, .ref (g.2.1 49)), (1, .int (nI c))] dX10_flattenCubic_285 (by decide) rfl ?_
            refine x_iload dX10_flattenCubic_287 7 rfl ?_
            refine x_iload dX10_flattenCubic_289 3 rfl ?_
            refine x_callS (K := jX10_mid) [.int (hmid (U 67 ((8 * r.length) + 3)) (U 67 ((8 * r.length) + 5))), .int (hmid (U 67 ((8 * r.length) + 5)) (U 67 ((8 * r.length) + 7)))] lk_X10_231 ⟨⟨rfl, rfl⟩, Nat.le_of_ble_eq_true rfl, Nat.le_of_ble_eq_true rfl⟩ (mX10_mid U5 (hmid (U 67 ((8 * r.length) + 3)) (U 67 ((8 * r.length) + 5))) (hmid (U 67 ((8 * r.length) + 5)) (U 67 ((8 * r.length) + 7)))) rfl (Nat.le_of_ble_eq_true rfl) rfl dX10_flattenCubic_291 (kpI ?_)
            refine x_istore 23 [(23, .int (hmid (hmid (U 67 ((8 * r.length) + 3)) (U 67 ((8 * r.length) + 5))) (hmid (U 67 ((8 * r.length) + 5)) (U 67 ((8 * r.length) + 7))))), (22, .int (hmid (hmid (U 67 ((8 * r.length) + 2)) (U 67 ((8 * r.length) + 4))) (hmid (U 67 ((8 * r.length) + 4)) (U 67 ((8 * r.length) + 6))))), (21, .int (hmid (hmid (U 67 ((8 * r.length) + 1)) (U 67 ((8 * r.length) + 3))) (hmid (U 67 ((8 * r.length) + 3)) (U 67 ((8 * r.length) + 5))))), (20, .int (hmid (hmid (U 67 (8 * r.length)) (U 67 ((8 * r.length) + 2))) (hmid (U 67 ((8 * r.length) + 2)) (U 67 ((8 * r.length) + 4))))), (19, .int (hmid (U 67 ((8 * r.length) + 5)) (U 67 ((8 * r.length) + 7)))), (18, .int (hmid (U 67 ((8 * r.length) + 4)) (U 67 ((8 * r.length) + 6)))), (17, .int (hmid (U 67 ((8 * r.length) + 1)) (U 67 ((8 * r.length) + 3)))), (16, .int (hmid (U 67 (8 * r.length)) (U 67 ((8 * r.length) + 2)))), (15, .int (hmid (U 67 ((8 * r.length) + 3)) (U 67 ((8 * r.length) + 5)))), (14, .int (hmid (U 67 ((8 * r.length) + 2)) (U 67 ((8 * r.length) + 4)))), (13, .int 0), (12, .int (U 67 ((8 * r.length) + 7))), (11, .int (U 67 ((8 * r.length) + 6))), (10, .int (U 67 ((8 * r.length) + 5))), (9, .int (U 67 ((8 * r.length) + 4))), (8, .int (U 67 ((8 * r.length) + 3))), (7, .int (U 67 ((8 * r.length) + 2))), (6, .int (U 67 ((8 * r.length) + 1))), (5, .int (U 67 (8 * r.length))), (4, .int (nI h)), (3, .int (8 * (nI r.length))), (2, .int t), (0, .ref (g.2.1 49)), (1, .int (nI c))] dX10_flattenCubic_294 (by decide) rfl ?_
            refine x_iload dX10_flattenCubic_296 3 rfl ?_
            refine x_iload dX10_flattenCubic_298 1 rfl ?_
            refine x_callS (K := jX10_mid) [.int (hmid (hmid (U 67 (8 * r.length)) (U 67 ((8 * r.length) + 2))) (hmid (U 67 ((8 * r.length) + 2)) (U 67 ((8 * r.length) + 4)))), .int (hmid (hmid (U 67 ((8 * r.length) + 2)) (U 67 ((8 * r.length) + 4))) (hmid (U 67 ((8 * r.length) + 4)) (U 67 ((8 * r.length) + 6))))] lk_X10_231 ⟨⟨rfl, rfl⟩, Nat.le_of_ble_eq_true rfl, Nat.le_of_ble_eq_true rfl⟩ (mX10_mid U5 (hmid (hmid (U 67 (8 * r.length)) (U 67 ((8 * r.length) + 2))) (hmid (U 67 ((8 * r.length) + 2)) (U 67 ((8 * r.length) + 4)))) (hmid (hmid (U 67 ((8 * r.length) + 2)) (U 67 ((8 * r.length) + 4))) (hmid (U 67 ((8 * r.length) + 4)) (U 67 ((8 * r.length) + 6))))) rfl (Nat.le_of_ble_eq_true rfl) rfl dX10_flattenCubic_300 (kpI ?_)
            refine x_istore 24 [(24, .int (hmid (hmid (hmid (U 67 (8 * r.length)) (U 67 ((8 * r.length) + 2))) (hmid (U 67 ((8 * r.length) + 2)) (U 67 ((8 * r.length) + 4)))) (hmid (hmid (U 67 ((8 * r.length) + 2)) (U 67 ((8 * r.length) + 4))) (hmid (U 67 ((8 * r.length) + 4)) (U 67 ((8 * r.length) + 6)))))), (23, .int (hmid (hmid (U 67 ((8 * r.length) + 3)) (U 67 ((8 * r.length) + 5))) (hmid (U 67 ((8 * r.length) + 5)) (U 67 ((8 * r.length) + 7))))), (22, .int (hmid (hmid (U 67 ((8 * r.length) + 2)) (U 67 ((8 * r.length) + 4))) (hmid (U 67 ((8 * r.length) + 4)) (U 67 ((8 * r.length) + 6))))), (21, .int (hmid (hmid (U 67 ((8 * r.length) + 1)) (U 67 ((8 * r.length) + 3))) (hmid (U 67 ((8 * r.length) + 3)) (U 67 ((8 * r.length) + 5))))), (20, .int (hmid (hmid (U 67 (8 * r.length)) (U 67 ((8 * r.length) + 2))) (hmid (U 67 ((8 * r.length) + 2)) (U 67 ((8 * r.length) + 4))))), (19, .int (hmid (U 67 ((8 * r.length) + 5)) (U 67 ((8 * r.length) + 7)))), (18, .int (hmid (U 67 ((8 * r.length) + 4)) (U 67 ((8 * r.length) + 6)))), (17, .int (hmid (U 67 ((8 * r.length) + 1)) (U 67 ((8 * r.length) + 3)))), (16, .int (hmid (U 67 (8 * r.length)) (U 67 ((8 * r.length) + 2)))), (15, .int (hmid (U 67 ((8 * r.length) + 3)) (U 67 ((8 * r.length) + 5)))), (14, .int (hmid (U 67 ((8 * r.length) + 2)) (U 67 ((8 * r.length) + 4)))), (13, .int 0), (12, .int (U 67 ((8 * r.length) + 7))), (11, .int (U 67 ((8 * r.length) + 6))), (10, .int (U 67 ((8 * r.length) + 5))), (9, .int (U 67 ((8 * r.length) + 4))), (8, .int (U 67 ((8 * r.length) + 3))), (7, .int (U 67 ((8 * r.length) + 2))), (6, .int (U 67 ((8 * r.length) + 1))), (5, .int (U 67 (8 * r.length))), (4, .int (nI h)), (3, .int (8 * (nI r.length))), (2, .int t), (0, .ref (g.2.1 49)), (1, .int (nI c))] dX10_flattenCubic_303 (by decide) rfl ?_
            refine x_iload dX10_flattenCubic_305 3 rfl ?_
            refine x_iload dX10_flattenCubic_307 1 rfl ?_
            refine x_callS (K := jX10_mid) [.int (hmid (hmid (U 67 ((8 * r.length) + 1)) (U 67 ((8 * r.length) + 3))) (hmid (U 67 ((8 * r.length) + 3)) (U 67 ((8 * r.length) + 5)))), .int (hmid (hmid (U 67 ((8 * r.length) + 3)) (U 67 ((8 * r.length) + 5))) (hmid (U 67 ((8 * r.length) + 5)) (U 67 ((8 * r.length) + 7))))] lk_X10_231 ⟨⟨rfl, rfl⟩, Nat.le_of_ble_eq_true rfl, Nat.le_of_ble_eq_true rfl⟩ (mX10_mid U5 (hmid (hmid (U 67 ((8 * r.length) + 1)) (U 67 ((8 * r.length) + 3))) (hmid (U 67 ((8 * r.length) + 3)) (U 67 ((8 * r.length) + 5)))) (hmid (hmid (U 67 ((8 * r.length) + 3)) (U 67 ((8 * r.length) + 5))) (hmid (U 67 ((8 * r.length) + 5)) (U 67 ((8 * r.length) + 7))))) rfl (Nat.le_of_ble_eq_true rfl) rfl dX10_flattenCubic_309 (kpI ?_)
            refine x_istore 25 [(25, .int (hmid (hmid (hmid (U 67 ((8 * r.length) + 1)) (U 67 ((8 * r.length) + 3))) (hmid (U 67 ((8 * r.length) + 3)) (U 67 ((8 * r.length) + 5)))) (hmid (hmid (U 67 ((8 * r.length) + 3)) (U 67 ((8 * r.length) + 5))) (hmid (U 67 ((8 * r.length) + 5)) (U 67 ((8 * r.length) + 7)))))), (24, .int (hmid (hmid (hmid (U 67 (8 * r.length)) (U 67 ((8 * r.length) + 2))) (hmid (U 67 ((8 * r.length) + 2)) (U 67 ((8 * r.length) + 4)))) (hmid (hmid (U 67 ((8 * r.length) + 2)) (U 67 ((8 * r.length) + 4))) (hmid (U 67 ((8 * r.length) + 4)) (U 67 ((8 * r.length) + 6)))))), (23, .int (hmid (hmid (U 67 ((8 * r.length) + 3)) (U 67 ((8 * r.length) + 5))) (hmid (U 67 ((8 * r.length) + 5)) (U 67 ((8 * r.length) + 7))))), (22, .int (hmid (hmid (U 67 ((8 * r.length) + 2)) (U 67 ((8 * r.length) + 4))) (hmid (U 67 ((8 * r.length) + 4)) (U 67 ((8 * r.length) + 6))))), (21, .int (hmid (hmid (U 67 ((8 * r.length) + 1)) (U 67 ((8 * r.length) + 3))) (hmid (U 67 ((8 * r.length) + 3)) (U 67 ((8 * r.length) + 5))))), (20, .int (hmid (hmid (U 67 (8 * r.length)) (U 67 ((8 * r.length) + 2))) (hmid (U 67 ((8 * r.length) + 2)) (U 67 ((8 * r.length) + 4))))), (19, .int (hmid (U 67 ((8 * r.length) + 5)) (U 67 ((8 * r.length) + 7)))), (18, .int (hmid (U 67 ((8 * r.length) + 4)) (U 67 ((8 * r.length) + 6)))), (17, .int (hmid (U 67 ((8 * r.length) + 1)) (U 67 ((8 * r.length) + 3)))), (16, .int (hmid (U 67 (8 * r.length)) (U 67 ((8 * r.length) + 2)))), (15, .int (hmid (U 67 ((8 * r.length) + 3)) (U 67 ((8 * r.length) + 5)))), (14, .int (hmid (U 67 ((8 * r.length) + 2)) (U 67 ((8 * r.length) + 4)))), (13, .int 0), (12, .int (U 67 ((8 * r.length) + 7))), (11, .int (U 67 ((8 * r.length) + 6))), (10, .int (U 67 ((8 * r.length) + 5))), (9, .int (U 67 ((8 * r.length) + 4))), (8, .int (U 67 ((8 * r.length) + 3))), (7, .int (U 67 ((8 * r.length) + 2))), (6, .int (U 67 ((8 * r.length) + 1))), (5, .int (U 67 (8 * r.length))), (4, .int (nI h)), (3, .int (8 * (nI r.length))), (2, .int t), (0, .ref (g.2.1 49)), (1, .int (nI c))] dX10_flattenCubic_312 (by decide) rfl ?_
            refine x_aload_n dX10_flattenCubic_314 24 rfl ?_
            refine x_iload dX10_flattenCubic_315 21 rfl ?_
            refine x_iconst (v := 1) dX10_flattenCubic_317 (by decide) ?_
            refine x_iadd dX10_flattenCubic_318 ?_
            refine x_iload dX10_flattenCubic_319 1 rfl ?_
            refine x_iload dX10_flattenCubic_321 0 rfl ?_
            refine x_iload dX10_flattenCubic_323 3 rfl ?_
            refine x_iload dX10_flattenCubic_325 2 rfl ?_
            refine x_iload dX10_flattenCubic_327 7 rfl ?_
            refine x_iload dX10_flattenCubic_329 6 rfl ?_
            refine x_iload dX10_flattenCubic_331 14 rfl ?_
            refine x_iload dX10_flattenCubic_333 13 rfl ?_
            have hp1 : U5 49 38 = nI r.length := by rw [eU5, uM_hit]
            refine x_callV (K := jX10_push) [.int ((nI h) + 1), .int (hmid (hmid (hmid (U 67 (8 * r.length)) (U 67 ((8 * r.length) + 2))) (hmid (U 67 ((8 * r.length) + 2)) (U 67 ((8 * r.length) + 4)))) (hmid (hmid (U 67 ((8 * r.length) + 2)) (U 67 ((8 * r.length) + 4))) (hmid (U 67 ((8 * r.length) + 4)) (U 67 ((8 * r.length) + 6))))), .int (hmid (hmid (hmid (U 67 ((8 * r.length) + 1)) (U 67 ((8 * r.length) + 3))) (hmid (U 67 ((8 * r.length) + 3)) (U 67 ((8 * r.length) + 5)))) (hmid (hmid (U 67 ((8 * r.length) + 3)) (U 67 ((8 * r.length) + 5))) (hmid (U 67 ((8 * r.length) + 5)) (U 67 ((8 * r.length) + 7))))), .int (hmid (hmid (U 67 ((8 * r.length) + 2)) (U 67 ((8 * r.length) + 4))) (hmid (U 67 ((8 * r.length) + 4)) (U 67 ((8 * r.length) + 6)))), .int (hmid (hmid (U 67 ((8 * r.length) + 3)) (U 67 ((8 * r.length) + 5))) (hmid (U 67 ((8 * r.length) + 5)) (U 67 ((8 * r.length) + 7)))), .int (hmid (U 67 ((8 * r.length) + 4)) (U 67 ((8 * r.length) + 6))), .int (hmid (U 67 ((8 * r.length) + 5)) (U 67 ((8 * r.length) + 7))), .int (U 67 ((8 * r.length) + 6)), .int (U 67 ((8 * r.length) + 7))] lk_X10_235 ⟨⟨rfl, rfl⟩, Nat.le_of_ble_eq_true rfl, Nat.le_of_ble_eq_true rfl⟩ rfl rfl (mX10_push U5 (m := r.length) hp1 (by omega) ((nI h) + 1) (hmid (hmid (hmid (U 67 (8 * r.length)) (U 67 ((8 * r.length) + 2))) (hmid (U 67 ((8 * r.length) + 2)) (U 67 ((8 * r.length) + 4)))) (hmid (hmid (U 67 ((8 * r.length) + 2)) (U 67 ((8 * r.length) + 4))) (hmid (U 67 ((8 * r.length) + 4)) (U 67 ((8 * r.length) + 6))))) (hmid (hmid (hmid (U 67 ((8 * r.length) + 1)) (U 67 ((8 * r.length) + 3))) (hmid (U 67 ((8 * r.length) + 3)) (U 67 ((8 * r.length) + 5)))) (hmid (hmid (U 67 ((8 * r.length) + 3)) (U 67 ((8 * r.length) + 5))) (hmid (U 67 ((8 * r.length) + 5)) (U 67 ((8 * r.length) + 7))))) (hmid (hmid (U 67 ((8 * r.length) + 2)) (U 67 ((8 * r.length) + 4))) (hmid (U 67 ((8 * r.length) + 4)) (U 67 ((8 * r.length) + 6)))) (hmid (hmid (U 67 ((8 * r.length) + 3)) (U 67 ((8 * r.length) + 5))) (hmid (U 67 ((8 * r.length) + 5)) (U 67 ((8 * r.length) + 7)))) (hmid (U 67 ((8 * r.length) + 4)) (U 67 ((8 * r.length) + 6))) (hmid (U 67 ((8 * r.length) + 5)) (U 67 ((8 * r.length) + 7))) (U 67 ((8 * r.length) + 6)) (U 67 ((8 * r.length) + 7))) rfl (Nat.le_of_ble_eq_true rfl) rfl dX10_flattenCubic_335 (kdV ?_)
            obtain ⟨U27, eU27⟩ : ∃ v_v : vM, v_v = mpush U5 r.length ((nI h) + 1) (hmid (hmid (hmid (U 67 (8 * r.length)) (U 67 ((8 * r.length) + 2))) (hmid (U 67 ((8 * r.length) + 2)) (U 67 ((8 * r.length) + 4)))) (hmid (hmid (U 67 ((8 * r.length) + 2)) (U 67 ((8 * r.length) + 4))) (hmid (U 67 ((8 * r.length) + 4)) (U 67 ((8 * r.length) + 6))))) (hmid (hmid (hmid (U 67 ((8 * r.length) + 1)) (U 67 ((8 * r.length) + 3))) (hmid (U 67 ((8 * r.length) + 3)) (U 67 ((8 * r.length) + 5)))) (hmid (hmid (U 67 ((8 * r.length) + 3)) (U 67 ((8 * r.length) + 5))) (hmid (U 67 ((8 * r.length) + 5)) (U 67 ((8 * r.length) + 7))))) (hmid (hmid (U 67 ((8 * r.length) + 2)) (U 67 ((8 * r.length) + 4))) (hmid (U 67 ((8 * r.length) + 4)) (U 67 ((8 * r.length) + 6)))) (hmid (hmid (U 67 ((8 * r.length) + 3)) (U 67 ((8 * r.length) + 5))) (hmid (U 67 ((8 * r.length) + 5)) (U 67 ((8 * r.length) + 7)))) (hmid (U 67 ((8 * r.length) + 4)) (U 67 ((8 * r.length) + 6))) (hmid (U 67 ((8 * r.length) + 5)) (U 67 ((8 * r.length) + 7))) (U 67 ((8 * r.length) + 6)) (U 67 ((8 * r.length) + 7)) := ⟨_, rfl⟩
            refine YY.V eU27.symm ?_
            have hp2 : U27 49 38 = nI (r.length + 1) := by rw [eU27]; exact mpush_p.2.2.2.2.2.2.2.2.2
            refine x_aload_n dX10_flattenCubic_338 24 rfl ?_
            refine x_iload dX10_flattenCubic_339 21 rfl ?_
            refine x_iconst (v := 1) dX10_flattenCubic_341 (by decide) ?_
            refine x_iadd dX10_flattenCubic_342 ?_
            refine x_iload dX10_flattenCubic_343 20 rfl ?_
            refine x_iload dX10_flattenCubic_345 19 rfl ?_
            refine x_iload dX10_flattenCubic_347 9 rfl ?_
            refine x_iload dX10_flattenCubic_349 8 rfl ?_
            refine x_iload dX10_flattenCubic_351 5 rfl ?_
            refine x_iload dX10_flattenCubic_353 4 rfl ?_
            refine x_iload dX10_flattenCubic_355 1 rfl ?_
            refine x_iload dX10_flattenCubic_357 0 rfl ?_
            refine x_callV (K := jX10_push) [.int ((nI h) + 1), .int (U 67 (8 * r.length)), .int (U 67 ((8 * r.length) + 1)), .int (hmid (U 67 (8 * r.length)) (U 67 ((8 * r.length) + 2))), .int (hmid (U 67 ((8 * r.length) + 1)) (U 67 ((8 * r.length) + 3))), .int (hmid (hmid (U 67 (8 * r.length)) (U 67 ((8 * r.length) + 2))) (hmid (U 67 ((8 * r.length) + 2)) (U 67 ((8 * r.length) + 4)))), .int (hmid (hmid (U 67 ((8 * r.length) + 1)) (U 67 ((8 * r.length) + 3))) (hmid (U 67 ((8 * r.length) + 3)) (U 67 ((8 * r.length) + 5)))), .int (hmid (hmid (hmid (U 67 (8 * r.length)) (U 67 ((8 * r.length) + 2))) (hmid (U 67 ((8 * r.length) + 2)) (U 67 ((8 * r.length) + 4)))) (hmid (hmid (U 67 ((8 * r.length) + 2)) (U 67 ((8 * r.length) + 4))) (hmid (U 67 ((8 * r.length) + 4)) (U 67 ((8 * r.length) + 6))))), .int (hmid (hmid (hmid (U 67 ((8 * r.length) + 1)) (U 67 ((8 * r.length) + 3))) (hmid (U 67 ((8 * r.length) + 3)) (U 67 ((8 * r.length) + 5)))) (hmid (hmid (U 67 ((8 * r.length) + 3)) (U 67 ((8 * r.length) + 5))) (hmid (U 67 ((8 * r.length) + 5)) (U 67 ((8 * r.length) + 7)))))] lk_X10_235 ⟨⟨rfl, rfl⟩, Nat.le_of_ble_eq_true rfl, Nat.le_of_ble_eq_true rfl⟩ rfl rfl (mX10_push U27 (m := (r.length + 1)) hp2 (by omega) ((nI h) + 1) (U 67 (8 * r.length)) (U 67 ((8 * r.length) + 1)) (hmid (U 67 (8 * r.length)) (U 67 ((8 * r.length) + 2))) (hmid (U 67 ((8 * r.length) + 1)) (U 67 ((8 * r.length) + 3))) (hmid (hmid (U 67 (8 * r.length)) (U 67 ((8 * r.length) + 2))) (hmid (U 67 ((8 * r.length) + 2)) (U 67 ((8 * r.length) + 4)))) (hmid (hmid (U 67 ((8 * r.length) + 1)) (U 67 ((8 * r.length) + 3))) (hmid (U 67 ((8 * r.length) + 3)) (U 67 ((8 * r.length) + 5)))) (hmid (hmid (hmid (U 67 (8 * r.length)) (U 67 ((8 * r.length) + 2))) (hmid (U 67 ((8 * r.length) + 2)) (U 67 ((8 * r.length) + 4)))) (hmid (hmid (U 67 ((8 * r.length) + 2)) (U 67 ((8 * r.length) + 4))) (hmid (U 67 ((8 * r.length) + 4)) (U 67 ((8 * r.length) + 6))))) (hmid (hmid (hmid (U 67 ((8 * r.length) + 1)) (U 67 ((8 * r.length) + 3))) (hmid (U 67 ((8 * r.length) + 3)) (U 67 ((8 * r.length) + 5)))) (hmid (hmid (U 67 ((8 * r.length) + 3)) (U 67 ((8 * r.length) + 5))) (hmid (U 67 ((8 * r.length) + 5)) (U 67 ((8 * r.length) + 7)))))) rfl (Nat.le_of_ble_eq_true rfl) rfl dX10_flattenCubic_359 (kdV ?_)
            obtain ⟨U28, eU28⟩ : ∃ v_v : vM, v_v = mpush U27 (r.length + 1) ((nI h) + 1) (U 67 (8 * r.length)) (U 67 ((8 * r.length) + 1)) (hmid (U 67 (8 * r.length)) (U 67 ((8 * r.length) + 2))) (hmid (U 67 ((8 * r.length) + 1)) (U 67 ((8 * r.length) + 3))) (hmid (hmid (U 67 (8 * r.length)) (U 67 ((8 * r.length) + 2))) (hmid (U 67 ((8 * r.length) + 2)) (U 67 ((8 * r.length) + 4)))) (hmid (hmid (U 67 ((8 * r.length) + 1)) (U 67 ((8 * r.length) + 3))) (hmid (U 67 ((8 * r.length) + 3)) (U 67 ((8 * r.length) + 5)))) (hmid (hmid (hmid (U 67 (8 * r.length)) (U 67 ((8 * r.length) + 2))) (hmid (U 67 ((8 * r.length) + 2)) (U 67 ((8 * r.length) + 4)))) (hmid (hmid (U 67 ((8 * r.length) + 2)) (U 67 ((8 * r.length) + 4))) (hmid (U 67 ((8 * r.length) + 4)) (U 67 ((8 * r.length) + 6))))) (hmid (hmid (hmid (U 67 ((8 * r.length) + 1)) (U 67 ((8 * r.length) + 3))) (hmid (U 67 ((8 * r.length) + 3)) (U 67 ((8 * r.length) + 5)))) (hmid (hmid (U 67 ((8 * r.length) + 3)) (U 67 ((8 * r.length) + 5))) (hmid (U 67 ((8 * r.length) + 5)) (U 67 ((8 * r.length) + 7))))) := ⟨_, rfl⟩
            refine YY.V eU28.symm ?_
            refine x_goto 9 dX10_flattenCubic_362 (by decide) ?_
            refine x_lv [23, 24, 25] rfl ?_
            exact ih ((h + 1, hA 3 p) :: (h + 1, hB 3 p) :: r) S U28 (by refine AM_split (l := 3) (q := (fun k => U 67 (8 * r.length + k))) (by omega) hAM (by omega) rfl (by unfold flt; rw [if_neg (by decide)]; first | exact fun z => absurd z.1 (by (first | assumption | exact Int32.not_lt.mp (by assumption) | exact Int32.not_le.mpr (by assumption))) | exact fun z => absurd z.2 (by (first | assumption | exact Int32.not_lt.mp (by assumption) | exact Int32.not_le.mpr (by assumption)))) (y6 := hB 3 (fun k => U 67 (8 * r.length + k)) 6) (y7 := hB 3 (fun k => U 67 (8 * r.length + k)) 7) (z6 := hA 3 (fun k => U 67 (8 * r.length + k)) 6) (z7 := hA 3 (fun k => U 67 (8 * r.length + k)) 7) (fun _ => ⟨rfl, rfl⟩) (fun _ => ⟨rfl, rfl⟩) ?_; subst_vars; simp only [nI_1]; rfl) (by first | exact Nat.lt_of_lt_of_le (snd7_leaf h p r (by omega)) (by omega) | exact Nat.lt_of_lt_of_le (snd7_split h p _ _ r (by omega)) (by omega))
        · refine x_iload dX10_flattenCubic_150 5 rfl ?_
          refine x_iload dX10_flattenCubic_152 3 rfl ?_
          refine x_iload dX10_flattenCubic_154 1 rfl ?_
          refine x_callS (K := jX10_bend) [.int (U 67 ((8 * r.length) + 2)), .int (U 67 ((8 * r.length) + 4)), .int (U 67 ((8 * r.length) + 6))] lk_X10_223 ⟨⟨rfl, rfl⟩, Nat.le_of_ble_eq_true rfl, Nat.le_of_ble_eq_true rfl⟩ (mX10_bend U5 (U 67 ((8 * r.length) + 2)) (U 67 ((8 * r.length) + 4)) (U 67 ((8 * r.length) + 6))) rfl (Nat.le_of_ble_eq_true rfl) rfl dX10_flattenCubic_156 (kpI ?_)
          refine x_iload dX10_flattenCubic_159 4 rfl ?_
          refine x_iload dX10_flattenCubic_161 2 rfl ?_
          refine x_iload dX10_flattenCubic_163 0 rfl ?_
          refine x_callS (K := jX10_bend) [.int (U 67 ((8 * r.length) + 3)), .int (U 67 ((8 * r.length) + 5)), .int (U 67 ((8 * r.length) + 7))] lk_X10_223 ⟨⟨rfl, rfl⟩, Nat.le_of_ble_eq_true rfl, Nat.le_of_ble_eq_true rfl⟩ (mX10_bend U5 (U 67 ((8 * r.length) + 3)) (U 67 ((8 * r.length) + 5)) (U 67 ((8 * r.length) + 7))) rfl (Nat.le_of_ble_eq_true rfl) rfl dX10_flattenCubic_165 (kpI ?_)
          refine x_iadd dX10_flattenCubic_168 ?_
          refine x_iconst (v := 2) dX10_flattenCubic_169 (by decide) ?_
          refine x_iload_n dX10_flattenCubic_170 10 rfl ?_
          refine x_imul dX10_flattenCubic_171 ?_
          refine x_icmp_gt 179 dX10_flattenCubic_172 (by decide) (fun c29 => ?_) (fun c29 => ?_)
          · refine x_iconst (v := 0) dX10_flattenCubic_179 (by decide) ?_
            refine x_istore 13 [(13, .int 0), (12, .int (U 67 ((8 * r.length) + 7))), (11, .int (U 67 ((8 * r.length) + 6))), (10, .int (U 67 ((8 * r.length) + 5))), (9, .int (U 67 ((8 * r.length) + 4))), (8, .int (U 67 ((8 * r.length) + 3))), (7, .int (U 67 ((8 * r.length) + 2))), (6, .int (U 67 ((8 * r.length) + 1))), (5, .int (U 67 (8 * r.length))), (4, .int (nI h)), (3, .int (8 * (nI r.length))), (2, .int t), (0, .ref (g.2.1 49)), (1, .int (nI c))] dX10_flattenCubic_180 (by decide) rfl ?_
            refine x_iload dX10_flattenCubic_182 9 rfl ?_
            refine x_bipush (v := 6) dX10_flattenCubic_184 (by decide) ?_
            refine x_icmp_eq 194 dX10_flattenCubic_186 (by decide) (fun c30 => ?_) (fun c30 => ?_)
            · have c30n : h = 6 := (nl_eq (a := h) (b := 6) (rfl) (rfl) (by omega) (by omega)).mp c30
              refine x_aload_n dX10_flattenCubic_194 12 rfl ?_
              refine x_iload_n dX10_flattenCubic_195 13 rfl ?_
              refine x_iload dX10_flattenCubic_196 2 rfl ?_
              refine x_iload dX10_flattenCubic_198 1 rfl ?_
              have hF1 : FRM U5 S (c + 1) := by rw [eU5]; exact hAM.2.2.2.2.1.kept (uM_ni (by decide)) (uM_ni (by decide)) (fun a i q => uM_na (by omega))
              have hxr : inR (U 67 ((8 * r.length) + 6)) ∧ inR (U 67 ((8 * r.length) + 7)) := ⟨by rw [s2 6 (by omega)]; exact g1 _ (by omega), by rw [s2 7 (by omega)]; exact g1 _ (by omega)⟩
              refine x_callV (K := jX10_addVertex) [.int (nI c), .int (U 67 ((8 * r.length) + 6)), .int (U 67 ((8 * r.length) + 7))] lk_X10_227 ⟨⟨rfl, rfl⟩, Nat.le_of_ble_eq_true rfl, Nat.le_of_ble_eq_true rfl⟩ rfl rfl (mX10_addVertexS hF1 hAM.2.2.2.2.2.1 hAM.2.2.2.2.2.2.1 (by have := hAM.2.2.2.2.2.2.2.2.1; omega) c hc hxr.1 hxr.2) rfl (Nat.le_of_ble_eq_true rfl) rfl dX10_flattenCubic_200 (kdV ?_)
              obtain ⟨U31, eU31⟩ : ∃ v_v : vM, v_v = mavV U5 S c (U 67 ((8 * r.length) + 6)) (U 67 ((8 * r.length) + 7)) := ⟨_, rfl⟩
              refine YY.V eU31.symm ?_
              refine x_goto 362 dX10_flattenCubic_203 (by decide) ?_
              refine x_goto 9 dX10_flattenCubic_362 (by decide) ?_
              refine x_lv [11, 12, 13] rfl ?_
              exact ih r (fadd S c (U 67 (8 * r.length + 6)) (U 67 (8 * r.length + 7))) U31 (by exact AM_leaf (l := 3) (by omega) hAM (by first | exact Or.inl (by omega) | exact Or.inr (by unfold flt; rw [if_neg (by decide)]; exact ⟨by (first | assumption | exact Int32.not_lt.mp (by assumption) | exact Int32.not_le.mpr (by assumption)), by (first | assumption | exact Int32.not_lt.mp (by assumption) | exact Int32.not_le.mpr (by assumption))⟩)) (by subst_vars; rfl)) (by first | exact Nat.lt_of_lt_of_le (snd7_leaf h p r (by omega)) (by omega) | exact Nat.lt_of_lt_of_le (snd7_split h p _ _ r (by omega)) (by omega))
            · have c30n : ¬ h = 6 := fun q => c30 ((nl_eq (a := h) (b := 6) (rfl) (rfl) (by omega) (by omega)).mpr q)
              refine x_iload dX10_flattenCubic_189 0 rfl ?_
              refine x_if_eq 206 dX10_flattenCubic_191 (by decide) (fun c32 => ?_) (fun c32 => by exfalso; revert c32; decide)
              refine x_iload dX10_flattenCubic_206 6 rfl ?_
              refine x_iload dX10_flattenCubic_208 4 rfl ?_
              refine x_callS (K := jX10_mid) [.int (U 67 ((8 * r.length) + 2)), .int (U 67 ((8 * r.length) + 4))] lk_X10_231 ⟨⟨rfl, rfl⟩, Nat.le_of_ble_eq_true rfl, Nat.le_of_ble_eq_true rfl⟩ (mX10_mid U5 (U 67 ((8 * r.length) + 2)) (U 67 ((8 * r.length) + 4))) rfl (Nat.le_of_ble_eq_true rfl) rfl dX10_flattenCubic_210 (kpI ?_)
              refine x_istore 14 [(14, .int (hmid (U 67 ((8 * r.length) + 2)) (U 67 ((8 * r.length) + 4)))), (13, .int 0), (12, .int (U 67 ((8 * r.length) + 7))), (11, .int (U 67 ((8 * r.length) + 6))), (10, .int (U 67 ((8 * r.length) + 5))), (9, .int (U 67 ((8 * r.length) + 4))), (8, .int (U 67 ((8 * r.length) + 3))), (7, .int (U 67 ((8 * r.length) + 2))), (6, .int (U 67 ((8 * r.length) + 1))), (5, .int (U 67 (8 * r.length))), (4, .int (nI h)), (3, .int (8 * (nI r.length))), (2, .int t), (0, .ref (g.2.1 49)), (1, .int (nI c))] dX10_flattenCubic_213 (by decide) rfl ?_
              refine x_iload dX10_flattenCubic_215 6 rfl ?_
              refine x_iload dX10_flattenCubic_217 4 rfl ?_
              refine x_callS (K := jX10_mid) [.int (U 67 ((8 * r.length) + 3)), .int (U 67 ((8 * r.length) + 5))] lk_X10_231 ⟨⟨rfl, rfl⟩, Nat.le_of_ble_eq_true rfl, Nat.le_of_ble_eq_true rfl⟩ (mX10_mid U5 (U 67 ((8 * r.length) + 3)) (U 67 ((8 * r.length) + 5))) rfl (Nat.le_of_ble_eq_true rfl) rfl dX10_flattenCubic_219 (kpI ?_)
              refine x_istore 15 [(15, .int (hmid (U 67 ((8 * r.length) + 3)) (U 67 ((8 * r.length) + 5)))), (14, .int (hmid (U 67 ((8 * r.length) + 2)) (U 67 ((8 * r.length) + 4)))), (13, .int 0), (12, .int (U 67 ((8 * r.length) + 7))), (11, .int (U 67 ((8 * r.length) + 6))), (10, .int (U 67 ((8 * r.length) + 5))), (9, .int (U 67 ((8 * r.length) + 4))), (8, .int (U 67 ((8 * r.length) + 3))), (7, .int (U 67 ((8 * r.length) + 2))), (6, .int (U 67 ((8 * r.length) + 1))), (5, .int (U 67 (8 * r.length))), (4, .int (nI h)), (3, .int (8 * (nI r.length))), (2, .int t), (0, .ref (g.2.1 49)), (1, .int (nI c))] dX10_flattenCubic_222 (by decide) rfl ?_
              refine x_iload dX10_flattenCubic_224 10 rfl ?_
              refine x_iload dX10_flattenCubic_226 8 rfl ?_
              refine x_callS (K := jX10_mid) [.int (U 67 (8 * r.length)), .int (U 67 ((8 * r.length) + 2))] lk_X10_231 ⟨⟨rfl, rfl⟩, Nat.le_of_ble_eq_true rfl, Nat.le_of_ble_eq_true rfl⟩ (mX10_mid U5 (U 67 (8 * r.length)) (U 67 ((8 * r.length) + 2))) rfl (Nat.le_of_ble_eq_true rfl) rfl dX10_flattenCubic_228 (kpI ?_)
              refine x_istore 16 [(16, .int (hmid (U 67 (8 * r.length)) (U 67 ((8 * r.length) + 2)))), (15, .int (hmid (U 67 ((8 * r.length) + 3)) (U 67 ((8 * r.length) + 5)))), (14, .int (hmid (U 67 ((8 * r.length) + 2)) (U 67 ((8 * r.length) + 4)))), (13, .int 0), (12, .int (U 67 ((8 * r.length) + 7))), (11, .int (U 67 ((8 * r.length) + 6))), (10, .int (U 67 ((8 * r.length) + 5))), (9, .int (U 67 ((8 * r.length) + 4))), (8, .int (U 67 ((8 * r.length) + 3))), (7, .int (U 67 ((8 * r.length) + 2))), (6, .int (U 67 ((8 * r.length) + 1))), (5, .int (U 67 (8 * r.length))), (4, .int (nI h)), (3, .int (8 * (nI r.length))), (2, .int t), (0, .ref (g.2.1 49)), (1, .int (nI c))] dX10_flattenCubic_231 (by decide) rfl ?_
              refine x_iload dX10_flattenCubic_233 10 rfl ?_
              refine x_iload dX10_flattenCubic_235 8 rfl ?_
              refine x_callS (K := jX10_mid) [.int (U 67 ((8 * r.length) + 1)), .int (U 67 ((8 * r.length) + 3))] lk_X10_231 ⟨⟨rfl, rfl⟩, Nat.le_of_ble_eq_true rfl, Nat.le_of_ble_eq_true rfl⟩ (mX10_mid U5 (U 67 ((8 * r.length) + 1)) (U 67 ((8 * r.length) + 3))) rfl (Nat.le_of_ble_eq_true rfl) rfl dX10_flattenCubic_237 (kpI ?_)
              refine x_istore 17 [(17, .int (hmid (U 67 ((8 * r.length) + 1)) (U 67 ((8 * r.length) + 3)))), (16, .int (hmid (U 67 (8 * r.length)) (U 67 ((8 * r.length) + 2)))), (15, .int (hmid (U 67 ((8 * r.length) + 3)) (U 67 ((8 * r.length) + 5)))), (14, .int (hmid (U 67 ((8 * r.length) + 2)) (U 67 ((8 * r.length) + 4)))), (13, .int 0), (12, .int (U 67 ((8 * r.length) + 7))), (11, .int (U 67 ((8 * r.length) + 6))), (10, .int (U 67 ((8 * r.length) + 5))), (9, .int (U 67 ((8 * r.length) + 4))), (8, .int (U 67 ((8 * r.length) + 3))), (7, .int (U 67 ((8 * r.length) + 2))), (6, .int (U 67 ((8 * r.length) + 1))), (5, .int (U 67 (8 * r.length))), (4, .int (nI h)), (3, .int (8 * (nI r.length))), (2, .int t), (0, .ref (g.2.1 49)), (1, .int (nI c))] dX10_flattenCubic_240 (by decide) rfl ?_
              refine x_iload dX10_flattenCubic_242 8 rfl ?_
              refine x_iload dX10_flattenCubic_244 6 rfl ?_
              refine x_callS (K := jX10_mid) [.int (U 67 ((8 * r.length) + 4)), .int (U 67 ((8 * r.length) + 6))] lk_X10_231 ⟨⟨rfl, rfl⟩, Nat.le_of_ble_eq_true rfl, Nat.le_of_ble_eq_true rfl⟩ (mX10_mid U5 (U 67 ((8 * r.length) + 4)) (U 67 ((8 * r.length) + 6))) rfl (Nat.le_of_ble_eq_true rfl) rfl dX10_flattenCubic_246 (kpI ?_)
              refine x_istore 18 [(18, .int (hmid (U 67 ((8 * r.length) + 4)) (U 67 ((8 * r.length) + 6)))), (17, .int (hmid (U 67 ((8 * r.length) + 1)) (U 67 ((8 * r.length) + 3)))), (16, .int (hmid (U 67 (8 * r.length)) (U 67 ((8 * r.length) + 2)))), (15, .int (hmid (U 67 ((8 * r.length) + 3)) (U 67 ((8 * r.length) + 5)))), (14, .int (hmid (U 67 ((8 * r.length) + 2)) (U 67 ((8 * r.length) + 4)))), (13, .int 0), (12, .int (U 67 ((8 * r.length) + 7))), (11, .int (U 67 ((8 * r.length) + 6))), (10, .int (U 67 ((8 * r.length) + 5))), (9, .int (U 67 ((8 * r.length) + 4))), (8, .int (U 67 ((8 * r.length) + 3))), (7, .int (U 67 ((8 * r.length) + 2))), (6, .int (U 67 ((8 * r.length) + 1))), (5, .int (U 67 (8 * r.length))), (4, .int (nI h)), (3, .int (8 * (nI r.length))), (2, .int t), (0, .ref (g.2.1 49)), (1, .int (nI c))] dX10_flattenCubic_249 (by decide) rfl ?_
              refine x_iload dX10_flattenCubic_251 8 rfl ?_
              refine x_iload dX10_flattenCubic_253 6 rfl ?_
              refine x_callS (K := jX10_mid) [.int (U 67 ((8 * r.length) + 5)), .int (U 67 ((8 * r.length) + 7))] lk_X10_231 ⟨⟨rfl, rfl⟩, Nat.le_of_ble_eq_true rfl, Nat.le_of_ble_eq_true rfl⟩ (mX10_mid U5 (U 67 ((8 * r.length) + 5)) (U 67 ((8 * r.length) + 7))) rfl (Nat.le_of_ble_eq_true rfl) rfl dX10_flattenCubic_255 (kpI ?_)
              refine x_istore 19 [(19, .int (hmid (U 67 ((8 * r.length) + 5)) (U 67 ((8 * r.length) + 7)))), (18, .int (hmid (U 67 ((8 * r.length) + 4)) (U 67 ((8 * r.length) + 6)))), (17, .int (hmid (U 67 ((8 * r.length) + 1)) (U 67 ((8 * r.length) + 3)))), (16, .int (hmid (U 67 (8 * r.length)) (U 67 ((8 * r.length) + 2)))), (15, .int (hmid (U 67 ((8 * r.length) + 3)) (U 67 ((8 * r.length) + 5)))), (14, .int (hmid (U 67 ((8 * r.length) + 2)) (U 67 ((8 * r.length) + 4)))), (13, .int 0), (12, .int (U 67 ((8 * r.length) + 7))), (11, .int (U 67 ((8 * r.length) + 6))), (10, .int (U 67 ((8 * r.length) + 5))), (9, .int (U 67 ((8 * r.length) + 4))), (8, .int (U 67 ((8 * r.length) + 3))), (7, .int (U 67 ((8 * r.length) + 2))), (6, .int (U 67 ((8 * r.length) + 1))), (5, .int (U 67 (8 * r.length))), (4, .int (nI h)), (3, .int (8 * (nI r.length))), (2, .int t), (0, .ref (g.2.1 49)), (1, .int (nI c))] dX10_flattenCubic_258 (by decide) rfl ?_
              refine x_iload dX10_flattenCubic_260 3 rfl ?_
              refine x_iload dX10_flattenCubic_262 5 rfl ?_
              refine x_callS (K := jX10_mid) [.int (hmid (U 67 (8 * r.length)) (U 67 ((8 * r.length) + 2))), .int (hmid (U 67 ((8 * r.length) + 2)) (U 67 ((8 * r.length) + 4)))] lk_X10_231 ⟨⟨rfl, rfl⟩, Nat.le_of_ble_eq_true rfl, Nat.le_of_ble_eq_true rfl⟩ (mX10_mid U5 (hmid (U 67 (8 * r.length)) (U 67 ((8 * r.length) + 2))) (hmid (U 67 ((8 * r.length) + 2)) (U 67 ((8 * r.length) + 4)))) rfl (Nat.le_of_ble_eq_true rfl) rfl dX10_flattenCubic_264 (kpI ?_)
              refine x_istore 20 [(20, .int (hmid (hmid (U 67 (8 * r.length)) (U 67 ((8 * r.length) + 2))) (hmid (U 67 ((8 * r.length) + 2)) (U 67 ((8 * r.length) + 4))))), (19, .int (hmid (U 67 ((8 * r.length) + 5)) (U 67 ((8 * r.length) + 7)))), (18, .int (hmid (U 67 ((8 * r.length) + 4)) (U 67 ((8 * r.length) + 6)))), (17, .int (hmid (U 67 ((8 * r.length) + 1)) (U 67 ((8 * r.length) + 3)))), (16, .int (hmid (U 67 (8 * r.length)) (U 67 ((8 * r.length) + 2)))), (15, .int (hmid (U 67 ((8 * r.length) + 3)) (U 67 ((8 * r.length) + 5)))), (14, .int (hmid (U 67 ((8 * r.length) + 2)) (U 67 ((8 * r.length) + 4)))), (13, .int 0), (12, .int (U 67 ((8 * r.length) + 7))), (11, .int (U 67 ((8 * r.length) + 6))), (10, .int (U 67 ((8 * r.length) + 5))), (9, .int (U 67 ((8 * r.length) + 4))), (8, .int (U 67 ((8 * r.length) + 3))), (7, .int (U 67 ((8 * r.length) + 2))), (6, .int (U 67 ((8 * r.length) + 1))), (5, .int (U 67 (8 * r.length))), (4, .int (nI h)), (3, .int (8 * (nI r.length))), (2, .int t), (0, .ref (g.2.1 49)), (1, .int (nI c))] dX10_flattenCubic_267 (by decide) rfl ?_
              refine x_iload dX10_flattenCubic_269 3 rfl ?_
              refine x_iload dX10_flattenCubic_271 5 rfl ?_
              refine x_callS (K := jX10_mid) [.int (hmid (U 67 ((8 * r.length) + 1)) (U 67 ((8 * r.length) + 3))), .int (hmid (U 67 ((8 * r.length) + 3)) (U 67 ((8 * r.length) + 5)))] lk_X10_231 ⟨⟨rfl, rfl⟩, Nat.le_of_ble_eq_true rfl, Nat.le_of_ble_eq_true rfl⟩ (mX10_mid U5 (hmid (U 67 ((8 * r.length) + 1)) (U 67 ((8 * r.length) + 3))) (hmid (U 67 ((8 * r.length) + 3)) (U 67 ((8 * r.length) + 5)))) rfl (Nat.le_of_ble_eq_true rfl) rfl dX10_flattenCubic_273 (kpI ?_)
              refine x_istore 21 [(21, .int (hmid (hmid (U 67 ((8 * r.length) + 1)) (U 67 ((8 * r.length) + 3))) (hmid (U 67 ((8 * r.length) + 3)) (U 67 ((8 * r.length) + 5))))), (20, .int (hmid (hmid (U 67 (8 * r.length)) (U 67 ((8 * r.length) + 2))) (hmid (U 67 ((8 * r.length) + 2)) (U 67 ((8 * r.length) + 4))))), (19, .int (hmid (U 67 ((8 * r.length) + 5)) (U 67 ((8 * r.length) + 7)))), (18, .int (hmid (U 67 ((8 * r.length) + 4)) (U 67 ((8 * r.length) + 6)))), (17, .int (hmid (U 67 ((8 * r.length) + 1)) (U 67 ((8 * r.length) + 3)))), (16, .int (hmid (U 67 (8 * r.length)) (U 67 ((8 * r.length) + 2)))), (15, .int (hmid (U 67 ((8 * r.length) + 3)) (U 67 ((8 * r.length) + 5)))), (14, .int (hmid (U 67 ((8 * r.length) + 2)) (U 67 ((8 * r.length) + 4)))), (13, .int 0), (12, .int (U 67 ((8 * r.length) + 7))), (11, .int (U 67 ((8 * r.length) + 6))), (10, .int (U 67 ((8 * r.length) + 5))), (9, .int (U 67 ((8 * r.length) + 4))), (8, .int (U 67 ((8 * r.length) + 3))), (7, .int (U 67 ((8 * r.length) + 2))), (6, .int (U 67 ((8 * r.length) + 1))), (5, .int (U 67 (8 * r.length))), (4, .int (nI h)), (3, .int (8 * (nI r.length))), (2, .int t), (0, .ref (g.2.1 49)), (1, .int (nI c))] dX10_flattenCubic_276 (by decide) rfl ?_
              refine x_iload dX10_flattenCubic_278 7 rfl ?_
              refine x_iload dX10_flattenCubic_280 3 rfl ?_
              refine x_callS (K := jX10_mid) [.int (hmid (U 67 ((8 * r.length) + 2)) (U 67 ((8 * r.length) + 4))), .int (hmid (U 67 ((8 * r.length) + 4)) (U 67 ((8 * r.length) + 6)))] lk_X10_231 ⟨⟨rfl, rfl⟩, Nat.le_of_ble_eq_true rfl, Nat.le_of_ble_eq_true rfl⟩ (mX10_mid U5 (hmid (U 67 ((8 * r.length) + 2)) (U 67 ((8 * r.length) + 4))) (hmid (U 67 ((8 * r.length) + 4)) (U 67 ((8 * r.length) + 6)))) rfl (Nat.le_of_ble_eq_true rfl) rfl dX10_flattenCubic_282 (kpI ?_)
              refine x_istore 22 [(22, .int (hmid (hmid (U 67 ((8 * r.length) + 2)) (U 67 ((8 * r.length) + 4))) (hmid (U 67 ((8 * r.length) + 4)) (U 67 ((8 * r.length) + 6))))), (21, .int (hmid (hmid (U 67 ((8 * r.length) + 1)) (U 67 ((8 * r.length) + 3))) (hmid (U 67 ((8 * r.length) + 3)) (U 67 ((8 * r.length) + 5))))), (20, .int (hmid (hmid (U 67 (8 * r.length)) (U 67 ((8 * r.length) + 2))) (hmid (U 67 ((8 * r.length) + 2)) (U 67 ((8 * r.length) + 4))))), (19, .int (hmid (U 67 ((8 * r.length) + 5)) (U 67 ((8 * r.length) + 7)))), (18, .int (hmid (U 67 ((8 * r.length) + 4)) (U 67 ((8 * r.length) + 6)))), (17, .int (hmid (U 67 ((8 * r.length) + 1)) (U 67 ((8 * r.length) + 3)))), (16, .int (hmid (U 67 (8 * r.length)) (U 67 ((8 * r.length) + 2)))), (15, .int (hmid (U 67 ((8 * r.length) + 3)) (U 67 ((8 * r.length) + 5)))), (14, .int (hmid (U 67 ((8 * r.length) + 2)) (U 67 ((8 * r.length) + 4)))), (13, .int 0), (12, .int (U 67 ((8 * r.length) + 7))), (11, .int (U 67 ((8 * r.length) + 6))), (10, .int (U 67 ((8 * r.length) + 5))), (9, .int (U 67 ((8 * r.length) + 4))), (8, .int (U 67 ((8 * r.length) + 3))), (7, .int (U 67 ((8 * r.length) + 2))), (6, .int (U 67 ((8 * r.length) + 1))), (5, .int (U 67 (8 * r.length))), (4, .int (nI h)), (3, .int (8 * (nI r.length))), (2, .int t), (0, .ref (g.2.1 49)), (1, .int (nI c))] dX10_flattenCubic_285 (by decide) rfl ?_
              refine x_iload dX10_flattenCubic_287 7 rfl ?_
              refine x_iload dX10_flattenCubic_289 3 rfl ?_
              refine x_callS (K := jX10_mid) [.int (hmid (U 67 ((8 * r.length) + 3)) (U 67 ((8 * r.length) + 5))), .int (hmid (U 67 ((8 * r.length) + 5)) (U 67 ((8 * r.length) + 7)))] lk_X10_231 ⟨⟨rfl, rfl⟩, Nat.le_of_ble_eq_true rfl, Nat.le_of_ble_eq_true rfl⟩ (mX10_mid U5 (hmid (U 67 ((8 * r.length) + 3)) (U 67 ((8 * r.length) + 5))) (hmid (U 67 ((8 * r.length) + 5)) (U 67 ((8 * r.length) + 7)))) rfl (Nat.le_of_ble_eq_true rfl) rfl dX10_flattenCubic_291 (kpI ?_)
              refine x_istore 23 [(23, .int (hmid (hmid (U 67 ((8 * r.length) + 3)) (U 67 ((8 * r.length) + 5))) (hmid (U 67 ((8 * r.length) + 5)) (U 67 ((8 * r.length) + 7))))), (22, .int (hmid (hmid (U 67 ((8 * r.length) + 2)) (U 67 ((8 * r.length) + 4))) (hmid (U 67 ((8 * r.length) + 4)) (U 67 ((8 * r.length) + 6))))), (21, .int (hmid (hmid (U 67 ((8 * r.length) + 1)) (U 67 ((8 * r.length) + 3))) (hmid (U 67 ((8 * r.length) + 3)) (U 67 ((8 * r.length) + 5))))), (20, .int (hmid (hmid (U 67 (8 * r.length)) (U 67 ((8 * r.length) + 2))) (hmid (U 67 ((8 * r.length) + 2)) (U 67 ((8 * r.length) + 4))))), (19, .int (hmid (U 67 ((8 * r.length) + 5)) (U 67 ((8 * r.length) + 7)))), (18, .int (hmid (U 67 ((8 * r.length) + 4)) (U 67 ((8 * r.length) + 6)))), (17, .int (hmid (U 67 ((8 * r.length) + 1)) (U 67 ((8 * r.length) + 3)))), (16, .int (hmid (U 67 (8 * r.length)) (U 67 ((8 * r.length) + 2)))), (15, .int (hmid (U 67 ((8 * r.length) + 3)) (U 67 ((8 * r.length) + 5)))), (14, .int (hmid (U 67 ((8 * r.length) + 2)) (U 67 ((8 * r.length) + 4)))), (13, .int 0), (12, .int (U 67 ((8 * r.length) + 7))), (11, .int (U 67 ((8 * r.length) + 6))), (10, .int (U 67 ((8 * r.length) + 5))), (9, .int (U 67 ((8 * r.length) + 4))), (8, .int (U 67 ((8 * r.length) + 3))), (7, .int (U 67 ((8 * r.length) + 2))), (6, .int (U 67 ((8 * r.length) + 1))), (5, .int (U 67 (8 * r.length))), (4, .int (nI h)), (3, .int (8 * (nI r.length))), (2, .int t), (0, .ref (g.2.1 49)), (1, .int (nI c))] dX10_flattenCubic_294 (by decide) rfl ?_
              refine x_iload dX10_flattenCubic_296 3 rfl ?_
              refine x_iload dX10_flattenCubic_298 1 rfl ?_
              refine x_callS (K := jX10_mid) [.int (hmid (hmid (U 67 (8 * r.length)) (U 67 ((8 * r.length) + 2))) (hmid (U 67 ((8 * r.length) + 2)) (U 67 ((8 * r.length) + 4)))), .int (hmid (hmid (U 67 ((8 * r.length) + 2)) (U 67 ((8 * r.length) + 4))) (hmid (U 67 ((8 * r.length) + 4)) (U 67 ((8 * r.length) + 6))))] lk_X10_231 ⟨⟨rfl, rfl⟩, Nat.le_of_ble_eq_true rfl, Nat.le_of_ble_eq_true rfl⟩ (mX10_mid U5 (hmid (hmid (U 67 (8 * r.length)) (U 67 ((8 * r.length) + 2))) (hmid (U 67 ((8 * r.length) + 2)) (U 67 ((8 * r.length) + 4)))) (hmid (hmid (U 67 ((8 * r.length) + 2)) (U 67 ((8 * r.length) + 4))) (hmid (U 67 ((8 * r.length) + 4)) (U 67 ((8 * r.length) + 6))))) rfl (Nat.le_of_ble_eq_true rfl) rfl dX10_flattenCubic_300 (kpI ?_)
              refine x_istore 24 [(24, .int (hmid (hmid (hmid (U 67 (8 * r.length)) (U 67 ((8 * r.length) + 2))) (hmid (U 67 ((8 * r.length) + 2)) (U 67 ((8 * r.length) + 4)))) (hmid (hmid (U 67 ((8 * r.length) + 2)) (U 67 ((8 * r.length) + 4))) (hmid (U 67 ((8 * r.length) + 4)) (U 67 ((8 * r.length) + 6)))))), (23, .int (hmid (hmid (U 67 ((8 * r.length) + 3)) (U 67 ((8 * r.length) + 5))) (hmid (U 67 ((8 * r.length) + 5)) (U 67 ((8 * r.length) + 7))))), (22, .int (hmid (hmid (U 67 ((8 * r.length) + 2)) (U 67 ((8 * r.length) + 4))) (hmid (U 67 ((8 * r.length) + 4)) (U 67 ((8 * r.length) + 6))))), (21, .int (hmid (hmid (U 67 ((8 * r.length) + 1)) (U 67 ((8 * r.length) + 3))) (hmid (U 67 ((8 * r.length) + 3)) (U 67 ((8 * r.length) + 5))))), (20, .int (hmid (hmid (U 67 (8 * r.length)) (U 67 ((8 * r.length) + 2))) (hmid (U 67 ((8 * r.length) + 2)) (U 67 ((8 * r.length) + 4))))), (19, .int (hmid (U 67 ((8 * r.length) + 5)) (U 67 ((8 * r.length) + 7)))), (18, .int (hmid (U 67 ((8 * r.length) + 4)) (U 67 ((8 * r.length) + 6)))), (17, .int (hmid (U 67 ((8 * r.length) + 1)) (U 67 ((8 * r.length) + 3)))), (16, .int (hmid (U 67 (8 * r.length)) (U 67 ((8 * r.length) + 2)))), (15, .int (hmid (U 67 ((8 * r.length) + 3)) (U 67 ((8 * r.length) + 5)))), (14, .int (hmid (U 67 ((8 * r.length) + 2)) (U 67 ((8 * r.length) + 4)))), (13, .int 0), (12, .int (U 67 ((8 * r.length) + 7))), (11, .int (U 67 ((8 * r.length) + 6))), (10, .int (U 67 ((8 * r.length) + 5))), (9, .int (U 67 ((8 * r.length) + 4))), (8, .int (U 67 ((8 * r.length) + 3))), (7, .int (U 67 ((8 * r.length) + 2))), (6, .int (U 67 ((8 * r.length) + 1))), (5, .int (U 67 (8 * r.length))), (4, .int (nI h)), (3, .int (8 * (nI r.length))), (2, .int t), (0, .ref (g.2.1 49)), (1, .int (nI c))] dX10_flattenCubic_303 (by decide) rfl ?_
              refine x_iload dX10_flattenCubic_305 3 rfl ?_
              refine x_iload dX10_flattenCubic_307 1 rfl ?_
              refine x_callS (K := jX10_mid) [.int (hmid (hmid (U 67 ((8 * r.length) + 1)) (U 67 ((8 * r.length) + 3))) (hmid (U 67 ((8 * r.length) + 3)) (U 67 ((8 * r.length) + 5)))), .int (hmid (hmid (U 67 ((8 * r.length) + 3)) (U 67 ((8 * r.length) + 5))) (hmid (U 67 ((8 * r.length) + 5)) (U 67 ((8 * r.length) + 7))))] lk_X10_231 ⟨⟨rfl, rfl⟩, Nat.le_of_ble_eq_true rfl, Nat.le_of_ble_eq_true rfl⟩ (mX10_mid U5 (hmid (hmid (U 67 ((8 * r.length) + 1)) (U 67 ((8 * r.length) + 3))) (hmid (U 67 ((8 * r.length) + 3)) (U 67 ((8 * r.length) + 5)))) (hmid (hmid (U 67 ((8 * r.length) + 3)) (U 67 ((8 * r.length) + 5))) (hmid (U 67 ((8 * r.length) + 5)) (U 67 ((8 * r.length) + 7))))) rfl (Nat.le_of_ble_eq_true rfl) rfl dX10_flattenCubic_309 (kpI ?_)
              refine x_istore 25 [(25, .int (hmid (hmid (hmid (U 67 ((8 * r.length) + 1)) (U 67 ((8 * r.length) + 3))) (hmid (U 67 ((8 * r.length) + 3)) (U 67 ((8 * r.length) + 5)))) (hmid (hmid (U 67 ((8 * r.length) + 3)) (U 67 ((8 * r.length) + 5))) (hmid (U 67 ((8 * r.length) + 5)) (U 67 ((8 * r.length) + 7)))))), (24, .int (hmid (hmid (hmid (U 67 (8 * r.length)) (U 67 ((8 * r.length) + 2))) (hmid (U 67 ((8 * r.length) + 2)) (U 67 ((8 * r.length) + 4)))) (hmid (hmid (U 67 ((8 * r.length) + 2)) (U 67 ((8 * r.length) + 4))) (hmid (U 67 ((8 * r.length) + 4)) (U 67 ((8 * r.length) + 6)))))), (23, .int (hmid (hmid (U 67 ((8 * r.length) + 3)) (U 67 ((8 * r.length) + 5))) (hmid (U 67 ((8 * r.length) + 5)) (U 67 ((8 * r.length) + 7))))), (22, .int (hmid (hmid (U 67 ((8 * r.length) + 2)) (U 67 ((8 * r.length) + 4))) (hmid (U 67 ((8 * r.length) + 4)) (U 67 ((8 * r.length) + 6))))), (21, .int (hmid (hmid (U 67 ((8 * r.length) + 1)) (U 67 ((8 * r.length) + 3))) (hmid (U 67 ((8 * r.length) + 3)) (U 67 ((8 * r.length) + 5))))), (20, .int (hmid (hmid (U 67 (8 * r.length)) (U 67 ((8 * r.length) + 2))) (hmid (U 67 ((8 * r.length) + 2)) (U 67 ((8 * r.length) + 4))))), (19, .int (hmid (U 67 ((8 * r.length) + 5)) (U 67 ((8 * r.length) + 7)))), (18, .int (hmid (U 67 ((8 * r.length) + 4)) (U 67 ((8 * r.length) + 6)))), (17, .int (hmid (U 67 ((8 * r.length) + 1)) (U 67 ((8 * r.length) + 3)))), (16, .int (hmid (U 67 (8 * r.length)) (U 67 ((8 * r.length) + 2)))), (15, .int (hmid (U 67 ((8 * r.length) + 3)) (U 67 ((8 * r.length) + 5)))), (14, .int (hmid (U 67 ((8 * r.length) + 2)) (U 67 ((8 * r.length) + 4)))), (13, .int 0), (12, .int (U 67 ((8 * r.length) + 7))), (11, .int (U 67 ((8 * r.length) + 6))), (10, .int (U 67 ((8 * r.length) + 5))), (9, .int (U 67 ((8 * r.length) + 4))), (8, .int (U 67 ((8 * r.length) + 3))), (7, .int (U 67 ((8 * r.length) + 2))), (6, .int (U 67 ((8 * r.length) + 1))), (5, .int (U 67 (8 * r.length))), (4, .int (nI h)), (3, .int (8 * (nI r.length))), (2, .int t), (0, .ref (g.2.1 49)), (1, .int (nI c))] dX10_flattenCubic_312 (by decide) rfl ?_
              refine x_aload_n dX10_flattenCubic_314 24 rfl ?_
              refine x_iload dX10_flattenCubic_315 21 rfl ?_
              refine x_iconst (v := 1) dX10_flattenCubic_317 (by decide) ?_
              refine x_iadd dX10_flattenCubic_318 ?_
              refine x_iload dX10_flattenCubic_319 1 rfl ?_
              refine x_iload dX10_flattenCubic_321 0 rfl ?_
              refine x_iload dX10_flattenCubic_323 3 rfl ?_
              refine x_iload dX10_flattenCubic_325 2 rfl ?_
              refine x_iload dX10_flattenCubic_327 7 rfl ?_
              refine x_iload dX10_flattenCubic_329 6 rfl ?_
              refine x_iload dX10_flattenCubic_331 14 rfl ?_
              refine x_iload dX10_flattenCubic_333 13 rfl ?_
              have hp1 : U5 49 38 = nI r.length := by rw [eU5, uM_hit]
              refine x_callV (K := jX10_push) [.int ((nI h) + 1), .int (hmid (hmid (hmid (U 67 (8 * r.length)) (U 67 ((8 * r.length) + 2))) (hmid (U 67 ((8 * r.length) + 2)) (U 67 ((8 * r.length) + 4)))) (hmid (hmid (U 67 ((8 * r.length) + 2)) (U 67 ((8 * r.length) + 4))) (hmid (U 67 ((8 * r.length) + 4)) (U 67 ((8 * r.length) + 6))))), .int (hmid (hmid (hmid (U 67 ((8 * r.length) + 1)) (U 67 ((8 * r.length) + 3))) (hmid (U 67 ((8 * r.length) + 3)) (U 67 ((8 * r.length) + 5)))) (hmid (hmid (U 67 ((8 * r.length) + 3)) (U 67 ((8 * r.length) + 5))) (hmid (U 67 ((8 * r.length) + 5)) (U 67 ((8 * r.length) + 7))))), .int (hmid (hmid (U 67 ((8 * r.length) + 2)) (U 67 ((8 * r.length) + 4))) (hmid (U 67 ((8 * r.length) + 4)) (U 67 ((8 * r.length) + 6)))), .int (hmid (hmid (U 67 ((8 * r.length) + 3)) (U 67 ((8 * r.length) + 5))) (hmid (U 67 ((8 * r.length) + 5)) (U 67 ((8 * r.length) + 7)))), .int (hmid (U 67 ((8 * r.length) + 4)) (U 67 ((8 * r.length) + 6))), .int (hmid (U 67 ((8 * r.length) + 5)) (U 67 ((8 * r.length) + 7))), .int (U 67 ((8 * r.length) + 6)), .int (U 67 ((8 * r.length) + 7))] lk_X10_235 ⟨⟨rfl, rfl⟩, Nat.le_of_ble_eq_true rfl, Nat.le_of_ble_eq_true rfl⟩ rfl rfl (mX10_push U5 (m := r.length) hp1 (by omega) ((nI h) + 1) (hmid (hmid (hmid (U 67 (8 * r.length)) (U 67 ((8 * r.length) + 2))) (hmid (U 67 ((8 * r.length) + 2)) (U 67 ((8 * r.length) + 4)))) (hmid (hmid (U 67 ((8 * r.length) + 2)) (U 67 ((8 * r.length) + 4))) (hmid (U 67 ((8 * r.length) + 4)) (U 67 ((8 * r.length) + 6))))) (hmid (hmid (hmid (U 67 ((8 * r.length) + 1)) (U 67 ((8 * r.length) + 3))) (hmid (U 67 ((8 * r.length) + 3)) (U 67 ((8 * r.length) + 5)))) (hmid (hmid (U 67 ((8 * r.length) + 3)) (U 67 ((8 * r.length) + 5))) (hmid (U 67 ((8 * r.length) + 5)) (U 67 ((8 * r.length) + 7))))) (hmid (hmid (U 67 ((8 * r.length) + 2)) (U 67 ((8 * r.length) + 4))) (hmid (U 67 ((8 * r.length) + 4)) (U 67 ((8 * r.length) + 6)))) (hmid (hmid (U 67 ((8 * r.length) + 3)) (U 67 ((8 * r.length) + 5))) (hmid (U 67 ((8 * r.length) + 5)) (U 67 ((8 * r.length) + 7)))) (hmid (U 67 ((8 * r.length) + 4)) (U 67 ((8 * r.length) + 6))) (hmid (U 67 ((8 * r.length) + 5)) (U 67 ((8 * r.length) + 7))) (U 67 ((8 * r.length) + 6)) (U 67 ((8 * r.length) + 7))) rfl (Nat.le_of_ble_eq_true rfl) rfl dX10_flattenCubic_335 (kdV ?_)
              obtain ⟨U33, eU33⟩ : ∃ v_v : vM, v_v = mpush U5 r.length ((nI h) + 1) (hmid (hmid (hmid (U 67 (8 * r.length)) (U 67 ((8 * r.length) + 2))) (hmid (U 67 ((8 * r.length) + 2)) (U 67 ((8 * r.length) + 4)))) (hmid (hmid (U 67 ((8 * r.length) + 2)) (U 67 ((8 * r.length) + 4))) (hmid (U 67 ((8 * r.length) + 4)) (U 67 ((8 * r.length) + 6))))) (hmid (hmid (hmid (U 67 ((8 * r.length) + 1)) (U 67 ((8 * r.length) + 3))) (hmid (U 67 ((8 * r.length) + 3)) (U 67 ((8 * r.length) + 5)))) (hmid (hmid (U 67 ((8 * r.length) + 3)) (U 67 ((8 * r.length) + 5))) (hmid (U 67 ((8 * r.length) + 5)) (U 67 ((8 * r.length) + 7))))) (hmid (hmid (U 67 ((8 * r.length) + 2)) (U 67 ((8 * r.length) + 4))) (hmid (U 67 ((8 * r.length) + 4)) (U 67 ((8 * r.length) + 6)))) (hmid (hmid (U 67 ((8 * r.length) + 3)) (U 67 ((8 * r.length) + 5))) (hmid (U 67 ((8 * r.length) + 5)) (U 67 ((8 * r.length) + 7)))) (hmid (U 67 ((8 * r.length) + 4)) (U 67 ((8 * r.length) + 6))) (hmid (U 67 ((8 * r.length) + 5)) (U 67 ((8 * r.length) + 7))) (U 67 ((8 * r.length) + 6)) (U 67 ((8 * r.length) + 7)) := ⟨_, rfl⟩
              refine YY.V eU33.symm ?_
              have hp2 : U33 49 38 = nI (r.length + 1) := by rw [eU33]; exact mpush_p.2.2.2.2.2.2.2.2.2
              refine x_aload_n dX10_flattenCubic_338 24 rfl ?_
              refine x_iload dX10_flattenCubic_339 21 rfl ?_
              refine x_iconst (v := 1) dX10_flattenCubic_341 (by decide) ?_
              refine x_iadd dX10_flattenCubic_342 ?_
              refine x_iload dX10_flattenCubic_343 20 rfl ?_
              refine x_iload dX10_flattenCubic_345 19 rfl ?_
              refine x_iload dX10_flattenCubic_347 9 rfl ?_
              refine x_iload dX10_flattenCubic_349 8 rfl ?_
              refine x_iload dX10_flattenCubic_351 5 rfl ?_
              refine x_iload dX10_flattenCubic_353 4 rfl ?_
              refine x_iload dX10_flattenCubic_355 1 rfl ?_
              refine x_iload dX10_flattenCubic_357 0 rfl ?_
              refine x_callV (K := jX10_push) [.int ((nI h) + 1), .int (U 67 (8 * r.length)), .int (U 67 ((8 * r.length) + 1)), .int (hmid (U 67 (8 * r.length)) (U 67 ((8 * r.length) + 2))), .int (hmid (U 67 ((8 * r.length) + 1)) (U 67 ((8 * r.length) + 3))), .int (hmid (hmid (U 67 (8 * r.length)) (U 67 ((8 * r.length) + 2))) (hmid (U 67 ((8 * r.length) + 2)) (U 67 ((8 * r.length) + 4)))), .int (hmid (hmid (U 67 ((8 * r.length) + 1)) (U 67 ((8 * r.length) + 3))) (hmid (U 67 ((8 * r.length) + 3)) (U 67 ((8 * r.length) + 5)))), .int (hmid (hmid (hmid (U 67 (8 * r.length)) (U 67 ((8 * r.length) + 2))) (hmid (U 67 ((8 * r.length) + 2)) (U 67 ((8 * r.length) + 4)))) (hmid (hmid (U 67 ((8 * r.length) + 2)) (U 67 ((8 * r.length) + 4))) (hmid (U 67 ((8 * r.length) + 4)) (U 67 ((8 * r.length) + 6))))), .int (hmid (hmid (hmid (U 67 ((8 * r.length) + 1)) (U 67 ((8 * r.length) + 3))) (hmid (U 67 ((8 * r.length) + 3)) (U 67 ((8 * r.length) + 5)))) (hmid (hmid (U 67 ((8 * r.length) + 3)) (U 67 ((8 * r.length) + 5))) (hmid (U 67 ((8 * r.length) + 5)) (U 67 ((8 * r.length) + 7)))))] lk_X10_235 ⟨⟨rfl, rfl⟩, Nat.le_of_ble_eq_true rfl, Nat.le_of_ble_eq_true rfl⟩ rfl rfl (mX10_push U33 (m := (r.length + 1)) hp2 (by omega) ((nI h) + 1) (U 67 (8 * r.length)) (U 67 ((8 * r.length) + 1)) (hmid (U 67 (8 * r.length)) (U 67 ((8 * r.length) + 2))) (hmid (U 67 ((8 * r.length) + 1)) (U 67 ((8 * r.length) + 3))) (hmid (hmid (U 67 (8 * r.length)) (U 67 ((8 * r.length) + 2))) (hmid (U 67 ((8 * r.length) + 2)) (U 67 ((8 * r.length) + 4)))) (hmid (hmid (U 67 ((8 * r.length) + 1)) (U 67 ((8 * r.length) + 3))) (hmid (U 67 ((8 * r.length) + 3)) (U 67 ((8 * r.length) + 5)))) (hmid (hmid (hmid (U 67 (8 * r.length)) (U 67 ((8 * r.length) + 2))) (hmid (U 67 ((8 * r.length) + 2)) (U 67 ((8 * r.length) + 4)))) (hmid (hmid (U 67 ((8 * r.length) + 2)) (U 67 ((8 * r.length) + 4))) (hmid (U 67 ((8 * r.length) + 4)) (U 67 ((8 * r.length) + 6))))) (hmid (hmid (hmid (U 67 ((8 * r.length) + 1)) (U 67 ((8 * r.length) + 3))) (hmid (U 67 ((8 * r.length) + 3)) (U 67 ((8 * r.length) + 5)))) (hmid (hmid (U 67 ((8 * r.length) + 3)) (U 67 ((8 * r.length) + 5))) (hmid (U 67 ((8 * r.length) + 5)) (U 67 ((8 * r.length) + 7)))))) rfl (Nat.le_of_ble_eq_true rfl) rfl dX10_flattenCubic_359 (kdV ?_)
              obtain ⟨U34, eU34⟩ : ∃ v_v : vM, v_v = mpush U33 (r.length + 1) ((nI h) + 1) (U 67 (8 * r.length)) (U 67 ((8 * r.length) + 1)) (hmid (U 67 (8 * r.length)) (U 67 ((8 * r.length) + 2))) (hmid (U 67 ((8 * r.length) + 1)) (U 67 ((8 * r.length) + 3))) (hmid (hmid (U 67 (8 * r.length)) (U 67 ((8 * r.length) + 2))) (hmid (U 67 ((8 * r.length) + 2)) (U 67 ((8 * r.length) + 4)))) (hmid (hmid (U 67 ((8 * r.length) + 1)) (U 67 ((8 * r.length) + 3))) (hmid (U 67 ((8 * r.length) + 3)) (U 67 ((8 * r.length) + 5)))) (hmid (hmid (hmid (U 67 (8 * r.length)) (U 67 ((8 * r.length) + 2))) (hmid (U 67 ((8 * r.length) + 2)) (U 67 ((8 * r.length) + 4)))) (hmid (hmid (U 67 ((8 * r.length) + 2)) (U 67 ((8 * r.length) + 4))) (hmid (U 67 ((8 * r.length) + 4)) (U 67 ((8 * r.length) + 6))))) (hmid (hmid (hmid (U 67 ((8 * r.length) + 1)) (U 67 ((8 * r.length) + 3))) (hmid (U 67 ((8 * r.length) + 3)) (U 67 ((8 * r.length) + 5)))) (hmid (hmid (U 67 ((8 * r.length) + 3)) (U 67 ((8 * r.length) + 5))) (hmid (U 67 ((8 * r.length) + 5)) (U 67 ((8 * r.length) + 7))))) := ⟨_, rfl⟩
              refine YY.V eU34.symm ?_
              refine x_goto 9 dX10_flattenCubic_362 (by decide) ?_
              refine x_lv [23, 24, 25] rfl ?_
              exact ih ((h + 1, hA 3 p) :: (h + 1, hB 3 p) :: r) S U34 (by refine AM_split (l := 3) (q := (fun k => U 67 (8 * r.length + k))) (by omega) hAM (by omega) rfl (by unfold flt; rw [if_neg (by decide)]; first | exact fun z => absurd z.1 (by (first | assumption | exact Int32.not_lt.mp (by assumption) | exact Int32.not_le.mpr (by assumption))) | exact fun z => absurd z.2 (by (first | assumption | exact Int32.not_lt.mp (by assumption) | exact Int32.not_le.mpr (by assumption)))) (y6 := hB 3 (fun k => U 67 (8 * r.length + k)) 6) (y7 := hB 3 (fun k => U 67 (8 * r.length + k)) 7) (z6 := hA 3 (fun k => U 67 (8 * r.length + k)) 6) (z7 := hA 3 (fun k => U 67 (8 * r.length + k)) 7) (fun _ => ⟨rfl, rfl⟩) (fun _ => ⟨rfl, rfl⟩) ?_; subst_vars; simp only [nI_1]; rfl) (by first | exact Nat.lt_of_lt_of_le (snd7_leaf h p r (by omega)) (by omega) | exact Nat.lt_of_lt_of_le (snd7_split h p _ _ r (by omega)) (by omega))
          · refine x_iconst (v := 1) dX10_flattenCubic_175 (by decide) ?_
            refine x_goto 180 dX10_flattenCubic_176 (by decide) ?_
            refine x_istore 13 [(13, .int 1), (12, .int (U 67 ((8 * r.length) + 7))), (11, .int (U 67 ((8 * r.length) + 6))), (10, .int (U 67 ((8 * r.length) + 5))), (9, .int (U 67 ((8 * r.length) + 4))), (8, .int (U 67 ((8 * r.length) + 3))), (7, .int (U 67 ((8 * r.length) + 2))), (6, .int (U 67 ((8 * r.length) + 1))), (5, .int (U 67 (8 * r.length))), (4, .int (nI h)), (3, .int (8 * (nI r.length))), (2, .int t), (0, .ref (g.2.1 49)), (1, .int (nI c))] dX10_flattenCubic_180 (by decide) rfl ?_
            refine x_iload dX10_flattenCubic_182 9 rfl ?_
            refine x_bipush (v := 6) dX10_flattenCubic_184 (by decide) ?_
            refine x_icmp_eq 194 dX10_flattenCubic_186 (by decide) (fun c35 => ?_) (fun c35 => ?_)
            · have c35n : h = 6 := (nl_eq (a := h) (b := 6) (rfl) (rfl) (by omega) (by omega)).mp c35
              refine x_aload_n dX10_flattenCubic_194 12 rfl ?_
              refine x_iload_n dX10_flattenCubic_195 13 rfl ?_
              refine x_iload dX10_flattenCubic_196 2 rfl ?_
              refine x_iload dX10_flattenCubic_198 1 rfl ?_
              have hF1 : FRM U5 S (c + 1) := by rw [eU5]; exact hAM.2.2.2.2.1.kept (uM_ni (by decide)) (uM_ni (by decide)) (fun a i q => uM_na (by omega))
              have hxr : inR (U 67 ((8 * r.length) + 6)) ∧ inR (U 67 ((8 * r.length) + 7)) := ⟨by rw [s2 6 (by omega)]; exact g1 _ (by omega), by rw [s2 7 (by omega)]; exact g1 _ (by omega)⟩
              refine x_callV (K := jX10_addVertex) [.int (nI c), .int (U 67 ((8 * r.length) + 6)), .int (U 67 ((8 * r.length) + 7))] lk_X10_227 ⟨⟨rfl, rfl⟩, Nat.le_of_ble_eq_true rfl, Nat.le_of_ble_eq_true rfl⟩ rfl rfl (mX10_addVertexS hF1 hAM.2.2.2.2.2.1 hAM.2.2.2.2.2.2.1 (by have := hAM.2.2.2.2.2.2.2.2.1; omega) c hc hxr.1 hxr.2) rfl (Nat.le_of_ble_eq_true rfl) rfl dX10_flattenCubic_200 (kdV ?_)
              obtain ⟨U36, eU36⟩ : ∃ v_v : vM, v_v = mavV U5 S c (U 67 ((8 * r.length) + 6)) (U 67 ((8 * r.length) + 7)) := ⟨_, rfl⟩
              refine YY.V eU36.symm ?_
              refine x_goto 362 dX10_flattenCubic_203 (by decide) ?_
              refine x_goto 9 dX10_flattenCubic_362 (by decide) ?_
              refine x_lv [11, 12, 13] rfl ?_
              exact ih r (fadd S c (U 67 (8 * r.length + 6)) (U 67 (8 * r.length + 7))) U36 (by exact AM_leaf (l := 3) (by omega) hAM (by first | exact Or.inl (by omega) | exact Or.inr (by unfold flt; rw [if_neg (by decide)]; exact ⟨by (first | assumption | exact Int32.not_lt.mp (by assumption) | exact Int32.not_le.mpr (by assumption)), by (first | assumption | exact Int32.not_lt.mp (by assumption) | exact Int32.not_le.mpr (by assumption))⟩)) (by subst_vars; rfl)) (by first | exact Nat.lt_of_lt_of_le (snd7_leaf h p r (by omega)) (by omega) | exact Nat.lt_of_lt_of_le (snd7_split h p _ _ r (by omega)) (by omega))
            · have c35n : ¬ h = 6 := fun q => c35 ((nl_eq (a := h) (b := 6) (rfl) (rfl) (by omega) (by omega)).mpr q)
              refine x_iload dX10_flattenCubic_189 0 rfl ?_
              refine x_if_eq 206 dX10_flattenCubic_191 (by decide) (fun c37 => by exfalso; revert c37; decide) (fun c37 => ?_)
              refine x_aload_n dX10_flattenCubic_194 12 rfl ?_
              refine x_iload_n dX10_flattenCubic_195 13 rfl ?_
              refine x_iload dX10_flattenCubic_196 2 rfl ?_
              refine x_iload dX10_flattenCubic_198 1 rfl ?_
              have hF1 : FRM U5 S (c + 1) := by rw [eU5]; exact hAM.2.2.2.2.1.kept (uM_ni (by decide)) (uM_ni (by decide)) (fun a i q => uM_na (by omega))
              have hxr : inR (U 67 ((8 * r.length) + 6)) ∧ inR (U 67 ((8 * r.length) + 7)) := ⟨by rw [s2 6 (by omega)]; exact g1 _ (by omega), by rw [s2 7 (by omega)]; exact g1 _ (by omega)⟩
              refine x_callV (K := jX10_addVertex) [.int (nI c), .int (U 67 ((8 * r.length) + 6)), .int (U 67 ((8 * r.length) + 7))] lk_X10_227 ⟨⟨rfl, rfl⟩, Nat.le_of_ble_eq_true rfl, Nat.le_of_ble_eq_true rfl⟩ rfl rfl (mX10_addVertexS hF1 hAM.2.2.2.2.2.1 hAM.2.2.2.2.2.2.1 (by have := hAM.2.2.2.2.2.2.2.2.1; omega) c hc hxr.1 hxr.2) rfl (Nat.le_of_ble_eq_true rfl) rfl dX10_flattenCubic_200 (kdV ?_)
              obtain ⟨U38, eU38⟩ : ∃ v_v : vM, v_v = mavV U5 S c (U 67 ((8 * r.length) + 6)) (U 67 ((8 * r.length) + 7)) := ⟨_, rfl⟩
              refine YY.V eU38.symm ?_
              refine x_goto 362 dX10_flattenCubic_203 (by decide) ?_
              refine x_goto 9 dX10_flattenCubic_362 (by decide) ?_
              refine x_lv [11, 12, 13] rfl ?_
              exact ih r (fadd S c (U 67 (8 * r.length + 6)) (U 67 (8 * r.length + 7))) U38 (by exact AM_leaf (l := 3) (by omega) hAM (by first | exact Or.inl (by omega) | exact Or.inr (by unfold flt; rw [if_neg (by decide)]; exact ⟨by (first | assumption | exact Int32.not_lt.mp (by assumption) | exact Int32.not_le.mpr (by assumption)), by (first | assumption | exact Int32.not_lt.mp (by assumption) | exact Int32.not_le.mpr (by assumption))⟩)) (by subst_vars; rfl)) (by first | exact Nat.lt_of_lt_of_le (snd7_leaf h p r (by omega)) (by omega) | exact Nat.lt_of_lt_of_le (snd7_split h p _ _ r (by omega)) (by omega))
  exact lp3 _ ([(0, p0)]) S0 V (by exact H0) (Nat.lt_succ_self _)
