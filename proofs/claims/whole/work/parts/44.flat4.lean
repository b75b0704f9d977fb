def frH (V U : vM) : Prop := ∀ a i, a ≠ 26 → a ≠ 40 → (a < 42 ∨ 49 ≤ a) → U a i = V a i
def HS (l : Nat) (t : Int32) (V0 : vM) (st0 : STK) (U : vM) (st : STK) : Prop := U 26 2 = nI st.length ∧ U 26 3 = nI l ∧ SRl U l st ∧ okL st ∧ rgS l st ∧ (∀ c S, fstk l t c st S = fstk l t c st0 S) ∧ slv st = slv st0 ∧ frH V0 U
theorem HS.rf {l : Nat} {t : Int32} {V : vM} {st : STK} (h1 : V 26 2 = nI st.length) (h2 : V 26 3 = nI l) (h3 : SRl V l st) (h4 : okL st) (h5 : rgS l st) : HS l t V st V st := ⟨h1, h2, h3, h4, h5, fun _ _ => rfl, rfl, fun _ _ _ _ _ => rfl⟩
theorem fstk_step {l : Nat} {t : Int32} {c : Nat} {h : Nat} {p : Nat → Int32} {r : STK} (h6 : h < 6) (hf : ¬ flt l p t) (S : FS) : fstk l t c ((h + 1, hA l p) :: (h + 1, hB l p) :: r) S = fstk l t c ((h, p) :: r) S := by
  obtain ⟨k, hk⟩ : ∃ k, 6 - h = k + 1 := ⟨5 - h, by omega⟩
  simp only [fstk]
  rw [hk, show 6 - (h + 1) = k by omega]
  conv => rhs; rw [fsub]
  rw [if_neg (fun q => hf (bP_1.mp q))]
theorem HS_step {l : Nat} (hl : l = 2 ∨ l = 3) {t : Int32} {V0 : vM} {st0 : STK} {U U2 : vM} {h : Nat} {p : Nat → Int32} {r : STK} (H : HS l t V0 st0 U ((h, p) :: r)) (h6 : h < 6) (hf : ¬ flt l (U (42 + r.length)) t)
    (a1 : ∀ i, i < 2 * l + 2 → U2 (42 + r.length) i = hB l (U (42 + r.length)) i) (a2 : ∀ i, i < 2 * l + 2 → U2 (42 + (r.length + 1)) i = hA l (U (42 + r.length)) i) (a3 : ∀ a i, a ≠ 42 + r.length → a ≠ 42 + (r.length + 1) → U2 a i = U a i) :
    HS l t V0 st0 (uM (uM (uM U2 40 r.length (nI (h + 1))) 40 (r.length + 1) (nI (h + 1))) 26 2 (nI (r.length + 2))) ((h + 1, hA l p) :: (h + 1, hB l p) :: r) := by
  obtain ⟨b1, b2, ⟨s1, s2, s3⟩, ⟨o1, o2, o3⟩, ⟨g1, g2⟩, b6, b7, b8⟩ := H
  have hlen : r.length ≤ 5 := by omega
  refine ⟨?_, ?_, ⟨?_, fun i hi => ?_, ?_, fun i hi => ?_, ?_⟩, ⟨?_, ?_, ?_, ?_, ?_⟩, ⟨hA_r hl g1, hB_r hl g1, g2⟩, fun c S => ?_, ?_, fun a i n1 n2 n3 => ?_⟩
  · simp [uM_at]
  · rw [uM_ni (by decide), uM_na (by decide), uM_na (by decide), a3 26 3 (by omega) (by omega)]; exact b2
  · show uM _ 26 2 _ 40 (r.length + 1) = _
    rw [uM_na (by decide), uM_hit]
  · show uM _ 26 2 _ (42 + (r.length + 1)) i = _
    rw [uM_na (by omega), uM_na (by omega), uM_na (by omega), a2 i hi]
    exact hA_cong hl s2 i hi
  · rw [uM_na (by decide), uM_ni (by omega), uM_hit]
  · rw [uM_na (by omega), uM_na (by omega), uM_na (by omega), a1 i hi]
    exact hB_cong hl s2 i hi
  · refine s3.kept (fun j hj => ⟨?_, fun i => ?_⟩)
    · rw [uM_na (by decide), uM_ni (by omega), uM_ni (by omega), a3 40 j (by omega) (by omega)]
    · rw [uM_na (by omega), uM_na (by omega), uM_na (by omega), a3 _ i (by omega) (by omega)]
  · simp; omega
  · omega
  · omega
  · omega
  · exact o3
  · rw [fstk_step h6 (fun q => hf ((flt_cong hl s2 t).mpr q)) S]; exact b6 c S
  · rw [← b7]
    simp only [slv]
    obtain ⟨k, hk⟩ : ∃ k, 6 - h = k + 1 := ⟨5 - h, by omega⟩
    rw [hk, show 6 - (h + 1) = k by omega, Nat.pow_succ]
    omega
  · rw [uM_na n1, uM_na n2, uM_na n2, a3 a i (by omega) (by omega)]
    exact b8 a i n1 n2 n3
set_option maxHeartbeats 4000000 in
set_option maxRecDepth 100000 in
theorem mX2_halveNext2 {g : gX} (V : vM) (t : Int32) {st0 : STK} {h0 : Nat} {p0 : Nat → Int32} {r0 : STK} (H0 : HS 2 t V st0 V ((h0, p0) :: r0)) : MM g jX2_halveNext V [.ref (g.2.1 26), .int t] (eV (fun U => ∃ h p r, HS 2 t V st0 U ((h, p) :: r) ∧ (h = 6 ∨ flt 2 (U (42 + r.length)) t))) := by
  refine MM.of plX2_halveNext (Nat.le_of_ble_eq_true rfl) ?_
  obtain ⟨Q, hQ⟩ : ∃ Q : Option Value → vM → Prop, Q = (eV (fun U => ∃ h p r, HS 2 t V st0 U ((h, p) :: r) ∧ (h = 6 ∨ flt 2 (U (42 + r.length)) t))) := ⟨_, rfl⟩
  rw [← hQ]
  show XX g jX2_halveNext Q V 0 [(0, .ref (g.2.1 26)), (1, .int t)] []
  refine x_aload_n dX2_halveNext_0 0 rfl ?_
  refine x_getI fl_X2_24 rfl rfl dX2_halveNext_1 ?_
  refine x_topi (H0.2.1) ?_
  refine x_iconst (v := 2) dX2_halveNext_4 (by decide) ?_
  refine x_icmp_ne 14 dX2_halveNext_5 (by decide) (fun c1 => by exfalso; revert c1; decide) (fun c1 => ?_)
  refine x_iconst (v := 4) dX2_halveNext_8 (by decide) ?_
  refine x_iload_n dX2_halveNext_9 1 rfl ?_
  refine x_imul dX2_halveNext_10 ?_
  refine x_goto 17 dX2_halveNext_11 (by decide) ?_
  refine x_istore_n 2 [(2, .int (4 * t)), (0, .ref (g.2.1 26)), (1, .int t)] dX2_halveNext_17 rfl (by decide) rfl ?_
  refine x_iconst (v := 0) dX2_halveNext_18 (by decide) ?_
  refine x_istore_n 3 [(3, .int 0), (2, .int (4 * t)), (0, .ref (g.2.1 26)), (1, .int t)] dX2_halveNext_19 rfl (by decide) rfl ?_
  have lp2 : ∀ (fu : Nat) (i : Nat) (h : Nat) (p : Nat → Int32) (r : STK) (U : vM), (i ≤ 6) → (i ≤ h) → (HS 2 t V st0 U ((h, p) :: r)) → (6 - i) < fu → XX g jX2_halveNext Q U 20 [(3, .int (nI i)), (2, .int (4 * t)), (0, .ref (g.2.1 26)), (1, .int t)] [] := by
    intro fu
    induction fu with
    | zero => intro _ _ _ _ _ _ _ _ hmz; exact absurd hmz (Nat.not_lt_zero _)
    | succ fu ih =>
      intro i h p r U hi hih hH hmz
      obtain ⟨hw, hL, ⟨s1, s2, s3⟩, ⟨o1, o2, o3⟩, -⟩ := id hH
      have hw : U 26 2 = nI (r.length + 1) := hw
      refine x_iload_n dX2_halveNext_20 0 rfl ?_
      refine x_bipush (v := 6) dX2_halveNext_21 (by decide) ?_
      refine x_icmp_ge 142 dX2_halveNext_23 (by decide) (fun c3 => ?_) (fun c3 => ?_)
      · have c3n : 6 ≤ i := (nl_le (a := 6) (b := i) (rfl) (rfl) (by omega) (by omega)).mp c3
        refine x_vret dX2_halveNext_142 rfl ?_
        rw [hQ]
        exact ⟨rfl, h, p, r, hH, Or.inl (by omega)⟩
      · have c3n : i < 6 := Nat.not_le.mp (fun q => c3 ((nl_le (a := 6) (b := i) (rfl) (rfl) (by omega) (by omega)).mpr q))
        refine x_aload_n dX2_halveNext_26 2 rfl ?_
        refine x_getI fl_X2_20 rfl rfl dX2_halveNext_27 ?_
        refine x_topi (hw) ?_
        refine x_iconst (v := 1) dX2_halveNext_30 (by decide) ?_
        refine x_isub dX2_halveNext_31 ?_
        refine x_topi (y := nI r.length) (nI_pred _) ?_
        refine x_istore 4 [(4, .int (nI r.length)), (3, .int (nI i)), (2, .int (4 * t)), (0, .ref (g.2.1 26)), (1, .int t)] dX2_halveNext_32 (by decide) rfl ?_
        refine x_iload dX2_halveNext_34 0 rfl ?_
        refine x_if_lt 78 dX2_halveNext_36 (by decide) (fun c4 => by exfalso; exact absurd c4 (nI_pos (by omega))) (fun c4 => ?_)
        refine x_aload_n dX2_halveNext_39 3 rfl ?_
        refine x_getR fl_X2_16 rfl rfl dX2_halveNext_40 ?_
        refine x_iload dX2_halveNext_43 0 rfl ?_
        have b5 : vp_in (nI r.length) 7 := by exact vp_in_nI (by omega) (by decide)
        refine x_iald rfl b5 dX2_halveNext_45 ?_
        refine x_topi (y := U 40 r.length) (by rw [nI_clamp (by omega)]) ?_
        refine x_topi (s1) ?_
        refine x_bipush (v := 6) dX2_halveNext_46 (by decide) ?_
        refine x_icmp_ge 78 dX2_halveNext_48 (by decide) (fun c6 => ?_) (fun c6 => ?_)
        · have c6n : 6 ≤ h := (nl_le (a := 6) (b := h) (rfl) (rfl) (by omega) (by omega)).mp c6
          refine x_vret dX2_halveNext_78 rfl ?_
          rw [hQ]
          refine ⟨rfl, h, p, r, hH, ?_⟩
          first | exact Or.inl (by omega) | exact Or.inr (by assumption)
        · have c6n : h < 6 := Nat.not_le.mp (fun q => c6 ((nl_le (a := 6) (b := h) (rfl) (rfl) (by omega) (by omega)).mpr q))
          refine x_aload_n dX2_halveNext_51 3 rfl ?_
          refine x_getI fl_X2_20 rfl rfl dX2_halveNext_52 ?_
          refine x_topi (hw) ?_
          refine x_aload_n dX2_halveNext_55 3 rfl ?_
          refine x_getR fl_X2_11 rfl rfl dX2_halveNext_56 ?_
          refine x_alen (v := 7) rfl (by decide) (by decide) dX2_halveNext_59 ?_
          refine x_icmp_ge 78 dX2_halveNext_60 (by decide) (fun c7 => by exfalso; exact absurd ((nl_le (a := 7) (b := r.length + 1) rfl rfl (by omega) (by omega)).mp c7) (by omega)) (fun c7 => ?_)
          refine x_aload_n dX2_halveNext_63 3 rfl ?_
          refine x_aload_n dX2_halveNext_64 3 rfl ?_
          refine x_getR fl_X2_11 rfl rfl dX2_halveNext_65 ?_
          refine x_iload dX2_halveNext_68 0 rfl ?_
          have b8 : vp_in (nI r.length) 7 := by exact vp_in_nI (by omega) (by decide)
          refine x_aaldP rfl b8 dX2_halveNext_70 ?_
          refine YY.S (st' := [.ref (g.2.1 (42 + r.length)), .ref (g.2.1 26)]) (by rw [nI_clamp (by omega)]) ?_
          refine x_iload_n dX2_halveNext_71 2 rfl ?_
          refine x_callV (K := jX2_isFlat) [.ref (g.2.1 (42 + r.length)), .int (4 * t)] lk_X2_37 ⟨⟨rfl, rfl⟩, Nat.le_of_ble_eq_true rfl, Nat.le_of_ble_eq_true rfl⟩ rfl rfl (mX2_isFlat2 U (shRow r.length (by omega)) hL t) rfl (Nat.le_of_ble_eq_true rfl) rfl dX2_halveNext_72 (kpI ?_)
          refine x_if_eq 79 dX2_halveNext_75 (by decide) (fun c9 => ?_) (fun c9 => ?_)
          · have c9n : ¬ (flt 2 (U (42 + r.length)) t) := bP_0.mp c9
            refine x_aload_n dX2_halveNext_79 3 rfl ?_
            refine x_aload_n dX2_halveNext_80 3 rfl ?_
            refine x_getR fl_X2_11 rfl rfl dX2_halveNext_81 ?_
            refine x_iload dX2_halveNext_84 0 rfl ?_
            have b10 : vp_in (nI r.length) 7 := by exact vp_in_nI (by omega) (by decide)
            refine x_aaldP rfl b10 dX2_halveNext_86 ?_
            refine YY.S (st' := [.ref (g.2.1 (42 + r.length)), .ref (g.2.1 26)]) (by rw [nI_clamp (by omega)]) ?_
            refine x_aload_n dX2_halveNext_87 3 rfl ?_
            refine x_getR fl_X2_11 rfl rfl dX2_halveNext_88 ?_
            refine x_iload dX2_halveNext_91 0 rfl ?_
            refine x_iconst (v := 1) dX2_halveNext_93 (by decide) ?_
            refine x_iadd dX2_halveNext_94 ?_
            have q11 : ((nI r.length) + 1 : Int32) = nI (r.length + 1) := nadd (rfl) (rfl)
            refine YY.S (st' := [.int (nI (r.length + 1)), .ref (g.2.1 39), .ref (g.2.1 (42 + r.length)), .ref (g.2.1 26)]) (by rw [q11]) ?_
            have b12 : vp_in (nI (r.length + 1)) 7 := by exact vp_in_nI (by omega) (by decide)
            refine x_aaldP rfl b12 dX2_halveNext_95 ?_
            refine YY.S (st' := [.ref (g.2.1 (42 + (r.length + 1))), .ref (g.2.1 (42 + r.length)), .ref (g.2.1 26)]) (by rw [nI_clamp (by omega)]) ?_
            refine x_callV (K := jX2_halve) [.ref (g.2.1 (42 + r.length)), .ref (g.2.1 (42 + (r.length + 1)))] lk_X2_41 ⟨⟨rfl, rfl⟩, Nat.le_of_ble_eq_true rfl, Nat.le_of_ble_eq_true rfl⟩ rfl rfl (mX2_halve2 U (shRow r.length (by omega)) (shRow (r.length + 1) (by omega)) (by omega) (by omega) (by omega) hL) rfl (Nat.le_of_ble_eq_true rfl) rfl dX2_halveNext_96 (keV fun U13 hU14 => ?_)
            obtain ⟨ha1, ha2, ha3⟩ := hU14
            have hU40 : U13 40 r.length = nI h := by rw [ha3 40 _ (by omega) (by omega)]; exact s1
            have hU26 : U13 26 2 = nI (r.length + 1) := by rw [ha3 26 _ (by omega) (by omega)]; exact hw
            refine x_aload_n dX2_halveNext_99 3 rfl ?_
            refine x_getR fl_X2_16 rfl rfl dX2_halveNext_100 ?_
            refine x_iload dX2_halveNext_103 0 rfl ?_
            refine x_dup2 dX2_halveNext_105 rfl rfl ?_
            have b15 : vp_in (nI r.length) 7 := by exact vp_in_nI (by omega) (by decide)
            refine x_iald rfl b15 dX2_halveNext_106 ?_
            refine x_topi (y := U13 40 r.length) (by rw [nI_clamp (by omega)]) ?_
            refine x_topi (hU40) ?_
            refine x_iconst (v := 1) dX2_halveNext_107 (by decide) ?_
            refine x_iadd dX2_halveNext_108 ?_
            have b16 : vp_in (nI r.length) 7 := by exact vp_in_nI (by omega) (by decide)
            refine x_iast rfl b16 dX2_halveNext_109 ?_
            refine YY.V (V' := uM U13 40 r.length ((nI h) + 1)) (by rw [nI_clamp (by omega)]) ?_
            obtain ⟨U17, eU17⟩ : ∃ v_v : vM, v_v = uM U13 40 r.length ((nI h) + 1) := ⟨_, rfl⟩
            refine YY.V eU17.symm ?_
            refine x_aload_n dX2_halveNext_110 3 rfl ?_
            refine x_getR fl_X2_16 rfl rfl dX2_halveNext_111 ?_
            refine x_iload dX2_halveNext_114 0 rfl ?_
            refine x_iconst (v := 1) dX2_halveNext_116 (by decide) ?_
            refine x_iadd dX2_halveNext_117 ?_
            refine x_aload_n dX2_halveNext_118 3 rfl ?_
            refine x_getR fl_X2_16 rfl rfl dX2_halveNext_119 ?_
            refine x_iload dX2_halveNext_122 0 rfl ?_
            have b18 : vp_in (nI r.length) 7 := by exact vp_in_nI (by omega) (by decide)
            refine x_iald rfl b18 dX2_halveNext_124 ?_
            refine x_topi (y := U17 40 r.length) (by rw [nI_clamp (by omega)]) ?_
            refine x_topi (y := (nI h) + 1) (by rw [eU17, uM_hit]) ?_
            have q19 : ((nI r.length) + 1 : Int32) = nI (r.length + 1) := nadd (rfl) (rfl)
            refine YY.S (st' := [.int ((nI h) + 1), .int (nI (r.length + 1)), .ref (g.2.1 40)]) (by rw [q19]) ?_
            have b20 : vp_in (nI (r.length + 1)) 7 := by exact vp_in_nI (by omega) (by decide)
            refine x_iast rfl b20 dX2_halveNext_125 ?_
            refine YY.V (V' := uM U17 40 (r.length + 1) ((nI h) + 1)) (by rw [nI_clamp (by omega)]) ?_
            obtain ⟨U21, eU21⟩ : ∃ v_v : vM, v_v = uM U17 40 (r.length + 1) ((nI h) + 1) := ⟨_, rfl⟩
            refine YY.V eU21.symm ?_
            refine x_aload_n dX2_halveNext_126 3 rfl ?_
            refine x_dup dX2_halveNext_127 rfl ?_
            refine x_getI fl_X2_20 rfl rfl dX2_halveNext_128 ?_
            refine x_topi (y := U13 26 2) (by rw [eU21, uM_na (by decide), eU17, uM_na (by decide)]) ?_
            refine x_topi (hU26) ?_
            refine x_iconst (v := 1) dX2_halveNext_131 (by decide) ?_
            refine x_iadd dX2_halveNext_132 ?_
            refine x_putI fp_X2_20 rfl rfl dX2_halveNext_133 ?_
            obtain ⟨U22, eU22⟩ : ∃ v_v : vM, v_v = uM U21 26 2 ((nI (r.length + 1)) + 1) := ⟨_, rfl⟩
            refine YY.V eU22.symm ?_
            refine x_iinc 3 (v := (nI i) + 1) 1 [(3, .int ((nI i) + 1)), (4, .int (nI r.length)), (2, .int (4 * t)), (0, .ref (g.2.1 26)), (1, .int t)] dX2_halveNext_136 rfl (by rfl) (by decide) rfl ?_
            refine x_goto 20 dX2_halveNext_139 (by decide) ?_
            refine x_lv [0, 2, 3, 4] rfl ?_
            refine YY.L (lv' := [(3, .int (nI (i + 1))), (2, .int (4 * t)), (0, .ref (g.2.1 26)), (1, .int t)]) (by first | rfl | (simp only [nI_1]; done) | (simp only [← nI_add]; rfl)) ?_
            exact ih (i + 1) (h + 1) (hA 2 p) ((h + 1, hB 2 p) :: r) U22 (by omega) (by omega) (by have := HS_step (by omega) hH (by omega) (by assumption) ha1 ha2 ha3; subst_vars; simpa [nI_1] using this) (by omega)
          · have c9n : (flt 2 (U (42 + r.length)) t) := Classical.not_not.mp (fun q => c9 (bP_0.mpr q))
            refine x_vret dX2_halveNext_78 rfl ?_
            rw [hQ]
            refine ⟨rfl, h, p, r, hH, ?_⟩
            first | exact Or.inl (by omega) | exact Or.inr (by assumption)
  refine YY.L (lv' := [(3, .int (nI 0)), (2, .int (4 * t)), (0, .ref (g.2.1 26)), (1, .int t)]) (by rfl) ?_
  exact lp2 _ 0 h0 p0 r0 V (by omega) (by omega) (by exact H0) (Nat.lt_succ_self _)
set_option maxHeartbeats 4000000 in
set_option maxRecDepth 100000 in
theorem mX2_halveNext3 {g : gX} (V : vM) (t : Int32) {st0 : STK} {h0 : Nat} {p0 : Nat → Int32} {r0 : STK} (H0 : HS 3 t V st0 V ((h0, p0) :: r0)) : MM g jX2_halveNext V [.ref (g.2.1 26), .int t] (eV (fun U => ∃ h p r, HS 3 t V st0 U ((h, p) :: r) ∧ (h = 6 ∨ flt 3 (U (42 + r.length)) t))) := by
  refine MM.of plX2_halveNext (Nat.le_of_ble_eq_true rfl) ?_
  obtain ⟨Q, hQ⟩ : ∃ Q : Option Value → vM → Prop, Q = (eV (fun U => ∃ h p r, HS 3 t V st0 U ((h, p) :: r) ∧ (h = 6 ∨ flt 3 (U (42 + r.length)) t))) := ⟨_, rfl⟩
  rw [← hQ]
  show XX g jX2_halveNext Q V 0 [(0, .ref (g.2.1 26)), (1, .int t)] []
  refine x_aload_n dX2_halveNext_0 0 rfl ?_
  refine x_getI fl_X2_24 rfl rfl dX2_halveNext_1 ?_
  refine x_topi (H0.2.1) ?_
  refine x_iconst (v := 2) dX2_halveNext_4 (by decide) ?_
  refine x_icmp_ne 14 dX2_halveNext_5 (by decide) (fun c1 => ?_) (fun c1 => by exfalso; revert c1; decide)
  refine x_iconst (v := 2) dX2_halveNext_14 (by decide) ?_
  refine x_iload_n dX2_halveNext_15 1 rfl ?_
  refine x_imul dX2_halveNext_16 ?_
  refine x_istore_n 2 [(2, .int (2 * t)), (0, .ref (g.2.1 26)), (1, .int t)] dX2_halveNext_17 rfl (by decide) rfl ?_
  refine x_iconst (v := 0) dX2_halveNext_18 (by decide) ?_
  refine x_istore_n 3 [(3, .int 0), (2, .int (2 * t)), (0, .ref (g.2.1 26)), (1, .int t)] dX2_halveNext_19 rfl (by decide) rfl ?_
  have lp2 : ∀ (fu : Nat) (i : Nat) (h : Nat) (p : Nat → Int32) (r : STK) (U : vM), (i ≤ 6) → (i ≤ h) → (HS 3 t V st0 U ((h, p) :: r)) → (6 - i) < fu → XX g jX2_halveNext Q U 20 [(3, .int (nI i)), (2, .int (2 * t)), (0, .ref (g.2.1 26)), (1, .int t)] [] := by
    intro fu
    induction fu with
    | zero => intro _ _ _ _ _ _ _ _ hmz; exact absurd hmz (Nat.not_lt_zero _)
    | succ fu ih =>
      intro i h p r U hi hih hH hmz
      obtain ⟨hw, hL, ⟨s1, s2, s3⟩, ⟨o1, o2, o3⟩, -⟩ := id hH
      have hw : U 26 2 = nI (r.length + 1) := hw
      refine x_iload_n dX2_halveNext_20 0 rfl ?_
      refine x_bipush (v := 6) dX2_halveNext_21 (by decide) ?_
      refine x_icmp_ge 142 dX2_halveNext_23 (by decide) (fun c3 => ?_) (fun c3 => ?_)
      · have c3n : 6 ≤ i := (nl_le (a := 6) (b := i) (rfl) (rfl) (by omega) (by omega)).mp c3
        refine x_vret dX2_halveNext_142 rfl ?_
        rw [hQ]
        exact ⟨rfl, h, p, r, hH, Or.inl (by omega)⟩
      · have c3n : i < 6 := Nat.not_le.mp (fun q => c3 ((nl_le (a := 6) (b := i) (rfl) (rfl) (by omega) (by omega)).mpr q))
        refine x_aload_n dX2_halveNext_26 2 rfl ?_
        refine x_getI fl_X2_20 rfl rfl dX2_halveNext_27 ?_
        refine x_topi (hw) ?_
        refine x_iconst (v := 1) dX2_halveNext_30 (by decide) ?_
        refine x_isub dX2_halveNext_31 ?_
        refine x_topi (y := nI r.length) (nI_pred _) ?_
        refine x_istore 4 [(4, .int (nI r.length)), (3, .int (nI i)), (2, .int (2 * t)), (0, .ref (g.2.1 26)), (1, .int t)] dX2_halveNext_32 (by decide) rfl ?_
        refine x_iload dX2_halveNext_34 0 rfl ?_
        refine x_if_lt 78 dX2_halveNext_36 (by decide) (fun c4 => by exfalso; exact absurd c4 (nI_pos (by omega))) (fun c4 => ?_)
        refine x_aload_n dX2_halveNext_39 3 rfl ?_
        refine x_getR fl_X2_16 rfl rfl dX2_halveNext_40 ?_
        refine x_iload dX2_halveNext_43 0 rfl ?_
        have b5 : vp_in (nI r.length) 7 := by exact vp_in_nI (by omega) (by decide)
        refine x_iald rfl b5 dX2_halveNext_45 ?_
        refine x_topi (y := U 40 r.length) (by rw [nI_clamp (by omega)]) ?_
        refine x_topi (s1) ?_
        refine x_bipush (v := 6) dX2_halveNext_46 (by decide) ?_
        refine x_icmp_ge 78 dX2_halveNext_48 (by decide) (fun c6 => ?_) (fun c6 => ?_)
        · have c6n : 6 ≤ h := (nl_le (a := 6) (b := h) (rfl) (rfl) (by omega) (by omega)).mp c6
          refine x_vret dX2_halveNext_78 rfl ?_
          rw [hQ]
          refine ⟨rfl, h, p, r, hH, ?_⟩
          first | exact Or.inl (by omega) | exact Or.inr (by assumption)
        · have c6n : h < 6 := Nat.not_le.mp (fun q => c6 ((nl_le (a := 6) (b := h) (rfl) (rfl) (by omega) (by omega)).mpr q))
          refine x_aload_n dX2_halveNext_51 3 rfl ?_
          refine x_getI fl_X2_20 rfl rfl dX2_halveNext_52 ?_
          refine x_topi (hw) ?_
          refine x_aload_n dX2_halveNext_55 3 rfl ?_
          refine x_getR fl_X2_11 rfl rfl dX2_halveNext_56 ?_
          refine x_alen (v := 7) rfl (by decide) (by decide) dX2_halveNext_59 ?_
          refine x_icmp_ge 78 dX2_halveNext_60 (by decide) (fun c7 => by exfalso; exact absurd ((nl_le (a := 7) (b := r.length + 1) rfl rfl (by omega) (by omega)).mp c7) (by omega)) (fun c7 => ?_)
          refine x_aload_n dX2_halveNext_63 3 rfl ?_
          refine x_aload_n dX2_halveNext_64 3 rfl ?_
          refine x_getR fl_X2_11 rfl rfl dX2_halveNext_65 ?_
          refine x_iload dX2_halveNext_68 0 rfl ?_
          have b8 : vp_in (nI r.length) 7 := by exact vp_in_nI (by omega) (by decide)
          refine x_aaldP rfl b8 dX2_halveNext_70 ?_
          refine YY.S (st' := [.ref (g.2.1 (42 + r.length)), .ref (g.2.1 26)]) (by rw [nI_clamp (by omega)]) ?_
          refine x_iload_n dX2_halveNext_71 2 rfl ?_
          refine x_callV (K := jX2_isFlat) [.ref (g.2.1 (42 + r.length)), .int (2 * t)] lk_X2_37 ⟨⟨rfl, rfl⟩, Nat.le_of_ble_eq_true rfl, Nat.le_of_ble_eq_true rfl⟩ rfl rfl (mX2_isFlat3 U (shRow r.length (by omega)) hL t) rfl (Nat.le_of_ble_eq_true rfl) rfl dX2_halveNext_72 (kpI ?_)
          refine x_if_eq 79 dX2_halveNext_75 (by decide) (fun c9 => ?_) (fun c9 => ?_)
          · have c9n : ¬ (flt 3 (U (42 + r.length)) t) := bP_0.mp c9
            refine x_aload_n dX2_halveNext_79 3 rfl ?_
            refine x_aload_n dX2_halveNext_80 3 rfl ?_
            refine x_getR fl_X2_11 rfl rfl dX2_halveNext_81 ?_
            refine x_iload dX2_halveNext_84 0 rfl ?_
            have b10 : vp_in (nI r.length) 7 := by exact vp_in_nI (by omega) (by decide)
            refine x_aaldP rfl b10 dX2_halveNext_86 ?_
            refine YY.S (st' := [.ref (g.2.1 (42 + r.length)), .ref (g.2.1 26)]) (by rw [nI_clamp (by omega)]) ?_
            refine x_aload_n dX2_halveNext_87 3 rfl ?_
            refine x_getR fl_X2_11 rfl rfl dX2_halveNext_88 ?_
            refine x_iload dX2_halveNext_91 0 rfl ?_
            refine x_iconst (v := 1) dX2_halveNext_93 (by decide) ?_
            refine x_iadd dX2_halveNext_94 ?_
            have q11 : ((nI r.length) + 1 : Int32) = nI (r.length + 1) := nadd (rfl) (rfl)
            refine YY.S (st' := [.int (nI (r.length + 1)), .ref (g.2.1 39), .ref (g.2.1 (42 + r.length)), .ref (g.2.1 26)]) (by rw [q11]) ?_
            have b12 : vp_in (nI (r.length + 1)) 7 := by exact vp_in_nI (by omega) (by decide)
            refine x_aaldP rfl b12 dX2_halveNext_95 ?_
            refine YY.S (st' := [.ref (g.2.1 (42 + (r.length + 1))), .ref (g.2.1 (42 + r.length)), .ref (g.2.1 26)]) (by rw [nI_clamp (by omega)]) ?_
            refine x_callV (K := jX2_halve) [.ref (g.2.1 (42 + r.length)), .ref (g.2.1 (42 + (r.length + 1)))] lk_X2_41 ⟨⟨rfl, rfl⟩, Nat.le_of_ble_eq_true rfl, Nat.le_of_ble_eq_true rfl⟩ rfl rfl (mX2_halve3 U (shRow r.length (by omega)) (shRow (r.length + 1) (by omega)) (by omega) (by omega) (by omega) hL) rfl (Nat.le_of_ble_eq_true rfl) rfl dX2_halveNext_96 (keV fun U13 hU14 => ?_)
            obtain ⟨ha1, ha2, ha3⟩ := hU14
            have hU40 : U13 40 r.length = nI h := by rw [ha3 40 _ (by omega) (by omega)]; exact s1
            have hU26 : U13 26 2 = nI (r.length + 1) := by rw [ha3 26 _ (by omega) (by omega)]; exact hw
            refine x_aload_n dX2_halveNext_99 3 rfl ?_
            refine x_getR fl_X2_16 rfl rfl dX2_halveNext_100 ?_
            refine x_iload dX2_halveNext_103 0 rfl ?_
            refine x_dup2 dX2_halveNext_105 rfl rfl ?_
            have b15 : vp_in (nI r.length) 7 := by exact vp_in_nI (by omega) (by decide)
            refine x_iald rfl b15 dX2_halveNext_106 ?_
            refine x_topi (y := U13 40 r.length) (by rw [nI_clamp (by omega)]) ?_
            refine x_topi (hU40) ?_
            refine x_iconst (v := 1) dX2_halveNext_107 (by decide) ?_
            refine x_iadd dX2_halveNext_108 ?_
            have b16 : vp_in (nI r.length) 7 := by exact vp_in_nI (by omega) (by decide)
            refine x_iast rfl b16 dX2_halveNext_109 ?_
            refine YY.V (V' := uM U13 40 r.length ((nI h) + 1)) (by rw [nI_clamp (by omega)]) ?_
            obtain ⟨U17, eU17⟩ : ∃ v_v : vM, v_v = uM U13 40 r.length ((nI h) + 1) := ⟨_, rfl⟩
            refine YY.V eU17.symm ?_
            refine x_aload_n dX2_halveNext_110 3 rfl ?_
            refine x_getR fl_X2_16 rfl rfl dX2_halveNext_111 ?_
            refine x_iload dX2_halveNext_114 0 rfl ?_
            refine x_iconst (v := 1) dX2_halveNext_116 (by decide) ?_
            refine x_iadd dX2_halveNext_117 ?_
            refine x_aload_n dX2_halveNext_118 3 rfl ?_
            refine x_getR fl_X2_16 rfl rfl dX2_halveNext_119 ?_
            refine x_iload dX2_halveNext_122 0 rfl ?_
            have b18 : vp_in (nI r.length) 7 := by exact vp_in_nI (by omega) (by decide)
            refine x_iald rfl b18 dX2_halveNext_124 ?_
            refine x_topi (y := U17 40 r.length) (by rw [nI_clamp (by omega)]) ?_
            refine x_topi (y := (nI h) + 1) (by rw [eU17, uM_hit]) ?_
            have q19 : ((nI r.length) + 1 : Int32) = nI (r.length + 1) := nadd (rfl) (rfl)
            refine YY.S (st' := [.int ((nI h) + 1), .int (nI (r.length + 1)), .ref (g.2.1 40)]) (by rw [q19]) ?_
            have b20 : vp_in (nI (r.length + 1)) 7 := by exact vp_in_nI (by omega) (by decide)
            refine x_iast rfl b20 dX2_halveNext_125 ?_
            refine YY.V (V' := uM U17 40 (r.length + 1) ((nI h) + 1)) (by rw [nI_clamp (by omega)]) ?_
            obtain ⟨U21, eU21⟩ : ∃ v_v : vM, v_v = uM U17 40 (r.length + 1) ((nI h) + 1) := ⟨_, rfl⟩
            refine YY.V eU21.symm ?_
            refine x_aload_n dX2_halveNext_126 3 rfl ?_
            refine x_dup dX2_halveNext_127 rfl ?_
            refine x_getI fl_X2_20 rfl rfl dX2_halveNext_128 ?_
            refine x_topi (y := U13 26 2) (by rw [eU21, uM_na (by decide), eU17, uM_na (by decide)]) ?_
            refine x_topi (hU26) ?_
            refine x_iconst (v := 1) dX2_halveNext_131 (by decide) ?_
            refine x_iadd dX2_halveNext_132 ?_
            refine x_putI fp_X2_20 rfl rfl dX2_halveNext_133 ?_
            obtain ⟨U22, eU22⟩ : ∃ v_v : vM, v_v = uM U21 26 2 ((nI (r.length + 1)) + 1) := ⟨_, rfl⟩
            refine YY.V eU22.symm ?_
            refine x_iinc 3 (v := (nI i) + 1) 1 [(3, .int ((nI i) + 1)), (4, .int (nI r.length)), (2, .int (2 * t)), (0, .ref (g.2.1 26)), (1, .int t)] dX2_halveNext_136 rfl (by rfl) (by decide) rfl ?_
            refine x_goto 20 dX2_halveNext_139 (by decide) ?_
            refine x_lv [0, 2, 3, 4] rfl ?_
            refine YY.L (lv' := [(3, .int (nI (i + 1))), (2, .int (2 * t)), (0, .ref (g.2.1 26)), (1, .int t)]) (by first | rfl | (simp only [nI_1]; done) | (simp only [← nI_add]; rfl)) ?_
            exact ih (i + 1) (h + 1) (hA 3 p) ((h + 1, hB 3 p) :: r) U22 (by omega) (by omega) (by have := HS_step (by omega) hH (by omega) (by assumption) ha1 ha2 ha3; subst_vars; simpa [nI_1] using this) (by omega)
          · have c9n : (flt 3 (U (42 + r.length)) t) := Classical.not_not.mp (fun q => c9 (bP_0.mpr q))
            refine x_vret dX2_halveNext_78 rfl ?_
            rw [hQ]
            refine ⟨rfl, h, p, r, hH, ?_⟩
            first | exact Or.inl (by omega) | exact Or.inr (by assumption)
  refine YY.L (lv' := [(3, .int (nI 0)), (2, .int (2 * t)), (0, .ref (g.2.1 26)), (1, .int t)]) (by rfl) ?_
  exact lp2 _ 0 h0 p0 r0 V (by omega) (by omega) (by exact H0) (Nat.lt_succ_self _)
