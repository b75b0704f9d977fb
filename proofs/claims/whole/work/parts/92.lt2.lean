theorem LCc.E {V : vM} {n : Nat} {W T : Nat → Int32} {o md : Int32} (h : LCc V n W T o md) : (if n = 0 then V 9 7 else lbg V n (n - 1) + V 32 (V 31 (n - 1)).toNatClampNeg) = ltE n o W T := by
  unfold ltE
  by_cases q : n = 0
  · rw [if_pos q, if_pos q]; exact h.2.1
  · rw [if_neg q, if_neg q, h.B (n - 1) (by omega), h.2.2.2.2.2.1 (n - 1) (by omega)]
theorem ltE_b {n : Nat} {W T : Nat → Int32} {o : Int32} (h : LB n W T o) : -40000 ≤ (ltE n o W T).toInt ∧ (ltE n o W T).toInt ≤ 300000 := by
  have n24 := h.1
  have ob := h.2.2
  unfold ltE
  by_cases q : n = 0
  · rw [if_pos q]; omega
  · rw [if_neg q]
    have a := ltB_b h (n - 1) (by omega)
    have b := (h.2.1 (n - 1) (by omega)).1
    rw [fb_addI] <;> omega
theorem lt_pos {n : Nat} {W T : Nat → Int32} {o L : Int32} (h : LB n W T o) (h1 : L < ltE n o W T) (h2 : o < L) : 0 < ltE n o W T - o := by
  have a := ltE_b h
  have ob := h.2.2
  rw [Int32.lt_iff_toInt_lt] at h1 h2 ⊢
  rw [fb_subI (by omega) (by omega), show (0 : Int32).toInt = 0 from rfl]
  omega
section
variable {f o md : Int32} {n : Nat} {W T : Nat → Int32} {L : Int32} {i : Nat}
theorem ctr_r (h : md = 2 ∧ ¬ f = 0 ∧ ¬ L = 0) : modI (ltB o T i + W i / 2) L = ctr f o md n W T L i := by
  unfold ctr; rw [if_pos h]
theorem ctr_q (h : ¬ (md = 2 ∧ ¬ f = 0 ∧ ¬ L = 0)) (h2 : md = 1 ∧ L < ltE n o W T ∧ o < L) : ltQ o L (ltE n o W T) (ltB o T i + W i / 2) = ctr f o md n W T L i := by
  unfold ctr; rw [if_neg h, if_pos h2]
theorem ctr_p (h : ¬ (md = 2 ∧ ¬ f = 0 ∧ ¬ L = 0)) (h2 : ¬ (md = 1 ∧ L < ltE n o W T ∧ o < L)) : ltB o T i + W i / 2 = ctr f o md n W T L i := by
  unfold ctr; rw [if_neg h, if_neg h2]
end
theorem ltOne_y {S : FS} {fb : Nat → Nat} {n : Nat} {W T : Nat → Int32} {o md : Int32} {c i : Nat} {L : Int32} (eL : L = lnC S fb c) (h1 : 1 < fb (c + 1) - fb c) (h2 : 0 ≤ ctr (S.2.2 6 c) o md n W T L i ∧ ctr (S.2.2 6 c) o md n W T L i ≤ L) : (ltOne S fb n W T o md c i).1 = some c := by
  subst eL
  exact if_pos ⟨h1, h2⟩
theorem ltOne_n {S : FS} {fb : Nat → Nat} {n : Nat} {W T : Nat → Int32} {o md : Int32} {c i : Nat} {L : Int32} (eL : L = lnC S fb c) (h : ¬ (1 < fb (c + 1) - fb c) ∨ ¬ (0 ≤ ctr (S.2.2 6 c) o md n W T L i ∧ ctr (S.2.2 6 c) o md n W T L i ≤ L)) : (ltOne S fb n W T o md c i).1 = none := by
  subst eL
  exact if_neg (fun q => h.elim (fun z => z q.1) (fun z => z q.2))
theorem has_n {h s : Nat} (hh : h < 2 ^ 31) (hs : s < 2 ^ 31) : iB (0 ≤ nI h ∧ nI h < nI s) = iB (h < s) := iB_iff ⟨fun q => (nI_ltI hh hs).mp q.2, fun q => ⟨nI_pos' hh, (nI_ltI hh hs).mpr q⟩⟩
theorem ltMov_y {S : FS} {fb : Nat → Nat} {W T : Nat → Int32} {o : Int32} {c i h : Nat} {b : Int32} (e : ltK S fb W T o c i = (h, b)) (h1 : h < S.2.1) (h2 : 0 ≤ b + W i / 2) : (ltMov S fb W T o c i).1 = some h := by
  unfold ltMov
  rw [e]
  exact if_pos ⟨h1, h2⟩
theorem ltMov_n {S : FS} {fb : Nat → Nat} {W T : Nat → Int32} {o : Int32} {c i h : Nat} {b : Int32} (e : ltK S fb W T o c i = (h, b)) (h1 : ¬ h < S.2.1 ∨ ¬ 0 ≤ b + W i / 2) : (ltMov S fb W T o c i).1 = none := by
  unfold ltMov
  rw [e]
  exact if_neg (fun q => h1.elim (fun z => z q.1) (fun z => z q.2))
theorem ltMov_2 {S : FS} {fb : Nat → Nat} {W T : Nat → Int32} {o : Int32} {c i h : Nat} {b : Int32} (e : ltK S fb W T o c i = (h, b)) : b + W i / 2 = (ltMov S fb W T o c i).2 := by
  unfold ltMov
  rw [e]
set_option maxHeartbeats 4000000 in
set_option maxRecDepth 100000 in
theorem mX3_layOnOne {g : gX} {V : vM} {S : FS} {fb : Nat → Nat} (hF : FRC V S) (hG : GI S fb) (h24 : S.2.1 ≤ 24) (h15 : S.1 ≤ 1536) (n : Nat) (W T : Nat → Int32) (o md : Int32) (hL : LCc V n W T o md) (c : Nat) (hc : c < S.2.1) (hlb : 0 ≤ (lnC S fb c).toInt ∧ (lnC S fb c).toInt ≤ 300000000) : MM g jX3_layOnOne V [.ref (g.2.1 9), .ref (g.2.1 6), .int (nI c)] (eV (fun U => fr9 V U ∧ LRc U n (ltOne S fb n W T o md c))) := by
  refine MM.of plX3_layOnOne (Nat.le_of_ble_eq_true rfl) ?_
  obtain ⟨Q, hQ⟩ : ∃ Q : Option Value → vM → Prop, Q = (eV (fun U => fr9 V U ∧ LRc U n (ltOne S fb n W T o md c))) := ⟨_, rfl⟩
  rw [← hQ]
  show XX g jX3_layOnOne Q V 0 [(0, .ref (g.2.1 9)), (1, .ref (g.2.1 6)), (2, .int (nI c))] []
  refine x_aload_n dX3_layOnOne_0 1 rfl ?_
  refine x_iload_n dX3_layOnOne_1 2 rfl ?_
  refine x_callV (K := jX1_lengthOf) [.int (nI c)] lk_X3_69 ⟨⟨rfl, rfl⟩, Nat.le_of_ble_eq_true rfl, Nat.le_of_ble_eq_true rfl⟩ rfl rfl (mX1_lengthOf hF hG h24 h15 c (by omega)) rfl (Nat.le_of_ble_eq_true rfl) rfl dX3_layOnOne_2 (kpI ?_)
  obtain ⟨L, eL⟩ : ∃ z : Int32, z = lnC S fb c := ⟨_, rfl⟩
  rw [← eL] at hlb
  have hLB := hL.2.2.2.1
  have hn24 := hLB.1
  have hFV := hF
  refine x_topi (y := L) eL.symm ?_
  refine x_istore_n 3 [(3, .int L), (0, .ref (g.2.1 9)), (1, .ref (g.2.1 6)), (2, .int (nI c))] dX3_layOnOne_5 rfl (by decide) rfl ?_
  refine x_aload_n dX3_layOnOne_6 1 rfl ?_
  refine x_getI fl_X3_40 rfl rfl dX3_layOnOne_7 ?_
  refine x_topi (hL.2.2.1) ?_
  refine x_iconst (v := 2) dX3_layOnOne_10 (by decide) ?_
  have jn3 : ∀ (z2 : Int32), ((¬ md = 2 ∧ z2 = 0) ∨ (md = 2 ∧ ¬ (¬ S.2.2 6 c = 0) ∧ z2 = 0) ∨ (md = 2 ∧ (¬ S.2.2 6 c = 0) ∧ L = 0 ∧ z2 = 0) ∨ (md = 2 ∧ (¬ S.2.2 6 c = 0) ∧ ¬ L = 0 ∧ z2 = 1)) → XX g jX3_layOnOne Q V 31 [(3, .int L), (0, .ref (g.2.1 9)), (1, .ref (g.2.1 6)), (2, .int (nI c))] [.int z2] := by
    intro z2 hj4
    have hzz : z2 = iB (md = 2 ∧ ¬ S.2.2 6 c = 0 ∧ ¬ L = 0) := by
      rcases hj4 with ⟨q1, qz⟩ | ⟨q1, q2, qz⟩ | ⟨q1, q2, q3, qz⟩ | ⟨q1, q2, q3, qz⟩
      · rw [qz]; exact (iB_0.mpr (fun z => q1 z.1)).symm
      · rw [qz]; exact (iB_0.mpr (fun z => q2 z.2.1)).symm
      · rw [qz]; exact (iB_0.mpr (fun z => z.2.2 q3)).symm
      · rw [qz]; exact (iB_1.mpr ⟨q1, q2, q3⟩).symm
    refine x_topi (y := iB (md = 2 ∧ ¬ S.2.2 6 c = 0 ∧ ¬ L = 0)) hzz ?_
    refine x_istore 4 [(4, .int (iB (md = 2 ∧ ¬ S.2.2 6 c = 0 ∧ ¬ L = 0))), (3, .int L), (0, .ref (g.2.1 9)), (1, .ref (g.2.1 6)), (2, .int (nI c))] dX3_layOnOne_31 (by decide) rfl ?_
    refine x_aload_n dX3_layOnOne_33 2 rfl ?_
    refine x_callV (K := jX3_endOfAll) [] lk_X3_77 ⟨⟨rfl, rfl⟩, Nat.le_of_ble_eq_true rfl, Nat.le_of_ble_eq_true rfl⟩ rfl rfl (by have := mX3_endOfAll (g := g) V n (by omega) hL.1 hL.2.2.2.2.1; rw [hL.E] at this; exact this) rfl (Nat.le_of_ble_eq_true rfl) rfl dX3_layOnOne_34 (kpI ?_)
    refine x_istore 5 [(5, .int (ltE n o W T)), (4, .int (iB (md = 2 ∧ ¬ S.2.2 6 c = 0 ∧ ¬ L = 0))), (3, .int L), (0, .ref (g.2.1 9)), (1, .ref (g.2.1 6)), (2, .int (nI c))] dX3_layOnOne_37 (by decide) rfl ?_
    refine x_aload_n dX3_layOnOne_39 3 rfl ?_
    refine x_getI fl_X3_40 rfl rfl dX3_layOnOne_40 ?_
    refine x_topi (hL.2.2.1) ?_
    refine x_iconst (v := 1) dX3_layOnOne_43 (by decide) ?_
    have jn7 : ∀ (z6 : Int32), ((¬ md = 1 ∧ z6 = 0) ∨ (md = 1 ∧ (ltE n o W T) ≤ L ∧ z6 = 0) ∨ (md = 1 ∧ ¬ (ltE n o W T) ≤ L ∧ L ≤ o ∧ z6 = 0) ∨ (md = 1 ∧ ¬ (ltE n o W T) ≤ L ∧ ¬ L ≤ o ∧ z6 = 1)) → XX g jX3_layOnOne Q V 66 [(5, .int (ltE n o W T)), (4, .int (iB (md = 2 ∧ ¬ S.2.2 6 c = 0 ∧ ¬ L = 0))), (3, .int L), (0, .ref (g.2.1 9)), (1, .ref (g.2.1 6)), (2, .int (nI c))] [.int z6] := by
      intro z6 hj8
      have hzz : z6 = iB (md = 1 ∧ L < ltE n o W T ∧ o < L) := by
        rcases hj8 with ⟨q1, qz⟩ | ⟨q1, q2, qz⟩ | ⟨q1, q2, q3, qz⟩ | ⟨q1, q2, q3, qz⟩
        · rw [qz]; exact (iB_0.mpr (fun z => q1 z.1)).symm
        · rw [qz]; exact (iB_0.mpr (fun z => absurd z.2.1 (Int32.not_lt.mpr q2))).symm
        · rw [qz]; exact (iB_0.mpr (fun z => absurd z.2.2 (Int32.not_lt.mpr q3))).symm
        · rw [qz]; exact (iB_1.mpr ⟨q1, Int32.not_le.mp q2, Int32.not_le.mp q3⟩).symm
      refine x_topi (y := iB (md = 1 ∧ L < ltE n o W T ∧ o < L)) hzz ?_
      refine x_istore 6 [(6, .int (iB (md = 1 ∧ L < ltE n o W T ∧ o < L))), (5, .int (ltE n o W T)), (4, .int (iB (md = 2 ∧ ¬ S.2.2 6 c = 0 ∧ ¬ L = 0))), (3, .int L), (0, .ref (g.2.1 9)), (1, .ref (g.2.1 6)), (2, .int (nI c))] dX3_layOnOne_66 (by decide) rfl ?_
      refine x_aload_n dX3_layOnOne_68 4 rfl ?_
      refine x_getI fl_X3_34 rfl rfl dX3_layOnOne_69 ?_
      refine x_topi (hL.2.1) ?_
      refine x_istore 7 [(7, .int o), (6, .int (iB (md = 1 ∧ L < ltE n o W T ∧ o < L))), (5, .int (ltE n o W T)), (4, .int (iB (md = 2 ∧ ¬ S.2.2 6 c = 0 ∧ ¬ L = 0))), (3, .int L), (0, .ref (g.2.1 9)), (1, .ref (g.2.1 6)), (2, .int (nI c))] dX3_layOnOne_72 (by decide) rfl ?_
      refine x_iconst (v := 0) dX3_layOnOne_74 (by decide) ?_
      refine x_istore 8 [(8, .int 0), (7, .int o), (6, .int (iB (md = 1 ∧ L < ltE n o W T ∧ o < L))), (5, .int (ltE n o W T)), (4, .int (iB (md = 2 ∧ ¬ S.2.2 6 c = 0 ∧ ¬ L = 0))), (3, .int L), (0, .ref (g.2.1 9)), (1, .ref (g.2.1 6)), (2, .int (nI c))] dX3_layOnOne_75 (by decide) rfl ?_
      have lp9 : ∀ (fu : Nat) (i : Nat) (U : vM), (i ≤ n) → (fr9 V U) → (LRc U i (ltOne S fb n W T o md c)) → (n - i) < fu → XX g jX3_layOnOne Q U 77 [(8, .int (nI i)), (7, .int (ltB o T i)), (6, .int (iB (md = 1 ∧ L < ltE n o W T ∧ o < L))), (5, .int (ltE n o W T)), (4, .int (iB (md = 2 ∧ ¬ S.2.2 6 c = 0 ∧ ¬ L = 0))), (3, .int L), (0, .ref (g.2.1 9)), (1, .ref (g.2.1 6)), (2, .int (nI c))] [] := by
        intro fu
        induction fu with
        | zero => intro _ _ _ _ _ hmz; exact absurd hmz (Nat.not_lt_zero _)
        | succ fu ih =>
          intro i U hi hfU hR hmz
          have hLU := hL.ag (fun a j q => hfU a j (by omega) (by omega))
          have hF := hFV.ag (fun a j q => hfU a j (by omega) (by omega))
          refine x_iload dX3_layOnOne_77 0 rfl ?_
          refine x_aload_n dX3_layOnOne_79 6 rfl ?_
          refine x_getI fl_X3_27 rfl rfl dX3_layOnOne_80 ?_
          refine x_topi (hLU.1) ?_
          refine x_icmp_ge 199 dX3_layOnOne_83 (by decide) (fun c10 => ?_) (fun c10 => ?_)
          · have c10n : n ≤ i := (nl_le (a := n) (b := i) (rfl) (rfl) (by omega) (by omega)).mp c10
            refine x_vret dX3_layOnOne_199 rfl ?_
            rw [hQ]
            have ei : i = n := by omega
            subst ei
            exact ⟨rfl, hfU, hR⟩
          · have c10n : i < n := Nat.not_le.mp (fun q => c10 ((nl_le (a := n) (b := i) (rfl) (rfl) (by omega) (by omega)).mpr q))
            refine x_iload dX3_layOnOne_86 1 rfl ?_
            refine x_aload_n dX3_layOnOne_88 6 rfl ?_
            refine x_iload dX3_layOnOne_89 0 rfl ?_
            refine x_callV (K := jX3_widthAt) [.int (nI i)] lk_X3_59 ⟨⟨rfl, rfl⟩, Nat.le_of_ble_eq_true rfl, Nat.le_of_ble_eq_true rfl⟩ rfl rfl (by have := mX3_widthAt (g := g) U i n (by omega) (by omega) hLU.1 hLU.2.2.2.2.1; rw [hLU.2.2.2.2.2.1 i (by omega)] at this; exact this) rfl (Nat.le_of_ble_eq_true rfl) rfl dX3_layOnOne_91 (kpI ?_)
            refine x_iconst (v := 2) dX3_layOnOne_94 (by decide) ?_
            have nz11 : ¬ (2 : Int32) = 0 := by decide
            refine x_idiv dX3_layOnOne_95 nz11 ?_
            refine x_iadd dX3_layOnOne_96 ?_
            refine x_istore 9 [(9, .int ((ltB o T i) + ((W i) / 2))), (8, .int (nI i)), (7, .int (ltB o T i)), (6, .int (iB (md = 1 ∧ L < ltE n o W T ∧ o < L))), (5, .int (ltE n o W T)), (4, .int (iB (md = 2 ∧ ¬ S.2.2 6 c = 0 ∧ ¬ L = 0))), (3, .int L), (0, .ref (g.2.1 9)), (1, .ref (g.2.1 6)), (2, .int (nI c))] dX3_layOnOne_97 (by decide) rfl ?_
            refine x_iload dX3_layOnOne_99 5 rfl ?_
            refine x_if_eq 115 dX3_layOnOne_101 (by decide) (fun c12 => ?_) (fun c12 => ?_)
            · have c12n : ¬ (md = 2 ∧ ¬ S.2.2 6 c = 0 ∧ ¬ L = 0) := iB_0.mp c12
              refine x_iload dX3_layOnOne_115 3 rfl ?_
              refine x_if_eq 131 dX3_layOnOne_117 (by decide) (fun c13 => ?_) (fun c13 => ?_)
              · have c13n : ¬ (md = 1 ∧ L < ltE n o W T ∧ o < L) := iB_0.mp c13
                refine YY.L (lv' := [(9, .int (ctr (S.2.2 6 c) o md n W T L i)), (8, .int (nI i)), (7, .int (ltB o T i)), (6, .int (iB (md = 1 ∧ L < ltE n o W T ∧ o < L))), (5, .int (ltE n o W T)), (4, .int (iB (md = 2 ∧ ¬ S.2.2 6 c = 0 ∧ ¬ L = 0))), (3, .int L), (0, .ref (g.2.1 9)), (1, .ref (g.2.1 6)), (2, .int (nI c))]) (by rw [ctr_p (f := S.2.2 6 c) (o := o) (md := md) (n := n) (W := W) (T := T) (L := L) (i := i) (by assumption) (by assumption)]) ?_
                refine x_aload_n dX3_layOnOne_131 8 rfl ?_
                refine x_iload_n dX3_layOnOne_132 9 rfl ?_
                refine x_callV (K := jX1_hasSegments) [.int (nI c)] lk_X3_90 ⟨⟨rfl, rfl⟩, Nat.le_of_ble_eq_true rfl, Nat.le_of_ble_eq_true rfl⟩ rfl rfl (mX1_hasSegments hF hG h24 h15 c (by omega)) rfl (Nat.le_of_ble_eq_true rfl) rfl dX3_layOnOne_133 (kpI ?_)
                refine x_if_eq 153 dX3_layOnOne_136 (by decide) (fun c14 => ?_) (fun c14 => ?_)
                · have c14n : ¬ (1 < fb (c + 1) - fb c) := iB_0.mp c14
                  refine x_iconst (v := 0) dX3_layOnOne_153 (by decide) ?_
                  refine x_istore 10 [(10, .int 0), (9, .int (ctr (S.2.2 6 c) o md n W T L i)), (8, .int (nI i)), (7, .int (ltB o T i)), (6, .int (iB (md = 1 ∧ L < ltE n o W T ∧ o < L))), (5, .int (ltE n o W T)), (4, .int (iB (md = 2 ∧ ¬ S.2.2 6 c = 0 ∧ ¬ L = 0))), (3, .int L), (0, .ref (g.2.1 9)), (1, .ref (g.2.1 6)), (2, .int (nI c))] dX3_layOnOne_154 (by decide) rfl ?_
                  refine x_aload_n dX3_layOnOne_156 8 rfl ?_
                  refine x_getR fl_X3_21 rfl rfl dX3_layOnOne_157 ?_
                  refine x_iload dX3_layOnOne_160 2 rfl ?_
                  refine x_iload dX3_layOnOne_162 1 rfl ?_
                  have b15 : vp_in (nI i) 24 := by exact vp_in_nI (by omega) (by decide)
                  refine x_iast rfl b15 dX3_layOnOne_164 ?_
                  refine YY.V (V' := uM U 34 i (ctr (S.2.2 6 c) o md n W T L i)) (by rw [nI_clamp (by omega)]) ?_
                  obtain ⟨U16, eU16⟩ : ∃ v_v : vM, v_v = uM U 34 i (ctr (S.2.2 6 c) o md n W T L i) := ⟨_, rfl⟩
                  refine YY.V eU16.symm ?_
                  refine x_aload_n dX3_layOnOne_165 8 rfl ?_
                  refine x_getR fl_X3_24 rfl rfl dX3_layOnOne_166 ?_
                  refine x_iload dX3_layOnOne_169 2 rfl ?_
                  refine x_iload dX3_layOnOne_171 0 rfl ?_
                  refine x_if_eq 180 dX3_layOnOne_173 (by decide) (fun c17 => ?_) (fun c17 => by exfalso; revert c17; decide)
                  refine x_iconst (v := -1) dX3_layOnOne_180 (by decide) ?_
                  have b18 : vp_in (nI i) 24 := by exact vp_in_nI (by omega) (by decide)
                  refine x_iast rfl b18 dX3_layOnOne_181 ?_
                  refine YY.V (V' := uM U16 35 i (-1)) (by rw [nI_clamp (by omega)]) ?_
                  obtain ⟨U19, eU19⟩ : ∃ v_v : vM, v_v = uM U16 35 i (-1) := ⟨_, rfl⟩
                  refine YY.V eU19.symm ?_
                  have hf2 := hfU.st (show U19 = uM (uM U 34 i _) 35 i _ by rw [eU19, eU16])
                  have hL2 := hL.ag (fun a j q => hf2 a j (by omega) (by omega))
                  refine x_iload dX3_layOnOne_182 3 rfl ?_
                  refine x_aload_n dX3_layOnOne_184 8 rfl ?_
                  refine x_iload dX3_layOnOne_185 2 rfl ?_
                  refine x_callV (K := jX3_stepAfter) [.int (nI i)] lk_X3_97 ⟨⟨rfl, rfl⟩, Nat.le_of_ble_eq_true rfl, Nat.le_of_ble_eq_true rfl⟩ rfl rfl ((show pI U19 (stpA U19 n i) = pI U19 (T i) by rw [hL2.2.2.2.2.2.2 i (by omega)]) ▸ (mX3_stepAfter (g := g) U19 i n (by omega) (by omega) hL2.1 hL2.2.2.2.2.1 : MM g jX3_stepAfter U19 _ (pI U19 (stpA U19 n i)))) rfl (Nat.le_of_ble_eq_true rfl) rfl dX3_layOnOne_187 (kpI ?_)
                  refine x_iadd dX3_layOnOne_190 ?_
                  refine x_istore 7 [(7, .int ((ltB o T i) + (T i))), (10, .int 0), (9, .int (ctr (S.2.2 6 c) o md n W T L i)), (8, .int (nI i)), (6, .int (iB (md = 1 ∧ L < ltE n o W T ∧ o < L))), (5, .int (ltE n o W T)), (4, .int (iB (md = 2 ∧ ¬ S.2.2 6 c = 0 ∧ ¬ L = 0))), (3, .int L), (0, .ref (g.2.1 9)), (1, .ref (g.2.1 6)), (2, .int (nI c))] dX3_layOnOne_191 (by decide) rfl ?_
                  refine x_iinc 8 (v := (nI i) + 1) 3 [(8, .int ((nI i) + 1)), (7, .int ((ltB o T i) + (T i))), (10, .int 0), (9, .int (ctr (S.2.2 6 c) o md n W T L i)), (6, .int (iB (md = 1 ∧ L < ltE n o W T ∧ o < L))), (5, .int (ltE n o W T)), (4, .int (iB (md = 2 ∧ ¬ S.2.2 6 c = 0 ∧ ¬ L = 0))), (3, .int L), (0, .ref (g.2.1 9)), (1, .ref (g.2.1 6)), (2, .int (nI c))] dX3_layOnOne_193 rfl (by rfl) (by decide) rfl ?_
                  refine x_goto 77 dX3_layOnOne_196 (by decide) ?_
                  refine x_lv [0, 1, 4, 5, 6, 7, 8, 9, 10] rfl ?_
                  refine YY.L (lv' := [(8, .int (nI (i + 1))), (7, .int (ltB o T (i + 1))), (6, .int (iB (md = 1 ∧ L < ltE n o W T ∧ o < L))), (5, .int (ltE n o W T)), (4, .int (iB (md = 2 ∧ ¬ S.2.2 6 c = 0 ∧ ¬ L = 0))), (3, .int L), (0, .ref (g.2.1 9)), (1, .ref (g.2.1 6)), (2, .int (nI c))]) (by rw [nI_1] <;> rfl) ?_
                  exact ih (i + 1) U19 (by omega) (by exact hfU.st (show U19 = uM (uM U 34 i _) 35 i _ by rw [eU19, eU16])) (by exact hR.put (show U19 = uM (uM U 34 i _) 35 i _ by rw [eU19, eU16]) (by rw [eL]; rfl) (by rw [ltOne_n eL (by first | exact Or.inl (by assumption) | exact Or.inr (by assumption))]; rfl)) (by omega)
                · have c14n : (1 < fb (c + 1) - fb c) := Classical.not_not.mp (fun q => c14 (iB_0.mpr q))
                  refine x_iload dX3_layOnOne_139 0 rfl ?_
                  refine x_iconst (v := 0) dX3_layOnOne_141 (by decide) ?_
                  refine x_iload_n dX3_layOnOne_142 6 rfl ?_
                  refine x_callSN (K := jX9_between) [.int (ctr (S.2.2 6 c) o md n W T L i), .int 0, .int L] kbX9_between st_between (nwr3 (g := g)) ⟨⟨rfl, rfl⟩, Nat.le_of_ble_eq_true rfl, Nat.le_of_ble_eq_true rfl⟩ (mX9_between U (ctr (S.2.2 6 c) o md n W T L i) 0 L) rfl (Nat.le_of_ble_eq_true rfl) rfl dX3_layOnOne_143 (kpI ?_)
                  refine x_if_eq 153 dX3_layOnOne_146 (by decide) (fun c20 => ?_) (fun c20 => ?_)
                  · have c20n : ¬ (0 ≤ (ctr (S.2.2 6 c) o md n W T L i) ∧ (ctr (S.2.2 6 c) o md n W T L i) ≤ L) := iB_0.mp c20
                    refine x_iconst (v := 0) dX3_layOnOne_153 (by decide) ?_
                    refine x_istore 10 [(10, .int 0), (9, .int (ctr (S.2.2 6 c) o md n W T L i)), (8, .int (nI i)), (7, .int (ltB o T i)), (6, .int (iB (md = 1 ∧ L < ltE n o W T ∧ o < L))), (5, .int (ltE n o W T)), (4, .int (iB (md = 2 ∧ ¬ S.2.2 6 c = 0 ∧ ¬ L = 0))), (3, .int L), (0, .ref (g.2.1 9)), (1, .ref (g.2.1 6)), (2, .int (nI c))] dX3_layOnOne_154 (by decide) rfl ?_
                    refine x_aload_n dX3_layOnOne_156 8 rfl ?_
                    refine x_getR fl_X3_21 rfl rfl dX3_layOnOne_157 ?_
                    refine x_iload dX3_layOnOne_160 2 rfl ?_
                    refine x_iload dX3_layOnOne_162 1 rfl ?_
                    have b21 : vp_in (nI i) 24 := by exact vp_in_nI (by omega) (by decide)
                    refine x_iast rfl b21 dX3_layOnOne_164 ?_
                    refine YY.V (V' := uM U 34 i (ctr (S.2.2 6 c) o md n W T L i)) (by rw [nI_clamp (by omega)]) ?_
                    obtain ⟨U22, eU22⟩ : ∃ v_v : vM, v_v = uM U 34 i (ctr (S.2.2 6 c) o md n W T L i) := ⟨_, rfl⟩
                    refine YY.V eU22.symm ?_
                    refine x_aload_n dX3_layOnOne_165 8 rfl ?_
                    refine x_getR fl_X3_24 rfl rfl dX3_layOnOne_166 ?_
                    refine x_iload dX3_layOnOne_169 2 rfl ?_
                    refine x_iload dX3_layOnOne_171 0 rfl ?_
                    refine x_if_eq 180 dX3_layOnOne_173 (by decide) (fun c23 => ?_) (fun c23 => by exfalso; revert c23; decide)
                    refine x_iconst (v := -1) dX3_layOnOne_180 (by decide) ?_
                    have b24 : vp_in (nI i) 24 := by exact vp_in_nI (by omega) (by decide)
                    refine x_iast rfl b24 dX3_layOnOne_181 ?_
                    refine YY.V (V' := uM U22 35 i (-1)) (by rw [nI_clamp (by omega)]) ?_
                    obtain ⟨U25, eU25⟩ : ∃ v_v : vM, v_v = uM U22 35 i (-1) := ⟨_, rfl⟩
                    refine YY.V eU25.symm ?_
                    have hf2 := hfU.st (show U25 = uM (uM U 34 i _) 35 i _ by rw [eU25, eU22])
                    have hL2 := hL.ag (fun a j q => hf2 a j (by omega) (by omega))
                    refine x_iload dX3_layOnOne_182 3 rfl ?_
                    refine x_aload_n dX3_layOnOne_184 8 rfl ?_
                    refine x_iload dX3_layOnOne_185 2 rfl ?_
                    refine x_callV (K := jX3_stepAfter) [.int (nI i)] lk_X3_97 ⟨⟨rfl, rfl⟩, Nat.le_of_ble_eq_true rfl, Nat.le_of_ble_eq_true rfl⟩ rfl rfl ((show pI U25 (stpA U25 n i) = pI U25 (T i) by rw [hL2.2.2.2.2.2.2 i (by omega)]) ▸ (mX3_stepAfter (g := g) U25 i n (by omega) (by omega) hL2.1 hL2.2.2.2.2.1 : MM g jX3_stepAfter U25 _ (pI U25 (stpA U25 n i)))) rfl (Nat.le_of_ble_eq_true rfl) rfl dX3_layOnOne_187 (kpI ?_)
                    refine x_iadd dX3_layOnOne_190 ?_
                    refine x_istore 7 [(7, .int ((ltB o T i) + (T i))), (10, .int 0), (9, .int (ctr (S.2.2 6 c) o md n W T L i)), (8, .int (nI i)), (6, .int (iB (md = 1 ∧ L < ltE n o W T ∧ o < L))), (5, .int (ltE n o W T)), (4, .int (iB (md = 2 ∧ ¬ S.2.2 6 c = 0 ∧ ¬ L = 0))), (3, .int L), (0, .ref (g.2.1 9)), (1, .ref (g.2.1 6)), (2, .int (nI c))] dX3_layOnOne_191 (by decide) rfl ?_
                    refine x_iinc 8 (v := (nI i) + 1) 3 [(8, .int ((nI i) + 1)), (7, .int ((ltB o T i) + (T i))), (10, .int 0), (9, .int (ctr (S.2.2 6 c) o md n W T L i)), (6, .int (iB (md = 1 ∧ L < ltE n o W T ∧ o < L))), (5, .int (ltE n o W T)), (4, .int (iB (md = 2 ∧ ¬ S.2.2 6 c = 0 ∧ ¬ L = 0))), (3, .int L), (0, .ref (g.2.1 9)), (1, .ref (g.2.1 6)), (2, .int (nI c))] dX3_layOnOne_193 rfl (by rfl) (by decide) rfl ?_
                    refine x_goto 77 dX3_layOnOne_196 (by decide) ?_
                    refine x_lv [0, 1, 4, 5, 6, 7, 8, 9, 10] rfl ?_
                    refine YY.L (lv' := [(8, .int (nI (i + 1))), (7, .int (ltB o T (i + 1))), (6, .int (iB (md = 1 ∧ L < ltE n o W T ∧ o < L))), (5, .int (ltE n o W T)), (4, .int (iB (md = 2 ∧ ¬ S.2.2 6 c = 0 ∧ ¬ L = 0))), (3, .int L), (0, .ref (g.2.1 9)), (1, .ref (g.2.1 6)), (2, .int (nI c))]) (by rw [nI_1] <;> rfl) ?_
                    exact ih (i + 1) U25 (by omega) (by exact hfU.st (show U25 = uM (uM U 34 i _) 35 i _ by rw [eU25, eU22])) (by exact hR.put (show U25 = uM (uM U 34 i _) 35 i _ by rw [eU25, eU22]) (by rw [eL]; rfl) (by rw [ltOne_n eL (by first | exact Or.inl (by assumption) | exact Or.inr (by assumption))]; rfl)) (by omega)
                  · have c20n : (0 ≤ (ctr (S.2.2 6 c) o md n W T L i) ∧ (ctr (S.2.2 6 c) o md n W T L i) ≤ L) := Classical.not_not.mp (fun q => c20 (iB_0.mpr q))
                    refine x_iconst (v := 1) dX3_layOnOne_149 (by decide) ?_
                    refine x_goto 154 dX3_layOnOne_150 (by decide) ?_
                    refine x_istore 10 [(10, .int 1), (9, .int (ctr (S.2.2 6 c) o md n W T L i)), (8, .int (nI i)), (7, .int (ltB o T i)), (6, .int (iB (md = 1 ∧ L < ltE n o W T ∧ o < L))), (5, .int (ltE n o W T)), (4, .int (iB (md = 2 ∧ ¬ S.2.2 6 c = 0 ∧ ¬ L = 0))), (3, .int L), (0, .ref (g.2.1 9)), (1, .ref (g.2.1 6)), (2, .int (nI c))] dX3_layOnOne_154 (by decide) rfl ?_
                    refine x_aload_n dX3_layOnOne_156 8 rfl ?_
                    refine x_getR fl_X3_21 rfl rfl dX3_layOnOne_157 ?_
                    refine x_iload dX3_layOnOne_160 2 rfl ?_
                    refine x_iload dX3_layOnOne_162 1 rfl ?_
                    have b26 : vp_in (nI i) 24 := by exact vp_in_nI (by omega) (by decide)
                    refine x_iast rfl b26 dX3_layOnOne_164 ?_
                    refine YY.V (V' := uM U 34 i (ctr (S.2.2 6 c) o md n W T L i)) (by rw [nI_clamp (by omega)]) ?_
                    obtain ⟨U27, eU27⟩ : ∃ v_v : vM, v_v = uM U 34 i (ctr (S.2.2 6 c) o md n W T L i) := ⟨_, rfl⟩
                    refine YY.V eU27.symm ?_
                    refine x_aload_n dX3_layOnOne_165 8 rfl ?_
                    refine x_getR fl_X3_24 rfl rfl dX3_layOnOne_166 ?_
                    refine x_iload dX3_layOnOne_169 2 rfl ?_
                    refine x_iload dX3_layOnOne_171 0 rfl ?_
                    refine x_if_eq 180 dX3_layOnOne_173 (by decide) (fun c28 => by exfalso; revert c28; decide) (fun c28 => ?_)
                    refine x_iload_n dX3_layOnOne_176 10 rfl ?_
                    refine x_goto 181 dX3_layOnOne_177 (by decide) ?_
                    have b29 : vp_in (nI i) 24 := by exact vp_in_nI (by omega) (by decide)
                    refine x_iast rfl b29 dX3_layOnOne_181 ?_
                    refine YY.V (V' := uM U27 35 i (nI c)) (by rw [nI_clamp (by omega)]) ?_
                    obtain ⟨U30, eU30⟩ : ∃ v_v : vM, v_v = uM U27 35 i (nI c) := ⟨_, rfl⟩
                    refine YY.V eU30.symm ?_
                    have hf2 := hfU.st (show U30 = uM (uM U 34 i _) 35 i _ by rw [eU30, eU27])
                    have hL2 := hL.ag (fun a j q => hf2 a j (by omega) (by omega))
                    refine x_iload dX3_layOnOne_182 3 rfl ?_
                    refine x_aload_n dX3_layOnOne_184 8 rfl ?_
                    refine x_iload dX3_layOnOne_185 2 rfl ?_
                    refine x_callV (K := jX3_stepAfter) [.int (nI i)] lk_X3_97 ⟨⟨rfl, rfl⟩, Nat.le_of_ble_eq_true rfl, Nat.le_of_ble_eq_true rfl⟩ rfl rfl ((show pI U30 (stpA U30 n i) = pI U30 (T i) by rw [hL2.2.2.2.2.2.2 i (by omega)]) ▸ (mX3_stepAfter (g := g) U30 i n (by omega) (by omega) hL2.1 hL2.2.2.2.2.1 : MM g jX3_stepAfter U30 _ (pI U30 (stpA U30 n i)))) rfl (Nat.le_of_ble_eq_true rfl) rfl dX3_layOnOne_187 (kpI ?_)
                    refine x_iadd dX3_layOnOne_190 ?_
                    refine x_istore 7 [(7, .int ((ltB o T i) + (T i))), (10, .int 1), (9, .int (ctr (S.2.2 6 c) o md n W T L i)), (8, .int (nI i)), (6, .int (iB (md = 1 ∧ L < ltE n o W T ∧ o < L))), (5, .int (ltE n o W T)), (4, .int (iB (md = 2 ∧ ¬ S.2.2 6 c = 0 ∧ ¬ L = 0))), (3, .int L), (0, .ref (g.2.1 9)), (1, .ref (g.2.1 6)), (2, .int (nI c))] dX3_layOnOne_191 (by decide) rfl ?_
                    refine x_iinc 8 (v := (nI i) + 1) 3 [(8, .int ((nI i) + 1)), (7, .int ((ltB o T i) + (T i))), (10, .int 1), (9, .int (ctr (S.2.2 6 c) o md n W T L i)), (6, .int (iB (md = 1 ∧ L < ltE n o W T ∧ o < L))), (5, .int (ltE n o W T)), (4, .int (iB (md = 2 ∧ ¬ S.2.2 6 c = 0 ∧ ¬ L = 0))), (3, .int L), (0, .ref (g.2.1 9)), (1, .ref (g.2.1 6)), (2, .int (nI c))] dX3_layOnOne_193 rfl (by rfl) (by decide) rfl ?_
                    refine x_goto 77 dX3_layOnOne_196 (by decide) ?_
                    refine x_lv [0, 1, 4, 5, 6, 7, 8, 9, 10] rfl ?_
                    refine YY.L (lv' := [(8, .int (nI (i + 1))), (7, .int (ltB o T (i + 1))), (6, .int (iB (md = 1 ∧ L < ltE n o W T ∧ o < L))), (5, .int (ltE n o W T)), (4, .int (iB (md = 2 ∧ ¬ S.2.2 6 c = 0 ∧ ¬ L = 0))), (3, .int L), (0, .ref (g.2.1 9)), (1, .ref (g.2.1 6)), (2, .int (nI c))]) (by rw [nI_1] <;> rfl) ?_
                    exact ih (i + 1) U30 (by omega) (by exact hfU.st (show U30 = uM (uM U 34 i _) 35 i _ by rw [eU30, eU27])) (by exact hR.put (show U30 = uM (uM U 34 i _) 35 i _ by rw [eU30, eU27]) (by rw [eL]; rfl) (by rw [ltOne_y eL (by assumption) (by assumption)]; rfl)) (by omega)
              · have c13n : (md = 1 ∧ L < ltE n o W T ∧ o < L) := Classical.not_not.mp (fun q => c13 (iB_0.mpr q))
                refine x_aload_n dX3_layOnOne_120 7 rfl ?_
                refine x_iload dX3_layOnOne_121 0 rfl ?_
                refine x_iload_n dX3_layOnOne_123 6 rfl ?_
                refine x_iload dX3_layOnOne_124 4 rfl ?_
                refine x_callV (K := jX3_squeeze) [.int ((ltB o T i) + ((W i) / 2)), .int L, .int (ltE n o W T)] lk_X3_86 ⟨⟨rfl, rfl⟩, Nat.le_of_ble_eq_true rfl, Nat.le_of_ble_eq_true rfl⟩ rfl rfl (by have := mX3_squeeze (g := g) U ((ltB o T i) + ((W i) / 2)) L (ltE n o W T); rw [hLU.2.1, if_pos (lt_pos hLB (show md = 1 ∧ L < ltE n o W T ∧ o < L by assumption).2.1 (show md = 1 ∧ L < ltE n o W T ∧ o < L by assumption).2.2)] at this; exact this) rfl (Nat.le_of_ble_eq_true rfl) rfl dX3_layOnOne_126 (kpI ?_)
                refine x_istore 9 [(9, .int (ltQ o L (ltE n o W T) ((ltB o T i) + ((W i) / 2)))), (8, .int (nI i)), (7, .int (ltB o T i)), (6, .int (iB (md = 1 ∧ L < ltE n o W T ∧ o < L))), (5, .int (ltE n o W T)), (4, .int (iB (md = 2 ∧ ¬ S.2.2 6 c = 0 ∧ ¬ L = 0))), (3, .int L), (0, .ref (g.2.1 9)), (1, .ref (g.2.1 6)), (2, .int (nI c))] dX3_layOnOne_129 (by decide) rfl ?_
                refine YY.L (lv' := [(9, .int (ctr (S.2.2 6 c) o md n W T L i)), (8, .int (nI i)), (7, .int (ltB o T i)), (6, .int (iB (md = 1 ∧ L < ltE n o W T ∧ o < L))), (5, .int (ltE n o W T)), (4, .int (iB (md = 2 ∧ ¬ S.2.2 6 c = 0 ∧ ¬ L = 0))), (3, .int L), (0, .ref (g.2.1 9)), (1, .ref (g.2.1 6)), (2, .int (nI c))]) (by rw [ctr_q (f := S.2.2 6 c) (o := o) (md := md) (n := n) (W := W) (T := T) (L := L) (i := i) (by assumption) (by assumption)]) ?_
                refine x_aload_n dX3_layOnOne_131 8 rfl ?_
                refine x_iload_n dX3_layOnOne_132 9 rfl ?_
                refine x_callV (K := jX1_hasSegments) [.int (nI c)] lk_X3_90 ⟨⟨rfl, rfl⟩, Nat.le_of_ble_eq_true rfl, Nat.le_of_ble_eq_true rfl⟩ rfl rfl (mX1_hasSegments hF hG h24 h15 c (by omega)) rfl (Nat.le_of_ble_eq_true rfl) rfl dX3_layOnOne_133 (kpI ?_)
                refine x_if_eq 153 dX3_layOnOne_136 (by decide) (fun c31 => ?_) (fun c31 => ?_)
                · have c31n : ¬ (1 < fb (c + 1) - fb c) := iB_0.mp c31
                  refine x_iconst (v := 0) dX3_layOnOne_153 (by decide) ?_
                  refine x_istore 10 [(10, .int 0), (9, .int (ctr (S.2.2 6 c) o md n W T L i)), (8, .int (nI i)), (7, .int (ltB o T i)), (6, .int (iB (md = 1 ∧ L < ltE n o W T ∧ o < L))), (5, .int (ltE n o W T)), (4, .int (iB (md = 2 ∧ ¬ S.2.2 6 c = 0 ∧ ¬ L = 0))), (3, .int L), (0, .ref (g.2.1 9)), (1, .ref (g.2.1 6)), (2, .int (nI c))] dX3_layOnOne_154 (by decide) rfl ?_
                  refine x_aload_n dX3_layOnOne_156 8 rfl ?_
                  refine x_getR fl_X3_21 rfl rfl dX3_layOnOne_157 ?_
                  refine x_iload dX3_layOnOne_160 2 rfl ?_
                  refine x_iload dX3_layOnOne_162 1 rfl ?_
                  have b32 : vp_in (nI i) 24 := by exact vp_in_nI (by omega) (by decide)
                  refine x_iast rfl b32 dX3_layOnOne_164 ?_
                  refine YY.V (V' := uM U 34 i (ctr (S.2.2 6 c) o md n W T L i)) (by rw [nI_clamp (by omega)]) ?_
                  obtain ⟨U33, eU33⟩ : ∃ v_v : vM, v_v = uM U 34 i (ctr (S.2.2 6 c) o md n W T L i) := ⟨_, rfl⟩
                  refine YY.V eU33.symm ?_
                  refine x_aload_n dX3_layOnOne_165 8 rfl ?_
                  refine x_getR fl_X3_24 rfl rfl dX3_layOnOne_166 ?_
                  refine x_iload dX3_layOnOne_169 2 rfl ?_
                  refine x_iload dX3_layOnOne_171 0 rfl ?_
                  refine x_if_eq 180 dX3_layOnOne_173 (by decide) (fun c34 => ?_) (fun c34 => by exfalso; revert c34; decide)
                  refine x_iconst (v := -1) dX3_layOnOne_180 (by decide) ?_
                  have b35 : vp_in (nI i) 24 := by exact vp_in_nI (by omega) (by decide)
                  refine x_iast rfl b35 dX3_layOnOne_181 ?_
                  refine YY.V (V' := uM U33 35 i (-1)) (by rw [nI_clamp (by omega)]) ?_
                  obtain ⟨U36, eU36⟩ : ∃ v_v : vM, v_v = uM U33 35 i (-1) := ⟨_, rfl⟩
                  refine YY.V eU36.symm ?_
                  have hf2 := hfU.st (show U36 = uM (uM U 34 i _) 35 i _ by rw [eU36, eU33])
                  have hL2 := hL.ag (fun a j q => hf2 a j (by omega) (by omega))
                  refine x_iload dX3_layOnOne_182 3 rfl ?_
                  refine x_aload_n dX3_layOnOne_184 8 rfl ?_
                  refine x_iload dX3_layOnOne_185 2 rfl ?_
                  refine x_callV (K := jX3_stepAfter) [.int (nI i)] lk_X3_97 ⟨⟨rfl, rfl⟩, Nat.le_of_ble_eq_true rfl, Nat.le_of_ble_eq_true rfl⟩ rfl rfl ((show pI U36 (stpA U36 n i) = pI U36 (T i) by rw [hL2.2.2.2.2.2.2 i (by omega)]) ▸ (mX3_stepAfter (g := g) U36 i n (by omega) (by omega) hL2.1 hL2.2.2.2.2.1 : MM g jX3_stepAfter U36 _ (pI U36 (stpA U36 n i)))) rfl (Nat.le_of_ble_eq_true rfl) rfl dX3_layOnOne_187 (kpI ?_)
                  refine x_iadd dX3_layOnOne_190 ?_
                  refine x_istore 7 [(7, .int ((ltB o T i) + (T i))), (10, .int 0), (9, .int (ctr (S.2.2 6 c) o md n W T L i)), (8, .int (nI i)), (6, .int (iB (md = 1 ∧ L < ltE n o W T ∧ o < L))), (5, .int (ltE n o W T)), (4, .int (iB (md = 2 ∧ ¬ S.2.2 6 c = 0 ∧ ¬ L = 0))), (3, .int L), (0, .ref (g.2.1 9)), (1, .ref (g.2.1 6)), (2, .int (nI c))] dX3_layOnOne_191 (by decide) rfl ?_
                  refine x_iinc 8 (v := (nI i) + 1) 3 [(8, .int ((nI i) + 1)), (7, .int ((ltB o T i) + (T i))), (10, .int 0), (9, .int (ctr (S.2.2 6 c) o md n W T L i)), (6, .int (iB (md = 1 ∧ L < ltE n o W T ∧ o < L))), (5, .int (ltE n o W T)), (4, .int (iB (md = 2 ∧ ¬ S.2.2 6 c = 0 ∧ ¬ L = 0))), (3, .int L), (0, .ref (g.2.1 9)), (1, .ref (g.2.1 6)), (2, .int (nI c))] dX3_layOnOne_193 rfl (by rfl) (by decide) rfl ?_
                  refine x_goto 77 dX3_layOnOne_196 (by decide) ?_
                  refine x_lv [0, 1, 4, 5, 6, 7, 8, 9, 10] rfl ?_
                  refine YY.L (lv' := [(8, .int (nI (i + 1))), (7, .int (ltB o T (i + 1))), (6, .int (iB (md = 1 ∧ L < ltE n o W T ∧ o < L))), (5, .int (ltE n o W T)), (4, .int (iB (md = 2 ∧ ¬ S.2.2 6 c = 0 ∧ ¬ L = 0))), (3, .int L), (0, .ref (g.2.1 9)), (1, .ref (g.2.1 6)), (2, .int (nI c))]) (by rw [nI_1] <;> rfl) ?_
                  exact ih (i + 1) U36 (by omega) (by exact hfU.st (show U36 = uM (uM U 34 i _) 35 i _ by rw [eU36, eU33])) (by exact hR.put (show U36 = uM (uM U 34 i _) 35 i _ by rw [eU36, eU33]) (by rw [eL]; rfl) (by rw [ltOne_n eL (by first | exact Or.inl (by assumption) | exact Or.inr (by assumption))]; rfl)) (by omega)
                · have c31n : (1 < fb (c + 1) - fb c) := Classical.not_not.mp (fun q => c31 (iB_0.mpr q))
                  refine x_iload dX3_layOnOne_139 0 rfl ?_
                  refine x_iconst (v := 0) dX3_layOnOne_141 (by decide) ?_
                  refine x_iload_n dX3_layOnOne_142 6 rfl ?_
                  refine x_callSN (K := jX9_between) [.int (ctr (S.2.2 6 c) o md n W T L i), .int 0, .int L] kbX9_between st_between (nwr3 (g := g)) ⟨⟨rfl, rfl⟩, Nat.le_of_ble_eq_true rfl, Nat.le_of_ble_eq_true rfl⟩ (mX9_between U (ctr (S.2.2 6 c) o md n W T L i) 0 L) rfl (Nat.le_of_ble_eq_true rfl) rfl dX3_layOnOne_143 (kpI ?_)
                  refine x_if_eq 153 dX3_layOnOne_146 (by decide) (fun c37 => ?_) (fun c37 => ?_)
                  · have c37n : ¬ (0 ≤ (ctr (S.2.2 6 c) o md n W T L i) ∧ (ctr (S.2.2 6 c) o md n W T L i) ≤ L) := iB_0.mp c37
                    refine x_iconst (v := 0) dX3_layOnOne_153 (by decide) ?_
                    refine x_istore 10 [(10, .int 0), (9, .int (ctr (S.2.2 6 c) o md n W T L i)), (8, .int (nI i)), (7, .int (ltB o T i)), (6, .int (iB (md = 1 ∧ L < ltE n o W T ∧ o < L))), (5, .int (ltE n o W T)), (4, .int (iB (md = 2 ∧ ¬ S.2.2 6 c = 0 ∧ ¬ L = 0))), (3, .int L), (0, .ref (g.2.1 9)), (1, .ref (g.2.1 6)), (2, .int (nI c))] dX3_layOnOne_154 (by decide) rfl ?_
                    refine x_aload_n dX3_layOnOne_156 8 rfl ?_
                    refine x_getR fl_X3_21 rfl rfl dX3_layOnOne_157 ?_
                    refine x_iload dX3_layOnOne_160 2 rfl ?_
                    refine x_iload dX3_layOnOne_162 1 rfl ?_
                    have b38 : vp_in (nI i) 24 := by exact vp_in_nI (by omega) (by decide)
                    refine x_iast rfl b38 dX3_layOnOne_164 ?_
                    refine YY.V (V' := uM U 34 i (ctr (S.2.2 6 c) o md n W T L i)) (by rw [nI_clamp (by omega)]) ?_
                    obtain ⟨U39, eU39⟩ : ∃ v_v : vM, v_v = uM U 34 i (ctr (S.2.2 6 c) o md n W T L i) := ⟨_, rfl⟩
                    refine YY.V eU39.symm ?_
                    refine x_aload_n dX3_layOnOne_165 8 rfl ?_
                    refine x_getR fl_X3_24 rfl rfl dX3_layOnOne_166 ?_
                    refine x_iload dX3_layOnOne_169 2 rfl ?_
                    refine x_iload dX3_layOnOne_171 0 rfl ?_
                    refine x_if_eq 180 dX3_layOnOne_173 (by decide) (fun c40 => ?_) (fun c40 => by exfalso; revert c40; decide)
                    refine x_iconst (v := -1) dX3_layOnOne_180 (by decide) ?_
                    have b41 : vp_in (nI i) 24 := by exact vp_in_nI (by omega) (by decide)
                    refine x_iast rfl b41 dX3_layOnOne_181 ?_
                    refine YY.V (V' := uM U39 35 i (-1)) (by rw [nI_clamp (by omega)]) ?_
                    obtain ⟨U42, eU42⟩ : ∃ v_v : vM, v_v = uM U39 35 i (-1) := ⟨_, rfl⟩
                    refine YY.V eU42.symm ?_
                    have hf2 := hfU.st (show U42 = uM (uM U 34 i _) 35 i _ by rw [eU42, eU39])
                    have hL2 := hL.ag (fun a j q => hf2 a j (by omega) (by omega))
                    refine x_iload dX3_layOnOne_182 3 rfl ?_
                    refine x_aload_n dX3_layOnOne_184 8 rfl ?_
                    refine x_iload dX3_layOnOne_185 2 rfl ?_
                    refine x_callV (K := jX3_stepAfter) [.int (nI i)] lk_X3_97 ⟨⟨rfl, rfl⟩, Nat.le_of_ble_eq_true rfl, Nat.le_of_ble_eq_true rfl⟩ rfl rfl ((show pI U42 (stpA U42 n i) = pI U42 (T i) by rw [hL2.2.2.2.2.2.2 i (by omega)]) ▸ (mX3_stepAfter (g := g) U42 i n (by omega) (by omega) hL2.1 hL2.2.2.2.2.1 : MM g jX3_stepAfter U42 _ (pI U42 (stpA U42 n i)))) rfl (Nat.le_of_ble_eq_true rfl) rfl dX3_layOnOne_187 (kpI ?_)
                    refine x_iadd dX3_layOnOne_190 ?_
                    refine x_istore 7 [(7, .int ((ltB o T i) + (T i))), (10, .int 0), (9, .int (ctr (S.2.2 6 c) o md n W T L i)), (8, .int (nI i)), (6, .int (iB (md = 1 ∧ L < ltE n o W T ∧ o < L))), (5, .int (ltE n o W T)), (4, .int (iB (md = 2 ∧ ¬ S.2.2 6 c = 0 ∧ ¬ L = 0))), (3, .int L), (0, .ref (g.2.1 9)), (1, .ref (g.2.1 6)), (2, .int (nI c))] dX3_layOnOne_191 (by decide) rfl ?_
                    refine x_iinc 8 (v := (nI i) + 1) 3 [(8, .int ((nI i) + 1)), (7, .int ((ltB o T i) + (T i))), (10, .int 0), (9, .int (ctr (S.2.2 6 c) o md n W T L i)), (6, .int (iB (md = 1 ∧ L < ltE n o W T ∧ o < L))), (5, .int (ltE n o W T)), (4, .int (iB (md = 2 ∧ ¬ S.2.2 6 c = 0 ∧ ¬ L = 0))), (3, .int L), (0, .ref (g.2.1 9)), (1, .ref (g.2.1 6)), (2, .int (nI c))] dX3_layOnOne_193 rfl (by rfl) (by decide) rfl ?_
                    refine x_goto 77 dX3_layOnOne_196 (by decide) ?_
                    refine x_lv [0, 1, 4, 5, 6, 7, 8, 9, 10] rfl ?_
                    refine YY.L (lv' := [(8, .int (nI (i + 1))), (7, .int (ltB o T (i + 1))), (6, .int (iB (md = 1 ∧ L < ltE n o W T ∧ o < L))), (5, .int (ltE n o W T)), (4, .int (iB (md = 2 ∧ ¬ S.2.2 6 c = 0 ∧ ¬ L = 0))), (3, .int L), (0, .ref (g.2.1 9)), (1, .ref (g.2.1 6)), (2, .int (nI c))]) (by rw [nI_1] <;> rfl) ?_
                    exact ih (i + 1) U42 (by omega) (by exact hfU.st (show U42 = uM (uM U 34 i _) 35 i _ by rw [eU42, eU39])) (by exact hR.put (show U42 = uM (uM U 34 i _) 35 i _ by rw [eU42, eU39]) (by rw [eL]; rfl) (by rw [ltOne_n eL (by first | exact Or.inl (by assumption) | exact Or.inr (by assumption))]; rfl)) (by omega)
                  · have c37n : (0 ≤ (ctr (S.2.2 6 c) o md n W T L i) ∧ (ctr (S.2.2 6 c) o md n W T L i) ≤ L) := Classical.not_not.mp (fun q => c37 (iB_0.mpr q))
                    refine x_iconst (v := 1) dX3_layOnOne_149 (by decide) ?_
                    refine x_goto 154 dX3_layOnOne_150 (by decide) ?_
                    refine x_istore 10 [(10, .int 1), (9, .int (ctr (S.2.2 6 c) o md n W T L i)), (8, .int (nI i)), (7, .int (ltB o T i)), (6, .int (iB (md = 1 ∧ L < ltE n o W T ∧ o < L))), (5, .int (ltE n o W T)), (4, .int (iB (md = 2 ∧ ¬ S.2.2 6 c = 0 ∧ ¬ L = 0))), (3, .int L), (0, .ref (g.2.1 9)), (1, .ref (g.2.1 6)), (2, .int (nI c))] dX3_layOnOne_154 (by decide) rfl ?_
                    refine x_aload_n dX3_layOnOne_156 8 rfl ?_
                    refine x_getR fl_X3_21 rfl rfl dX3_layOnOne_157 ?_
                    refine x_iload dX3_layOnOne_160 2 rfl ?_
                    refine x_iload dX3_layOnOne_162 1 rfl ?_
                    have b43 : vp_in (nI i) 24 := by exact vp_in_nI (by omega) (by decide)
                    refine x_iast rfl b43 dX3_layOnOne_164 ?_
                    refine YY.V (V' := uM U 34 i (ctr (S.2.2 6 c) o md n W T L i)) (by rw [nI_clamp (by omega)]) ?_
                    obtain ⟨U44, eU44⟩ : ∃ v_v : vM, v_v = uM U 34 i (ctr (S.2.2 6 c) o md n W T L i) := ⟨_, rfl⟩
                    refine YY.V eU44.symm ?_
                    refine x_aload_n dX3_layOnOne_165 8 rfl ?_
                    refine x_getR fl_X3_24 rfl rfl dX3_layOnOne_166 ?_
                    refine x_iload dX3_layOnOne_169 2 rfl ?_
                    refine x_iload dX3_layOnOne_171 0 rfl ?_
                    refine x_if_eq 180 dX3_layOnOne_173 (by decide) (fun c45 => by exfalso; revert c45; decide) (fun c45 => ?_)
                    refine x_iload_n dX3_layOnOne_176 10 rfl ?_
                    refine x_goto 181 dX3_layOnOne_177 (by decide) ?_
                    have b46 : vp_in (nI i) 24 := by exact vp_in_nI (by omega) (by decide)
                    refine x_iast rfl b46 dX3_layOnOne_181 ?_
                    refine YY.V (V' := uM U44 35 i (nI c)) (by rw [nI_clamp (by omega)]) ?_
                    obtain ⟨U47, eU47⟩ : ∃ v_v : vM, v_v = uM U44 35 i (nI c) := ⟨_, rfl⟩
                    refine YY.V eU47.symm ?_
                    have hf2 := hfU.st (show U47 = uM (uM U 34 i _) 35 i _ by rw [eU47, eU44])
                    have hL2 := hL.ag (fun a j q => hf2 a j (by omega) (by omega))
                    refine x_iload dX3_layOnOne_182 3 rfl ?_
                    refine x_aload_n dX3_layOnOne_184 8 rfl ?_
                    refine x_iload dX3_layOnOne_185 2 rfl ?_
                    refine x_callV (K := jX3_stepAfter) [.int (nI i)] lk_X3_97 ⟨⟨rfl, rfl⟩, Nat.le_of_ble_eq_true rfl, Nat.le_of_ble_eq_true rfl⟩ rfl rfl ((show pI U47 (stpA U47 n i) = pI U47 (T i) by rw [hL2.2.2.2.2.2.2 i (by omega)]) ▸ (mX3_stepAfter (g := g) U47 i n (by omega) (by omega) hL2.1 hL2.2.2.2.2.1 : MM g jX3_stepAfter U47 _ (pI U47 (stpA U47 n i)))) rfl (Nat.le_of_ble_eq_true rfl) rfl dX3_layOnOne_187 (kpI ?_)
                    refine x_iadd dX3_layOnOne_190 ?_
                    refine x_istore 7 [(7, .int ((ltB o T i) + (T i))), (10, .int 1), (9, .int (ctr (S.2.2 6 c) o md n W T L i)), (8, .int (nI i)), (6, .int (iB (md = 1 ∧ L < ltE n o W T ∧ o < L))), (5, .int (ltE n o W T)), (4, .int (iB (md = 2 ∧ ¬ S.2.2 6 c = 0 ∧ ¬ L = 0))), (3, .int L), (0, .ref (g.2.1 9)), (1, .ref (g.2.1 6)), (2, .int (nI c))] dX3_layOnOne_191 (by decide) rfl ?_
                    refine x_iinc 8 (v := (nI i) + 1) 3 [(8, .int ((nI i) + 1)), (7, .int ((ltB o T i) + (T i))), (10, .int 1), (9, .int (ctr (S.2.2 6 c) o md n W T L i)), (6, .int (iB (md = 1 ∧ L < ltE n o W T ∧ o < L))), (5, .int (ltE n o W T)), (4, .int (iB (md = 2 ∧ ¬ S.2.2 6 c = 0 ∧ ¬ L = 0))), (3, .int L), (0, .ref (g.2.1 9)), (1, .ref (g.2.1 6)), (2, .int (nI c))] dX3_layOnOne_193 rfl (by rfl) (by decide) rfl ?_
                    refine x_goto 77 dX3_layOnOne_196 (by decide) ?_
                    refine x_lv [0, 1, 4, 5, 6, 7, 8, 9, 10] rfl ?_
                    refine YY.L (lv' := [(8, .int (nI (i + 1))), (7, .int (ltB o T (i + 1))), (6, .int (iB (md = 1 ∧ L < ltE n o W T ∧ o < L))), (5, .int (ltE n o W T)), (4, .int (iB (md = 2 ∧ ¬ S.2.2 6 c = 0 ∧ ¬ L = 0))), (3, .int L), (0, .ref (g.2.1 9)), (1, .ref (g.2.1 6)), (2, .int (nI c))]) (by rw [nI_1] <;> rfl) ?_
                    exact ih (i + 1) U47 (by omega) (by exact hfU.st (show U47 = uM (uM U 34 i _) 35 i _ by rw [eU47, eU44])) (by exact hR.put (show U47 = uM (uM U 34 i _) 35 i _ by rw [eU47, eU44]) (by rw [eL]; rfl) (by rw [ltOne_y eL (by assumption) (by assumption)]; rfl)) (by omega)
            · have c12n : (md = 2 ∧ ¬ S.2.2 6 c = 0 ∧ ¬ L = 0) := Classical.not_not.mp (fun q => c12 (iB_0.mpr q))
              refine x_iload dX3_layOnOne_104 0 rfl ?_
              refine x_iload_n dX3_layOnOne_106 6 rfl ?_
              refine x_callS (K := jJ9_floorMod_7cf53) [.int ((ltB o T i) + ((W i) / 2)), .int L] lk_X3_81 ⟨⟨rfl, rfl⟩, Nat.le_of_ble_eq_true rfl, Nat.le_of_ble_eq_true rfl⟩ (mJ9_floorMod_7cf53 U ((ltB o T i) + ((W i) / 2)) L (by have q := (show md = 2 ∧ ¬ S.2.2 6 c = 0 ∧ ¬ L = 0 by assumption).2.2; rcases Int.lt_or_le 0 L.toInt with z | z; exact z; exact absurd (Int32.toInt_inj.mp (show L.toInt = (0 : Int32).toInt by show L.toInt = 0; omega)) q)) rfl (Nat.le_of_ble_eq_true rfl) rfl dX3_layOnOne_107 (kpI ?_)
              refine x_istore 9 [(9, .int (modI ((ltB o T i) + ((W i) / 2)) L)), (8, .int (nI i)), (7, .int (ltB o T i)), (6, .int (iB (md = 1 ∧ L < ltE n o W T ∧ o < L))), (5, .int (ltE n o W T)), (4, .int (iB (md = 2 ∧ ¬ S.2.2 6 c = 0 ∧ ¬ L = 0))), (3, .int L), (0, .ref (g.2.1 9)), (1, .ref (g.2.1 6)), (2, .int (nI c))] dX3_layOnOne_110 (by decide) rfl ?_
              refine x_goto 131 dX3_layOnOne_112 (by decide) ?_
              refine YY.L (lv' := [(9, .int (ctr (S.2.2 6 c) o md n W T L i)), (8, .int (nI i)), (7, .int (ltB o T i)), (6, .int (iB (md = 1 ∧ L < ltE n o W T ∧ o < L))), (5, .int (ltE n o W T)), (4, .int (iB (md = 2 ∧ ¬ S.2.2 6 c = 0 ∧ ¬ L = 0))), (3, .int L), (0, .ref (g.2.1 9)), (1, .ref (g.2.1 6)), (2, .int (nI c))]) (by rw [ctr_r (f := S.2.2 6 c) (o := o) (md := md) (n := n) (W := W) (T := T) (L := L) (i := i) (by assumption)]) ?_
              refine x_aload_n dX3_layOnOne_131 8 rfl ?_
              refine x_iload_n dX3_layOnOne_132 9 rfl ?_
              refine x_callV (K := jX1_hasSegments) [.int (nI c)] lk_X3_90 ⟨⟨rfl, rfl⟩, Nat.le_of_ble_eq_true rfl, Nat.le_of_ble_eq_true rfl⟩ rfl rfl (mX1_hasSegments hF hG h24 h15 c (by omega)) rfl (Nat.le_of_ble_eq_true rfl) rfl dX3_layOnOne_133 (kpI ?_)
              refine x_if_eq 153 dX3_layOnOne_136 (by decide) (fun c48 => ?_) (fun c48 => ?_)
              · have c48n : ¬ (1 < fb (c + 1) - fb c) := iB_0.mp c48
                refine x_iconst (v := 0) dX3_layOnOne_153 (by decide) ?_
                refine x_istore 10 [(10, .int 0), (9, .int (ctr (S.2.2 6 c) o md n W T L i)), (8, .int (nI i)), (7, .int (ltB o T i)), (6, .int (iB (md = 1 ∧ L < ltE n o W T ∧ o < L))), (5, .int (ltE n o W T)), (4, .int (iB (md = 2 ∧ ¬ S.2.2 6 c = 0 ∧ ¬ L = 0))), (3, .int L), (0, .ref (g.2.1 9)), (1, .ref (g.2.1 6)), (2, .int (nI c))] dX3_layOnOne_154 (by decide) rfl ?_
                refine x_aload_n dX3_layOnOne_156 8 rfl ?_
                refine x_getR fl_X3_21 rfl rfl dX3_layOnOne_157 ?_
                refine x_iload dX3_layOnOne_160 2 rfl ?_
                refine x_iload dX3_layOnOne_162 1 rfl ?_
                have b49 : vp_in (nI i) 24 := by exact vp_in_nI (by omega) (by decide)
                refine x_iast rfl b49 dX3_layOnOne_164 ?_
                refine YY.V (V' := uM U 34 i (ctr (S.2.2 6 c) o md n W T L i)) (by rw [nI_clamp (by omega)]) ?_
                obtain ⟨U50, eU50⟩ : ∃ v_v : vM, v_v = uM U 34 i (ctr (S.2.2 6 c) o md n W T L i) := ⟨_, rfl⟩
                refine YY.V eU50.symm ?_
                refine x_aload_n dX3_layOnOne_165 8 rfl ?_
                refine x_getR fl_X3_24 rfl rfl dX3_layOnOne_166 ?_
                refine x_iload dX3_layOnOne_169 2 rfl ?_
                refine x_iload dX3_layOnOne_171 0 rfl ?_
                refine x_if_eq 180 dX3_layOnOne_173 (by decide) (fun c51 => ?_) (fun c51 => by exfalso; revert c51; decide)
                refine x_iconst (v := -1) dX3_layOnOne_180 (by decide) ?_
                have b52 : vp_in (nI i) 24 := by exact vp_in_nI (by omega) (by decide)
                refine x_iast rfl b52 dX3_layOnOne_181 ?_
                refine YY.V (V' := uM U50 35 i (-1)) (by rw [nI_clamp (by omega)]) ?_
                obtain ⟨U53, eU53⟩ : ∃ v_v : vM, v_v = uM U50 35 i (-1) := ⟨_, rfl⟩
                refine YY.V eU53.symm ?_
                have hf2 := hfU.st (show U53 = uM (uM U 34 i _) 35 i _ by rw [eU53, eU50])
                have hL2 := hL.ag (fun a j q => hf2 a j (by omega) (by omega))
                refine x_iload dX3_layOnOne_182 3 rfl ?_
                refine x_aload_n dX3_layOnOne_184 8 rfl ?_
                refine x_iload dX3_layOnOne_185 2 rfl ?_
                refine x_callV (K := jX3_stepAfter) [.int (nI i)] lk_X3_97 ⟨⟨rfl, rfl⟩, Nat.le_of_ble_eq_true rfl, Nat.le_of_ble_eq_true rfl⟩ rfl rfl ((show pI U53 (stpA U53 n i) = pI U53 (T i) by rw [hL2.2.2.2.2.2.2 i (by omega)]) ▸ (mX3_stepAfter (g := g) U53 i n (by omega) (by omega) hL2.1 hL2.2.2.2.2.1 : MM g jX3_stepAfter U53 _ (pI U53 (stpA U53 n i)))) rfl (Nat.le_of_ble_eq_true rfl) rfl dX3_layOnOne_187 (kpI ?_)
                refine x_iadd dX3_layOnOne_190 ?_
                refine x_istore 7 [(7, .int ((ltB o T i) + (T i))), (10, .int 0), (9, .int (ctr (S.2.2 6 c) o md n W T L i)), (8, .int (nI i)), (6, .int (iB (md = 1 ∧ L < ltE n o W T ∧ o < L))), (5, .int (ltE n o W T)), (4, .int (iB (md = 2 ∧ ¬ S.2.2 6 c = 0 ∧ ¬ L = 0))), (3, .int L), (0, .ref (g.2.1 9)), (1, .ref (g.2.1 6)), (2, .int (nI c))] dX3_layOnOne_191 (by decide) rfl ?_
                refine x_iinc 8 (v := (nI i) + 1) 3 [(8, .int ((nI i) + 1)), (7, .int ((ltB o T i) + (T i))), (10, .int 0), (9, .int (ctr (S.2.2 6 c) o md n W T L i)), (6, .int (iB (md = 1 ∧ L < ltE n o W T ∧ o < L))), (5, .int (ltE n o W T)), (4, .int (iB (md = 2 ∧ ¬ S.2.2 6 c = 0 ∧ ¬ L = 0))), (3, .int L), (0, .ref (g.2.1 9)), (1, .ref (g.2.1 6)), (2, .int (nI c))] dX3_layOnOne_193 rfl (by rfl) (by decide) rfl ?_
                refine x_goto 77 dX3_layOnOne_196 (by decide) ?_
                refine x_lv [0, 1, 4, 5, 6, 7, 8, 9, 10] rfl ?_
                refine YY.L (lv' := [(8, .int (nI (i + 1))), (7, .int (ltB o T (i + 1))), (6, .int (iB (md = 1 ∧ L < ltE n o W T ∧ o < L))), (5, .int (ltE n o W T)), (4, .int (iB (md = 2 ∧ ¬ S.2.2 6 c = 0 ∧ ¬ L = 0))), (3, .int L), (0, .ref (g.2.1 9)), (1, .ref (g.2.1 6)), (2, .int (nI c))]) (by rw [nI_1] <;> rfl) ?_
                exact ih (i + 1) U53 (by omega) (by exact hfU.st (show U53 = uM (uM U 34 i _) 35 i _ by rw [eU53, eU50])) (by exact hR.put (show U53 = uM (uM U 34 i _) 35 i _ by rw [eU53, eU50]) (by rw [eL]; rfl) (by rw [ltOne_n eL (by first | exact Or.inl (by assumption) | exact Or.inr (by assumption))]; rfl)) (by omega)
              · have c48n : (1 < fb (c + 1) - fb c) := Classical.not_not.mp (fun q => c48 (iB_0.mpr q))
                refine x_iload dX3_layOnOne_139 0 rfl ?_
                refine x_iconst (v := 0) dX3_layOnOne_141 (by decide) ?_
                refine x_iload_n dX3_layOnOne_142 6 rfl ?_
                refine x_callSN (K := jX9_between) [.int (ctr (S.2.2 6 c) o md n W T L i), .int 0, .int L] kbX9_between st_between (nwr3 (g := g)) ⟨⟨rfl, rfl⟩, Nat.le_of_ble_eq_true rfl, Nat.le_of_ble_eq_true rfl⟩ (mX9_between U (ctr (S.2.2 6 c) o md n W T L i) 0 L) rfl (Nat.le_of_ble_eq_true rfl) rfl dX3_layOnOne_143 (kpI ?_)
                refine x_if_eq 153 dX3_layOnOne_146 (by decide) (fun c54 => ?_) (fun c54 => ?_)
                · have c54n : ¬ (0 ≤ (ctr (S.2.2 6 c) o md n W T L i) ∧ (ctr (S.2.2 6 c) o md n W T L i) ≤ L) := iB_0.mp c54
                  refine x_iconst (v := 0) dX3_layOnOne_153 (by decide) ?_
                  refine x_istore 10 [(10, .int 0), (9, .int (ctr (S.2.2 6 c) o md n W T L i)), (8, .int (nI i)), (7, .int (ltB o T i)), (6, .int (iB (md = 1 ∧ L < ltE n o W T ∧ o < L))), (5, .int (ltE n o W T)), (4, .int (iB (md = 2 ∧ ¬ S.2.2 6 c = 0 ∧ ¬ L = 0))), (3, .int L), (0, .ref (g.2.1 9)), (1, .ref (g.2.1 6)), (2, .int (nI c))] dX3_layOnOne_154 (by decide) rfl ?_
                  refine x_aload_n dX3_layOnOne_156 8 rfl ?_
                  refine x_getR fl_X3_21 rfl rfl dX3_layOnOne_157 ?_
                  refine x_iload dX3_layOnOne_160 2 rfl ?_
                  refine x_iload dX3_layOnOne_162 1 rfl ?_
                  have b55 : vp_in (nI i) 24 := by exact vp_in_nI (by omega) (by decide)
                  refine x_iast rfl b55 dX3_layOnOne_164 ?_
                  refine YY.V (V' := uM U 34 i (ctr (S.2.2 6 c) o md n W T L i)) (by rw [nI_clamp (by omega)]) ?_
                  obtain ⟨U56, eU56⟩ : ∃ v_v : vM, v_v = uM U 34 i (ctr (S.2.2 6 c) o md n W T L i) := ⟨_, rfl⟩
                  refine YY.V eU56.symm ?_
                  refine x_aload_n dX3_layOnOne_165 8 rfl ?_
                  refine x_getR fl_X3_24 rfl rfl dX3_layOnOne_166 ?_
                  refine x_iload dX3_layOnOne_169 2 rfl ?_
                  refine x_iload dX3_layOnOne_171 0 rfl ?_
                  refine x_if_eq 180 dX3_layOnOne_173 (by decide) (fun c57 => ?_) (fun c57 => by exfalso; revert c57; decide)
                  refine x_iconst (v := -1) dX3_layOnOne_180 (by decide) ?_
                  have b58 : vp_in (nI i) 24 := by exact vp_in_nI (by omega) (by decide)
                  refine x_iast rfl b58 dX3_layOnOne_181 ?_
                  refine YY.V (V' := uM U56 35 i (-1)) (by rw [nI_clamp (by omega)]) ?_
                  obtain ⟨U59, eU59⟩ : ∃ v_v : vM, v_v = uM U56 35 i (-1) := ⟨_, rfl⟩
                  refine YY.V eU59.symm ?_
                  have hf2 := hfU.st (show U59 = uM (uM U 34 i _) 35 i _ by rw [eU59, eU56])
                  have hL2 := hL.ag (fun a j q => hf2 a j (by omega) (by omega))
                  refine x_iload dX3_layOnOne_182 3 rfl ?_
                  refine x_aload_n dX3_layOnOne_184 8 rfl ?_
                  refine x_iload dX3_layOnOne_185 2 rfl ?_
                  refine x_callV (K := jX3_stepAfter) [.int (nI i)] lk_X3_97 ⟨⟨rfl, rfl⟩, Nat.le_of_ble_eq_true rfl, Nat.le_of_ble_eq_true rfl⟩ rfl rfl ((show pI U59 (stpA U59 n i) = pI U59 (T i) by rw [hL2.2.2.2.2.2.2 i (by omega)]) ▸ (mX3_stepAfter (g := g) U59 i n (by omega) (by omega) hL2.1 hL2.2.2.2.2.1 : MM g jX3_stepAfter U59 _ (pI U59 (stpA U59 n i)))) rfl (Nat.le_of_ble_eq_true rfl) rfl dX3_layOnOne_187 (kpI ?_)
                  refine x_iadd dX3_layOnOne_190 ?_
                  refine x_istore 7 [(7, .int ((ltB o T i) + (T i))), (10, .int 0), (9, .int (ctr (S.2.2 6 c) o md n W T L i)), (8, .int (nI i)), (6, .int (iB (md = 1 ∧ L < ltE n o W T ∧ o < L))), (5, .int (ltE n o W T)), (4, .int (iB (md = 2 ∧ ¬ S.2.2 6 c = 0 ∧ ¬ L = 0))), (3, .int L), (0, .ref (g.2.1 9)), (1, .ref (g.2.1 6)), (2, .int (nI c))] dX3_layOnOne_191 (by decide) rfl ?_
                  refine x_iinc 8 (v := (nI i) + 1) 3 [(8, .int ((nI i) + 1)), (7, .int ((ltB o T i) + (T i))), (10, .int 0), (9, .int (ctr (S.2.2 6 c) o md n W T L i)), (6, .int (iB (md = 1 ∧ L < ltE n o W T ∧ o < L))), (5, .int (ltE n o W T)), (4, .int (iB (md = 2 ∧ ¬ S.2.2 6 c = 0 ∧ ¬ L = 0))), (3, .int L), (0, .ref (g.2.1 9)), (1, .ref (g.2.1 6)), (2, .int (nI c))] dX3_layOnOne_193 rfl (by rfl) (by decide) rfl ?_
                  refine x_goto 77 dX3_layOnOne_196 (by decide) ?_
                  refine x_lv [0, 1, 4, 5, 6, 7, 8, 9, 10] rfl ?_
                  refine YY.L (lv' := [(8, .int (nI (i + 1))), (7, .int (ltB o T (i + 1))), (6, .int (iB (md = 1 ∧ L < ltE n o W T ∧ o < L))), (5, .int (ltE n o W T)), (4, .int (iB (md = 2 ∧ ¬ S.2.2 6 c = 0 ∧ ¬ L = 0))), (3, .int L), (0, .ref (g.2.1 9)), (1, .ref (g.2.1 6)), (2, .int (nI c))]) (by rw [nI_1] <;> rfl) ?_
                  exact ih (i + 1) U59 (by omega) (by exact hfU.st (show U59 = uM (uM U 34 i _) 35 i _ by rw [eU59, eU56])) (by exact hR.put (show U59 = uM (uM U 34 i _) 35 i _ by rw [eU59, eU56]) (by rw [eL]; rfl) (by rw [ltOne_n eL (by first | exact Or.inl (by assumption) | exact Or.inr (by assumption))]; rfl)) (by omega)
                · have c54n : (0 ≤ (ctr (S.2.2 6 c) o md n W T L i) ∧ (ctr (S.2.2 6 c) o md n W T L i) ≤ L) := Classical.not_not.mp (fun q => c54 (iB_0.mpr q))
                  refine x_iconst (v := 1) dX3_layOnOne_149 (by decide) ?_
                  refine x_goto 154 dX3_layOnOne_150 (by decide) ?_
                  refine x_istore 10 [(10, .int 1), (9, .int (ctr (S.2.2 6 c) o md n W T L i)), (8, .int (nI i)), (7, .int (ltB o T i)), (6, .int (iB (md = 1 ∧ L < ltE n o W T ∧ o < L))), (5, .int (ltE n o W T)), (4, .int (iB (md = 2 ∧ ¬ S.2.2 6 c = 0 ∧ ¬ L = 0))), (3, .int L), (0, .ref (g.2.1 9)), (1, .ref (g.2.1 6)), (2, .int (nI c))] dX3_layOnOne_154 (by decide) rfl ?_
                  refine x_aload_n dX3_layOnOne_156 8 rfl ?_
                  refine x_getR fl_X3_21 rfl rfl dX3_layOnOne_157 ?_
                  refine x_iload dX3_layOnOne_160 2 rfl ?_
                  refine x_iload dX3_layOnOne_162 1 rfl ?_
                  have b60 : vp_in (nI i) 24 := by exact vp_in_nI (by omega) (by decide)
                  refine x_iast rfl b60 dX3_layOnOne_164 ?_
                  refine YY.V (V' := uM U 34 i (ctr (S.2.2 6 c) o md n W T L i)) (by rw [nI_clamp (by omega)]) ?_
                  obtain ⟨U61, eU61⟩ : ∃ v_v : vM, v_v = uM U 34 i (ctr (S.2.2 6 c) o md n W T L i) := ⟨_, rfl⟩
                  refine YY.V eU61.symm ?_
                  refine x_aload_n dX3_layOnOne_165 8 rfl ?_
                  refine x_getR fl_X3_24 rfl rfl dX3_layOnOne_166 ?_
                  refine x_iload dX3_layOnOne_169 2 rfl ?_
                  refine x_iload dX3_layOnOne_171 0 rfl ?_
                  refine x_if_eq 180 dX3_layOnOne_173 (by decide) (fun c62 => by exfalso; revert c62; decide) (fun c62 => ?_)
                  refine x_iload_n dX3_layOnOne_176 10 rfl ?_
                  refine x_goto 181 dX3_layOnOne_177 (by decide) ?_
                  have b63 : vp_in (nI i) 24 := by exact vp_in_nI (by omega) (by decide)
                  refine x_iast rfl b63 dX3_layOnOne_181 ?_
                  refine YY.V (V' := uM U61 35 i (nI c)) (by rw [nI_clamp (by omega)]) ?_
                  obtain ⟨U64, eU64⟩ : ∃ v_v : vM, v_v = uM U61 35 i (nI c) := ⟨_, rfl⟩
                  refine YY.V eU64.symm ?_
                  have hf2 := hfU.st (show U64 = uM (uM U 34 i _) 35 i _ by rw [eU64, eU61])
                  have hL2 := hL.ag (fun a j q => hf2 a j (by omega) (by omega))
                  refine x_iload dX3_layOnOne_182 3 rfl ?_
                  refine x_aload_n dX3_layOnOne_184 8 rfl ?_
                  refine x_iload dX3_layOnOne_185 2 rfl ?_
                  refine x_callV (K := jX3_stepAfter) [.int (nI i)] lk_X3_97 ⟨⟨rfl, rfl⟩, Nat.le_of_ble_eq_true rfl, Nat.le_of_ble_eq_true rfl⟩ rfl rfl ((show pI U64 (stpA U64 n i) = pI U64 (T i) by rw [hL2.2.2.2.2.2.2 i (by omega)]) ▸ (mX3_stepAfter (g := g) U64 i n (by omega) (by omega) hL2.1 hL2.2.2.2.2.1 : MM g jX3_stepAfter U64 _ (pI U64 (stpA U64 n i)))) rfl (Nat.le_of_ble_eq_true rfl) rfl dX3_layOnOne_187 (kpI ?_)
                  refine x_iadd dX3_layOnOne_190 ?_
                  refine x_istore 7 [(7, .int ((ltB o T i) + (T i))), (10, .int 1), (9, .int (ctr (S.2.2 6 c) o md n W T L i)), (8, .int (nI i)), (6, .int (iB (md = 1 ∧ L < ltE n o W T ∧ o < L))), (5, .int (ltE n o W T)), (4, .int (iB (md = 2 ∧ ¬ S.2.2 6 c = 0 ∧ ¬ L = 0))), (3, .int L), (0, .ref (g.2.1 9)), (1, .ref (g.2.1 6)), (2, .int (nI c))] dX3_layOnOne_191 (by decide) rfl ?_
                  refine x_iinc 8 (v := (nI i) + 1) 3 [(8, .int ((nI i) + 1)), (7, .int ((ltB o T i) + (T i))), (10, .int 1), (9, .int (ctr (S.2.2 6 c) o md n W T L i)), (6, .int (iB (md = 1 ∧ L < ltE n o W T ∧ o < L))), (5, .int (ltE n o W T)), (4, .int (iB (md = 2 ∧ ¬ S.2.2 6 c = 0 ∧ ¬ L = 0))), (3, .int L), (0, .ref (g.2.1 9)), (1, .ref (g.2.1 6)), (2, .int (nI c))] dX3_layOnOne_193 rfl (by rfl) (by decide) rfl ?_
                  refine x_goto 77 dX3_layOnOne_196 (by decide) ?_
                  refine x_lv [0, 1, 4, 5, 6, 7, 8, 9, 10] rfl ?_
                  refine YY.L (lv' := [(8, .int (nI (i + 1))), (7, .int (ltB o T (i + 1))), (6, .int (iB (md = 1 ∧ L < ltE n o W T ∧ o < L))), (5, .int (ltE n o W T)), (4, .int (iB (md = 2 ∧ ¬ S.2.2 6 c = 0 ∧ ¬ L = 0))), (3, .int L), (0, .ref (g.2.1 9)), (1, .ref (g.2.1 6)), (2, .int (nI c))]) (by rw [nI_1] <;> rfl) ?_
                  exact ih (i + 1) U64 (by omega) (by exact hfU.st (show U64 = uM (uM U 34 i _) 35 i _ by rw [eU64, eU61])) (by exact hR.put (show U64 = uM (uM U 34 i _) 35 i _ by rw [eU64, eU61]) (by rw [eL]; rfl) (by rw [ltOne_y eL (by assumption) (by assumption)]; rfl)) (by omega)
      refine YY.L (lv' := [(8, .int (nI 0)), (7, .int (ltB o T 0)), (6, .int (iB (md = 1 ∧ L < ltE n o W T ∧ o < L))), (5, .int (ltE n o W T)), (4, .int (iB (md = 2 ∧ ¬ S.2.2 6 c = 0 ∧ ¬ L = 0))), (3, .int L), (0, .ref (g.2.1 9)), (1, .ref (g.2.1 6)), (2, .int (nI c))]) (by first | rfl | (rw [hL.2.1]; rfl)) ?_
      exact lp9 _ 0 V (by omega) (by exact fr9.refl V) (by exact fun i q => absurd q (Nat.not_lt_zero _)) (Nat.lt_succ_self _)
    refine x_icmp_ne 65 dX3_layOnOne_44 (by decide) (fun c5 => ?_) (fun c5 => ?_)
    · refine x_iconst (v := 0) dX3_layOnOne_65 (by decide) ?_
      exact jn7 _ (Or.inl ⟨c5, rfl⟩)
    · refine x_iload dX3_layOnOne_47 0 rfl ?_
      refine x_iload_n dX3_layOnOne_49 2 rfl ?_
      refine x_icmp_le 65 dX3_layOnOne_50 (by decide) (fun c65 => ?_) (fun c65 => ?_)
      · refine x_iconst (v := 0) dX3_layOnOne_65 (by decide) ?_
        exact jn7 _ (Or.inr (Or.inl ⟨c5, c65, rfl⟩))
      · refine x_aload_n dX3_layOnOne_53 3 rfl ?_
        refine x_getI fl_X3_34 rfl rfl dX3_layOnOne_54 ?_
        refine x_topi (hL.2.1) ?_
        refine x_iload_n dX3_layOnOne_57 2 rfl ?_
        refine x_icmp_ge 65 dX3_layOnOne_58 (by decide) (fun c66 => ?_) (fun c66 => ?_)
        · refine x_iconst (v := 0) dX3_layOnOne_65 (by decide) ?_
          exact jn7 _ (Or.inr (Or.inr (Or.inl ⟨c5, c65, c66, rfl⟩)))
        · refine x_iconst (v := 1) dX3_layOnOne_61 (by decide) ?_
          refine x_goto 66 dX3_layOnOne_62 (by decide) ?_
          exact jn7 _ (Or.inr (Or.inr (Or.inr ⟨c5, c65, c66, rfl⟩)))
  refine x_icmp_ne 30 dX3_layOnOne_11 (by decide) (fun c1 => ?_) (fun c1 => ?_)
  · refine x_iconst (v := 0) dX3_layOnOne_30 (by decide) ?_
    exact jn3 _ (Or.inl ⟨c1, rfl⟩)
  · refine x_aload_n dX3_layOnOne_14 2 rfl ?_
    refine x_iload_n dX3_layOnOne_15 3 rfl ?_
    refine x_callV (K := jX1_isClosed) [.int (nI c)] lk_X3_74 ⟨⟨rfl, rfl⟩, Nat.le_of_ble_eq_true rfl, Nat.le_of_ble_eq_true rfl⟩ rfl rfl (mX1_isClosed hF hG h24 h15 c (by omega)) rfl (Nat.le_of_ble_eq_true rfl) rfl dX3_layOnOne_16 (kpI ?_)
    refine x_if_eq 30 dX3_layOnOne_19 (by decide) (fun c67 => ?_) (fun c67 => ?_)
    · have c67n : ¬ (¬ S.2.2 6 c = 0) := iB_0.mp c67
      refine x_iconst (v := 0) dX3_layOnOne_30 (by decide) ?_
      exact jn3 _ (Or.inr (Or.inl ⟨c1, c67n, rfl⟩))
    · have c67n : (¬ S.2.2 6 c = 0) := Classical.not_not.mp (fun q => c67 (iB_0.mpr q))
      refine x_iload_n dX3_layOnOne_22 0 rfl ?_
      refine x_if_eq 30 dX3_layOnOne_23 (by decide) (fun c68 => ?_) (fun c68 => ?_)
      · refine x_iconst (v := 0) dX3_layOnOne_30 (by decide) ?_
        exact jn3 _ (Or.inr (Or.inr (Or.inl ⟨c1, c67n, c68, rfl⟩)))
      · refine x_iconst (v := 1) dX3_layOnOne_26 (by decide) ?_
        refine x_goto 31 dX3_layOnOne_27 (by decide) ?_
        exact jn3 _ (Or.inr (Or.inr (Or.inr ⟨c1, c67n, c68, rfl⟩)))
