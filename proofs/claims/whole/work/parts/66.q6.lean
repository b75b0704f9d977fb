def bst (what b o : Int32) : Int32 := if what < 2 then (if o < b then o else b) else (if b < o then o else b)
def bfold (what : Int32) (f : Nat → Int32) (a : Nat) : Nat → Int32
  | 0 => f a
  | d + 1 => bst what (bfold what f a d) (f (a + d))
def xy (S : FS) (what : Int32) : Nat → Int32 := if what - what / 2 * 2 = 0 then S.2.2 0 else S.2.2 1
theorem xy_0 {S : FS} {what : Int32} (h : what - what / 2 * 2 = 0) : xy S what = S.2.2 0 := if_pos h
theorem xy_1 {S : FS} {what : Int32} (h : ¬ what - what / 2 * 2 = 0) : xy S what = S.2.2 1 := if_neg h
theorem bf_m {what : Int32} {f : Nat → Int32} {a j : Nat} (h : what < 2) : (if f (a + j) < bfold what f a j then f (a + j) else bfold what f a j) = bfold what f a (j + 1) := by
  rw [bfold, bst, if_pos h]
theorem bf_x {what : Int32} {f : Nat → Int32} {a j : Nat} (h : ¬ what < 2) : (if bfold what f a j < f (a + j) then f (a + j) else bfold what f a j) = bfold what f a (j + 1) := by
  rw [bfold, bst, if_neg h]
theorem bf_1 {what : Int32} {f : Nat → Int32} {a j : Nat} (h : what < 2) (h2 : f (a + j) < bfold what f a j) : f (a + j) = bfold what f a (j + 1) := by
  rw [← bf_m h, if_pos h2]
theorem bf_2 {what : Int32} {f : Nat → Int32} {a j : Nat} (h : what < 2) (h2 : ¬ f (a + j) < bfold what f a j) : bfold what f a j = bfold what f a (j + 1) := by
  rw [← bf_m h, if_neg h2]
theorem bf_3 {what : Int32} {f : Nat → Int32} {a j : Nat} (h : ¬ what < 2) (h2 : bfold what f a j < f (a + j)) : f (a + j) = bfold what f a (j + 1) := by
  rw [← bf_x h, if_pos h2]
theorem bf_4 {what : Int32} {f : Nat → Int32} {a j : Nat} (h : ¬ what < 2) (h2 : ¬ bfold what f a j < f (a + j)) : bfold what f a j = bfold what f a (j + 1) := by
  rw [← bf_x h, if_neg h2]
def bndZ (S : FS) (fb : Nat → Nat) (c what : Int32) : Int32 := if (c = -1 ∧ S.2.1 = 0) ∨ (¬ c = -1 ∧ ¬ (0 ≤ c ∧ c < nI S.2.1)) then -1000001 else if ¬ (0 ≤ what ∧ what ≤ 3) then -1000002 else if c = -1 then bfold what (xy S what) 0 S.1 else bfold what (xy S what) (fb c.toNatClampNeg) (fb (c.toNatClampNeg + 1) - fb c.toNatClampNeg)
theorem bndZ_no {S : FS} {fb : Nat → Nat} {c what : Int32} (h : (c = -1 ∧ S.2.1 = 0) ∨ (¬ c = -1 ∧ ¬ (0 ≤ c ∧ c < nI S.2.1))) : bndZ S fb c what = -1000001 := if_pos h
theorem bndZ_a {S : FS} {fb : Nat → Nat} {c what : Int32} (h : c = -1) (h0 : 0 < S.2.1) (hw : 0 ≤ what ∧ what ≤ 3) : bndZ S fb c what = bfold what (xy S what) 0 S.1 := by
  unfold bndZ
  rw [if_neg (by rintro (q | q); (have := q.2; omega); exact q.1 h), if_neg (fun q => q hw), if_pos h]
theorem bndZ_ab {S : FS} {fb : Nat → Nat} {c what : Int32} (h : c = -1) (h0 : 0 < S.2.1) (hw : ¬ (0 ≤ what ∧ what ≤ 3)) : bndZ S fb c what = -1000002 := by
  unfold bndZ
  rw [if_neg (by rintro (q | q); (have := q.2; omega); exact q.1 h), if_pos hw]
theorem bndZ_kb {S : FS} {fb : Nat → Nat} {c what : Int32} (h : ¬ c = -1) (hS : 0 ≤ c ∧ c < nI S.2.1) (hw : ¬ (0 ≤ what ∧ what ≤ 3)) : bndZ S fb c what = -1000002 := by
  unfold bndZ
  rw [if_neg (by rintro (q | q); (exact h q.1); exact q.2 hS), if_pos hw]
theorem bndZ_k {S : FS} {fb : Nat → Nat} {c what : Int32} {k : Nat} (h24 : S.2.1 ≤ 24) (hk : c = nI k) (hS : k < S.2.1) (hw : 0 ≤ what ∧ what ≤ 3) : bndZ S fb c what = bfold what (xy S what) (fb k) (fb (k + 1) - fb k) := by
  unfold bndZ
  rw [hk, if_neg (by rintro (q | q); (exact nI_nm1 (by omega) q.1); exact q.2 (nI_bt (by omega) hS)), if_neg (fun q => q hw), if_neg (nI_nm1 (by omega)), nI_clamp (by omega)]
set_option maxHeartbeats 4000000 in
set_option maxRecDepth 100000 in
theorem mX1_boundOf {g : gX} {V : vM} {S : FS} {fb : Nat → Nat} (hF : FRC V S) (hG : GI S fb) (h24 : S.2.1 ≤ 24) (h15 : S.1 ≤ 1536) (p d : Nat) (hd : 0 < d) (hp : p + d ≤ S.1) (what : Int32) : MM g jX1_boundOf V [.ref (g.2.1 6), .int (nI p), .int (nI (p + d)), .int what] (pI V (bfold what (xy S what) p d)) := by
  refine MM.of plX1_boundOf (Nat.le_of_ble_eq_true rfl) ?_
  obtain ⟨Q, hQ⟩ : ∃ Q : Option Value → vM → Prop, Q = (pI V (bfold what (xy S what) p d)) := ⟨_, rfl⟩
  rw [← hQ]
  show XX g jX1_boundOf Q V 0 [(0, .ref (g.2.1 6)), (1, .int (nI p)), (2, .int (nI (p + d))), (3, .int what)] []
  refine x_iload_n dX1_boundOf_0 3 rfl ?_
  refine x_iconst (v := 2) dX1_boundOf_1 (by decide) ?_
  have nz1 : ¬ (2 : Int32) = 0 := by decide
  refine x_irem dX1_boundOf_2 nz1 ?_
  refine x_if_ne 13 dX1_boundOf_3 (by decide) (fun c2 => ?_) (fun c2 => ?_)
  · refine x_aload_n dX1_boundOf_13 0 rfl ?_
    refine x_getR fl_X1_15 rfl rfl dX1_boundOf_14 ?_
    refine x_astore 4 [(4, .ref (g.2.1 21)), (0, .ref (g.2.1 6)), (1, .int (nI p)), (2, .int (nI (p + d))), (3, .int what)] dX1_boundOf_17 (by decide) rfl ?_
    refine x_aload_n dX1_boundOf_19 1 rfl ?_
    refine x_iload_n dX1_boundOf_20 2 rfl ?_
    refine x_callV (K := jX1_isVertex) [.int (nI p)] lk_X1_117 ⟨⟨rfl, rfl⟩, Nat.le_of_ble_eq_true rfl, Nat.le_of_ble_eq_true rfl⟩ rfl rfl (mX1_isVertex hF hG h24 h15 p (by omega)) rfl (Nat.le_of_ble_eq_true rfl) rfl dX1_boundOf_21 (kpI ?_)
    refine x_if_eq 34 dX1_boundOf_24 (by decide) (fun c3 => by exfalso; revert c3; decide) (fun c3 => ?_)
    refine x_aload dX1_boundOf_27 0 rfl ?_
    refine x_iload_n dX1_boundOf_29 2 rfl ?_
    have b4 : vp_in (nI p) 1536 := by exact vp_in_nI (by omega) (by decide)
    refine x_iald rfl b4 dX1_boundOf_30 ?_
    refine x_topi (y := V 21 p) (by rw [nI_clamp (by omega)]) ?_
    refine x_topi (show V 21 p = xy S what p from (hF.2.2.1 p (by omega)).2.1.trans (by first | (rw [xy_0 (by assumption)]; done) | (rw [xy_1 (by assumption)]; done) | exact absurd (show what - what / 2 * 2 = 0 by assumption) (by assumption))) ?_
    refine x_goto 35 dX1_boundOf_31 (by decide) ?_
    refine x_istore 5 [(5, .int (xy S what p)), (4, .ref (g.2.1 21)), (0, .ref (g.2.1 6)), (1, .int (nI p)), (2, .int (nI (p + d))), (3, .int what)] dX1_boundOf_35 (by decide) rfl ?_
    refine x_iload_n dX1_boundOf_37 3 rfl ?_
    refine x_istore 6 [(6, .int (nI p)), (5, .int (xy S what p)), (4, .ref (g.2.1 21)), (0, .ref (g.2.1 6)), (1, .int (nI p)), (2, .int (nI (p + d))), (3, .int what)] dX1_boundOf_38 (by decide) rfl ?_
    have lp5 : ∀ (fu : Nat) (j : Nat), (j ≤ d) → (d - j) < fu → XX g jX1_boundOf Q V 40 [(6, .int (nI (p + j))), (5, .int (bfold what (xy S what) p j)), (4, .ref (g.2.1 21)), (0, .ref (g.2.1 6)), (1, .int (nI p)), (2, .int (nI (p + d))), (3, .int what)] [] := by
      intro fu
      induction fu with
      | zero => intro _ _ hmz; exact absurd hmz (Nat.not_lt_zero _)
      | succ fu ih =>
        intro j hj hmz
        refine x_iload dX1_boundOf_40 0 rfl ?_
        refine x_iload_n dX1_boundOf_42 5 rfl ?_
        refine x_icmp_ge 91 dX1_boundOf_43 (by decide) (fun c6 => ?_) (fun c6 => ?_)
        · have c6n : p + d ≤ p + j := (nl_le (a := p + d) (b := p + j) (rfl) (rfl) (by omega) (by omega)).mp c6
          refine x_iload dX1_boundOf_91 1 rfl ?_
          refine x_iret dX1_boundOf_93 rfl ?_
          rw [hQ]
          refine ⟨rfl, ?_⟩
          rw [show j = d by omega]
        · have c6n : p + j < p + d := Nat.not_le.mp (fun q => c6 ((nl_le (a := p + d) (b := p + j) (rfl) (rfl) (by omega) (by omega)).mpr q))
          refine x_iload dX1_boundOf_46 0 rfl ?_
          refine x_aload_n dX1_boundOf_48 3 rfl ?_
          refine x_getI fl_X1_38 rfl rfl dX1_boundOf_49 ?_
          refine x_topi (hF.1) ?_
          refine x_icmp_ge 91 dX1_boundOf_52 (by decide) (fun c7 => by exfalso; exact absurd ((nl_le (a := S.1) (b := p + j) rfl rfl (by omega) (by omega)).mp c7) (by omega)) (fun c7 => ?_)
          refine x_iload_n dX1_boundOf_55 6 rfl ?_
          refine x_iconst (v := 2) dX1_boundOf_56 (by decide) ?_
          refine x_icmp_ge 73 dX1_boundOf_57 (by decide) (fun c8 => ?_) (fun c8 => ?_)
          · refine x_iload dX1_boundOf_73 1 rfl ?_
            refine x_aload dX1_boundOf_75 2 rfl ?_
            refine x_iload dX1_boundOf_77 0 rfl ?_
            have b9 : vp_in (nI (p + j)) 1536 := by exact vp_in_nI (by omega) (by decide)
            refine x_iald rfl b9 dX1_boundOf_79 ?_
            refine x_topi (y := V 21 (p + j)) (by rw [nI_clamp (by omega)]) ?_
            refine x_topi (show V 21 (p + j) = xy S what (p + j) from (hF.2.2.1 (p + j) (by omega)).2.1.trans (by first | (rw [xy_0 (by assumption)]; done) | (rw [xy_1 (by assumption)]; done) | exact absurd (show what - what / 2 * 2 = 0 by assumption) (by assumption))) ?_
            refine x_mmax pr_mmax_X1_168 pr_mmax_st pr_math pr_mmax_code (by decide) (Nat.le_of_ble_eq_true rfl) dX1_boundOf_80 ?_
            refine x_istore 5 [(5, .int (if (bfold what (xy S what) p j) < (xy S what (p + j)) then (xy S what (p + j)) else (bfold what (xy S what) p j))), (6, .int (nI (p + j))), (4, .ref (g.2.1 21)), (0, .ref (g.2.1 6)), (1, .int (nI p)), (2, .int (nI (p + d))), (3, .int what)] dX1_boundOf_83 (by decide) rfl ?_
            refine x_iinc 6 (v := (nI (p + j)) + 1) 1 [(6, .int ((nI (p + j)) + 1)), (5, .int (if (bfold what (xy S what) p j) < (xy S what (p + j)) then (xy S what (p + j)) else (bfold what (xy S what) p j))), (4, .ref (g.2.1 21)), (0, .ref (g.2.1 6)), (1, .int (nI p)), (2, .int (nI (p + d))), (3, .int what)] dX1_boundOf_85 rfl (by rfl) (by decide) rfl ?_
            refine x_goto 40 dX1_boundOf_88 (by decide) ?_
            refine YY.L (lv' := [(6, .int (nI (p + (j + 1)))), (5, .int (bfold what (xy S what) p (j + 1))), (4, .ref (g.2.1 21)), (0, .ref (g.2.1 6)), (1, .int (nI p)), (2, .int (nI (p + d))), (3, .int what)]) (by first | (rw [bf_m (what := what) (f := xy S what) (a := p) (j := j) (by first | assumption | exact Int32.not_le.mp (by assumption) | exact Int32.not_lt.mpr (by assumption) | exact Int32.not_lt.mp (by assumption)), nI_1]; rfl) | (rw [bf_x (what := what) (f := xy S what) (a := p) (j := j) (by first | assumption | exact Int32.not_le.mp (by assumption) | exact Int32.not_lt.mpr (by assumption) | exact Int32.not_lt.mp (by assumption)), nI_1]; rfl)) ?_
            exact ih (j + 1) (by omega) (by omega)
          · refine x_iload dX1_boundOf_60 1 rfl ?_
            refine x_aload dX1_boundOf_62 2 rfl ?_
            refine x_iload dX1_boundOf_64 0 rfl ?_
            have b10 : vp_in (nI (p + j)) 1536 := by exact vp_in_nI (by omega) (by decide)
            refine x_iald rfl b10 dX1_boundOf_66 ?_
            refine x_topi (y := V 21 (p + j)) (by rw [nI_clamp (by omega)]) ?_
            refine x_topi (show V 21 (p + j) = xy S what (p + j) from (hF.2.2.1 (p + j) (by omega)).2.1.trans (by first | (rw [xy_0 (by assumption)]; done) | (rw [xy_1 (by assumption)]; done) | exact absurd (show what - what / 2 * 2 = 0 by assumption) (by assumption))) ?_
            refine x_mmin pr_mmin_X1_166 pr_mmin_st pr_math pr_mmin_code (by decide) (Nat.le_of_ble_eq_true rfl) dX1_boundOf_67 ?_
            refine x_goto 83 dX1_boundOf_70 (by decide) ?_
            refine x_istore 5 [(5, .int (if (xy S what (p + j)) < (bfold what (xy S what) p j) then (xy S what (p + j)) else (bfold what (xy S what) p j))), (6, .int (nI (p + j))), (4, .ref (g.2.1 21)), (0, .ref (g.2.1 6)), (1, .int (nI p)), (2, .int (nI (p + d))), (3, .int what)] dX1_boundOf_83 (by decide) rfl ?_
            refine x_iinc 6 (v := (nI (p + j)) + 1) 1 [(6, .int ((nI (p + j)) + 1)), (5, .int (if (xy S what (p + j)) < (bfold what (xy S what) p j) then (xy S what (p + j)) else (bfold what (xy S what) p j))), (4, .ref (g.2.1 21)), (0, .ref (g.2.1 6)), (1, .int (nI p)), (2, .int (nI (p + d))), (3, .int what)] dX1_boundOf_85 rfl (by rfl) (by decide) rfl ?_
            refine x_goto 40 dX1_boundOf_88 (by decide) ?_
            refine YY.L (lv' := [(6, .int (nI (p + (j + 1)))), (5, .int (bfold what (xy S what) p (j + 1))), (4, .ref (g.2.1 21)), (0, .ref (g.2.1 6)), (1, .int (nI p)), (2, .int (nI (p + d))), (3, .int what)]) (by first | (rw [bf_m (what := what) (f := xy S what) (a := p) (j := j) (by first | assumption | exact Int32.not_le.mp (by assumption) | exact Int32.not_lt.mpr (by assumption) | exact Int32.not_lt.mp (by assumption)), nI_1]; rfl) | (rw [bf_x (what := what) (f := xy S what) (a := p) (j := j) (by first | assumption | exact Int32.not_le.mp (by assumption) | exact Int32.not_lt.mpr (by assumption) | exact Int32.not_lt.mp (by assumption)), nI_1]; rfl)) ?_
            exact ih (j + 1) (by omega) (by omega)
    refine YY.L (lv' := [(6, .int (nI (p + 0))), (5, .int (bfold what (xy S what) p 0)), (4, .ref (g.2.1 21)), (0, .ref (g.2.1 6)), (1, .int (nI p)), (2, .int (nI (p + d))), (3, .int what)]) (by rfl) ?_
    exact lp5 _ 0 (by omega) (Nat.lt_succ_self _)
  · refine x_aload_n dX1_boundOf_6 0 rfl ?_
    refine x_getR fl_X1_9 rfl rfl dX1_boundOf_7 ?_
    refine x_goto 17 dX1_boundOf_10 (by decide) ?_
    refine x_astore 4 [(4, .ref (g.2.1 20)), (0, .ref (g.2.1 6)), (1, .int (nI p)), (2, .int (nI (p + d))), (3, .int what)] dX1_boundOf_17 (by decide) rfl ?_
    refine x_aload_n dX1_boundOf_19 1 rfl ?_
    refine x_iload_n dX1_boundOf_20 2 rfl ?_
    refine x_callV (K := jX1_isVertex) [.int (nI p)] lk_X1_117 ⟨⟨rfl, rfl⟩, Nat.le_of_ble_eq_true rfl, Nat.le_of_ble_eq_true rfl⟩ rfl rfl (mX1_isVertex hF hG h24 h15 p (by omega)) rfl (Nat.le_of_ble_eq_true rfl) rfl dX1_boundOf_21 (kpI ?_)
    refine x_if_eq 34 dX1_boundOf_24 (by decide) (fun c11 => by exfalso; revert c11; decide) (fun c11 => ?_)
    refine x_aload dX1_boundOf_27 0 rfl ?_
    refine x_iload_n dX1_boundOf_29 2 rfl ?_
    have b12 : vp_in (nI p) 1536 := by exact vp_in_nI (by omega) (by decide)
    refine x_iald rfl b12 dX1_boundOf_30 ?_
    refine x_topi (y := V 20 p) (by rw [nI_clamp (by omega)]) ?_
    refine x_topi (show V 20 p = xy S what p from (hF.2.2.1 p (by omega)).1.trans (by first | (rw [xy_0 (by assumption)]; done) | (rw [xy_1 (by assumption)]; done) | exact absurd (show what - what / 2 * 2 = 0 by assumption) (by assumption))) ?_
    refine x_goto 35 dX1_boundOf_31 (by decide) ?_
    refine x_istore 5 [(5, .int (xy S what p)), (4, .ref (g.2.1 20)), (0, .ref (g.2.1 6)), (1, .int (nI p)), (2, .int (nI (p + d))), (3, .int what)] dX1_boundOf_35 (by decide) rfl ?_
    refine x_iload_n dX1_boundOf_37 3 rfl ?_
    refine x_istore 6 [(6, .int (nI p)), (5, .int (xy S what p)), (4, .ref (g.2.1 20)), (0, .ref (g.2.1 6)), (1, .int (nI p)), (2, .int (nI (p + d))), (3, .int what)] dX1_boundOf_38 (by decide) rfl ?_
    have lp13 : ∀ (fu : Nat) (j : Nat), (j ≤ d) → (d - j) < fu → XX g jX1_boundOf Q V 40 [(6, .int (nI (p + j))), (5, .int (bfold what (xy S what) p j)), (4, .ref (g.2.1 20)), (0, .ref (g.2.1 6)), (1, .int (nI p)), (2, .int (nI (p + d))), (3, .int what)] [] := by
      intro fu
      induction fu with
      | zero => intro _ _ hmz; exact absurd hmz (Nat.not_lt_zero _)
      | succ fu ih =>
        intro j hj hmz
        refine x_iload dX1_boundOf_40 0 rfl ?_
        refine x_iload_n dX1_boundOf_42 5 rfl ?_
        refine x_icmp_ge 91 dX1_boundOf_43 (by decide) (fun c14 => ?_) (fun c14 => ?_)
        · have c14n : p + d ≤ p + j := (nl_le (a := p + d) (b := p + j) (rfl) (rfl) (by omega) (by omega)).mp c14
          refine x_iload dX1_boundOf_91 1 rfl ?_
          refine x_iret dX1_boundOf_93 rfl ?_
          rw [hQ]
          refine ⟨rfl, ?_⟩
          rw [show j = d by omega]
        · have c14n : p + j < p + d := Nat.not_le.mp (fun q => c14 ((nl_le (a := p + d) (b := p + j) (rfl) (rfl) (by omega) (by omega)).mpr q))
          refine x_iload dX1_boundOf_46 0 rfl ?_
          refine x_aload_n dX1_boundOf_48 3 rfl ?_
          refine x_getI fl_X1_38 rfl rfl dX1_boundOf_49 ?_
          refine x_topi (hF.1) ?_
          refine x_icmp_ge 91 dX1_boundOf_52 (by decide) (fun c15 => by exfalso; exact absurd ((nl_le (a := S.1) (b := p + j) rfl rfl (by omega) (by omega)).mp c15) (by omega)) (fun c15 => ?_)
          refine x_iload_n dX1_boundOf_55 6 rfl ?_
          refine x_iconst (v := 2) dX1_boundOf_56 (by decide) ?_
          refine x_icmp_ge 73 dX1_boundOf_57 (by decide) (fun c16 => ?_) (fun c16 => ?_)
          · refine x_iload dX1_boundOf_73 1 rfl ?_
            refine x_aload dX1_boundOf_75 2 rfl ?_
            refine x_iload dX1_boundOf_77 0 rfl ?_
            have b17 : vp_in (nI (p + j)) 1536 := by exact vp_in_nI (by omega) (by decide)
            refine x_iald rfl b17 dX1_boundOf_79 ?_
            refine x_topi (y := V 20 (p + j)) (by rw [nI_clamp (by omega)]) ?_
            refine x_topi (show V 20 (p + j) = xy S what (p + j) from (hF.2.2.1 (p + j) (by omega)).1.trans (by first | (rw [xy_0 (by assumption)]; done) | (rw [xy_1 (by assumption)]; done) | exact absurd (show what - what / 2 * 2 = 0 by assumption) (by assumption))) ?_
            refine x_mmax pr_mmax_X1_168 pr_mmax_st pr_math pr_mmax_code (by decide) (Nat.le_of_ble_eq_true rfl) dX1_boundOf_80 ?_
            refine x_istore 5 [(5, .int (if (bfold what (xy S what) p j) < (xy S what (p + j)) then (xy S what (p + j)) else (bfold what (xy S what) p j))), (6, .int (nI (p + j))), (4, .ref (g.2.1 20)), (0, .ref (g.2.1 6)), (1, .int (nI p)), (2, .int (nI (p + d))), (3, .int what)] dX1_boundOf_83 (by decide) rfl ?_
            refine x_iinc 6 (v := (nI (p + j)) + 1) 1 [(6, .int ((nI (p + j)) + 1)), (5, .int (if (bfold what (xy S what) p j) < (xy S what (p + j)) then (xy S what (p + j)) else (bfold what (xy S what) p j))), (4, .ref (g.2.1 20)), (0, .ref (g.2.1 6)), (1, .int (nI p)), (2, .int (nI (p + d))), (3, .int what)] dX1_boundOf_85 rfl (by rfl) (by decide) rfl ?_
            refine x_goto 40 dX1_boundOf_88 (by decide) ?_
            refine YY.L (lv' := [(6, .int (nI (p + (j + 1)))), (5, .int (bfold what (xy S what) p (j + 1))), (4, .ref (g.2.1 20)), (0, .ref (g.2.1 6)), (1, .int (nI p)), (2, .int (nI (p + d))), (3, .int what)]) (by first | (rw [bf_m (what := what) (f := xy S what) (a := p) (j := j) (by first | assumption | exact Int32.not_le.mp (by assumption) | exact Int32.not_lt.mpr (by assumption) | exact Int32.not_lt.mp (by assumption)), nI_1]; rfl) | (rw [bf_x (what := what) (f := xy S what) (a := p) (j := j) (by first | assumption | exact Int32.not_le.mp (by assumption) | exact Int32.not_lt.mpr (by assumption) | exact Int32.not_lt.mp (by assumption)), nI_1]; rfl)) ?_
            exact ih (j + 1) (by omega) (by omega)
          · refine x_iload dX1_boundOf_60 1 rfl ?_
            refine x_aload dX1_boundOf_62 2 rfl ?_
            refine x_iload dX1_boundOf_64 0 rfl ?_
            have b18 : vp_in (nI (p + j)) 1536 := by exact vp_in_nI (by omega) (by decide)
            refine x_iald rfl b18 dX1_boundOf_66 ?_
            refine x_topi (y := V 20 (p + j)) (by rw [nI_clamp (by omega)]) ?_
            refine x_topi (show V 20 (p + j) = xy S what (p + j) from (hF.2.2.1 (p + j) (by omega)).1.trans (by first | (rw [xy_0 (by assumption)]; done) | (rw [xy_1 (by assumption)]; done) | exact absurd (show what - what / 2 * 2 = 0 by assumption) (by assumption))) ?_
            refine x_mmin pr_mmin_X1_166 pr_mmin_st pr_math pr_mmin_code (by decide) (Nat.le_of_ble_eq_true rfl) dX1_boundOf_67 ?_
            refine x_goto 83 dX1_boundOf_70 (by decide) ?_
            refine x_istore 5 [(5, .int (if (xy S what (p + j)) < (bfold what (xy S what) p j) then (xy S what (p + j)) else (bfold what (xy S what) p j))), (6, .int (nI (p + j))), (4, .ref (g.2.1 20)), (0, .ref (g.2.1 6)), (1, .int (nI p)), (2, .int (nI (p + d))), (3, .int what)] dX1_boundOf_83 (by decide) rfl ?_
            refine x_iinc 6 (v := (nI (p + j)) + 1) 1 [(6, .int ((nI (p + j)) + 1)), (5, .int (if (xy S what (p + j)) < (bfold what (xy S what) p j) then (xy S what (p + j)) else (bfold what (xy S what) p j))), (4, .ref (g.2.1 20)), (0, .ref (g.2.1 6)), (1, .int (nI p)), (2, .int (nI (p + d))), (3, .int what)] dX1_boundOf_85 rfl (by rfl) (by decide) rfl ?_
            refine x_goto 40 dX1_boundOf_88 (by decide) ?_
            refine YY.L (lv' := [(6, .int (nI (p + (j + 1)))), (5, .int (bfold what (xy S what) p (j + 1))), (4, .ref (g.2.1 20)), (0, .ref (g.2.1 6)), (1, .int (nI p)), (2, .int (nI (p + d))), (3, .int what)]) (by first | (rw [bf_m (what := what) (f := xy S what) (a := p) (j := j) (by first | assumption | exact Int32.not_le.mp (by assumption) | exact Int32.not_lt.mpr (by assumption) | exact Int32.not_lt.mp (by assumption)), nI_1]; rfl) | (rw [bf_x (what := what) (f := xy S what) (a := p) (j := j) (by first | assumption | exact Int32.not_le.mp (by assumption) | exact Int32.not_lt.mpr (by assumption) | exact Int32.not_lt.mp (by assumption)), nI_1]; rfl)) ?_
            exact ih (j + 1) (by omega) (by omega)
    refine YY.L (lv' := [(6, .int (nI (p + 0))), (5, .int (bfold what (xy S what) p 0)), (4, .ref (g.2.1 20)), (0, .ref (g.2.1 6)), (1, .int (nI p)), (2, .int (nI (p + d))), (3, .int what)]) (by rfl) ?_
    exact lp13 _ 0 (by omega) (Nat.lt_succ_self _)
set_option maxHeartbeats 1000000 in
set_option maxRecDepth 100000 in
theorem mX9_bound {g : gX} {V : vM} {m : Nat → Int32} {N : Nat} {t : Int32} {S : FS} {fb : Nat → Nat} (hCQ : CQ V m N t S fb) (c what : Int32) : MM g jX9_bound V [.ref (g.2.1 0), .int c, .int what] (eI (fun z U => z = bndZ S fb c what ∧ CQ U m N t S fb ∧ frQ V U)) := by
  refine MM.of plX9_bound (Nat.le_of_ble_eq_true rfl) ?_
  obtain ⟨Q, hQ⟩ : ∃ Q : Option Value → vM → Prop, Q = (eI (fun z U => z = bndZ S fb c what ∧ CQ U m N t S fb ∧ frQ V U)) := ⟨_, rfl⟩
  rw [← hQ]
  show XX g jX9_bound Q V 0 [(0, .ref (g.2.1 0)), (1, .int c), (2, .int what)] []
  obtain ⟨hC, hS, hG, h24, h15, hcn, hL⟩ := id hCQ
  have hP0 := hC.1
  have hV13 : V 1 3 = nI S.2.1 := by rw [hP0.2.1, hcn]
  have hN24 := hP0.2.2.1.1
  have hcl := cntM_le (kd7 m) N
  refine x_iload_n dX9_bound_0 1 rfl ?_
  refine x_iconst (v := -1) dX9_bound_1 (by decide) ?_
  refine x_icmp_ne 23 dX9_bound_2 (by decide) (fun c1 => ?_) (fun c1 => ?_)
  · refine x_aload_n dX9_bound_23 0 rfl ?_
    refine x_iload_n dX9_bound_24 1 rfl ?_
    refine x_callV (K := jX9_isContour) [.int c] lk_X9_133 ⟨⟨rfl, rfl⟩, Nat.le_of_ble_eq_true rfl, Nat.le_of_ble_eq_true rfl⟩ rfl rfl (by have := mX9_isContour (g := g) V c; rw [hV13] at this; exact this) rfl (Nat.le_of_ble_eq_true rfl) rfl dX9_bound_25 (kpI ?_)
    refine x_istore_n 3 [(3, .int (iB (0 ≤ c ∧ c < nI S.2.1))), (0, .ref (g.2.1 0)), (1, .int c), (2, .int what)] dX9_bound_28 rfl (by decide) rfl ?_
    refine x_iload_n dX9_bound_29 0 rfl ?_
    refine x_if_ne 36 dX9_bound_30 (by decide) (fun c2 => ?_) (fun c2 => ?_)
    · have c2n : (0 ≤ c ∧ c < nI S.2.1) := Classical.not_not.mp (fun q => c2 (iB_0.mpr q))
      refine x_iload_n dX9_bound_36 3 rfl ?_
      refine x_iconst (v := 0) dX9_bound_37 (by decide) ?_
      refine x_iconst (v := 3) dX9_bound_38 (by decide) ?_
      refine x_callS (K := jX9_between) [.int what, .int 0, .int 3] lk_X9_129 ⟨⟨rfl, rfl⟩, Nat.le_of_ble_eq_true rfl, Nat.le_of_ble_eq_true rfl⟩ (mX9_between V what 0 3) rfl (Nat.le_of_ble_eq_true rfl) rfl dX9_bound_39 (kpI ?_)
      refine x_if_ne 48 dX9_bound_42 (by decide) (fun c3 => ?_) (fun c3 => ?_)
      · have c3n : (0 ≤ what ∧ what ≤ 3) := Classical.not_not.mp (fun q => c3 (iB_0.mpr q))
        obtain ⟨k, hk0, hkS⟩ := nI_ex (c := c) (n := S.2.1) (by omega) (by assumption)
        refine YY.L (lv' := [(3, .int (iB (0 ≤ c ∧ c < nI S.2.1))), (0, .ref (g.2.1 0)), (1, .int (nI k)), (2, .int what)]) (by rw [hk0]) ?_
        have hkb := hG.bd (j := k + 1) (by omega)
        have hkl := (hG.2.2.2 k hkS).1
        refine x_aload_n dX9_bound_48 1 rfl ?_
        refine x_callV (K := jX9_flattened) [] lk_X9_118 ⟨⟨rfl, rfl⟩, Nat.le_of_ble_eq_true rfl, Nat.le_of_ble_eq_true rfl⟩ rfl rfl (mX9_flattened hC) rfl (Nat.le_of_ble_eq_true rfl) rfl dX9_bound_49 (keR fun U4 hU5 => ?_)
        have hCQ2 := hCQ.aft hU5
        have hFr := hU5.2.2
        have hF : FRC U4 S := by rw [← hS]; exact hU5.1
        have hPU := hCQ2.1.1
        have hU13 : U4 1 3 = nI (S.2.1) := by rw [hPU.2.1, hcn]
        refine x_astore 4 [(4, .ref (g.2.1 6)), (3, .int (iB (0 ≤ c ∧ c < nI S.2.1))), (0, .ref (g.2.1 0)), (1, .int (nI k)), (2, .int what)] dX9_bound_52 (by decide) rfl ?_
        refine x_iload_n dX9_bound_54 3 rfl ?_
        refine x_iconst (v := -1) dX9_bound_55 (by decide) ?_
        refine x_icmp_ne 63 dX9_bound_56 (by decide) (fun c6 => ?_) (fun c6 => by exfalso; exact nI_nm1 (by omega) c6)
        refine x_iload_n dX9_bound_63 3 rfl ?_
        refine x_istore 5 [(5, .int (nI k)), (4, .ref (g.2.1 6)), (3, .int (iB (0 ≤ c ∧ c < nI S.2.1))), (0, .ref (g.2.1 0)), (1, .int (nI k)), (2, .int what)] dX9_bound_64 (by decide) rfl ?_
        refine x_iload_n dX9_bound_66 4 rfl ?_
        refine x_iconst (v := -1) dX9_bound_67 (by decide) ?_
        refine x_icmp_ne 81 dX9_bound_68 (by decide) (fun c7 => ?_) (fun c7 => by exfalso; exact nI_nm1 (by omega) c7)
        refine x_iload_n dX9_bound_81 4 rfl ?_
        refine x_iconst (v := 1) dX9_bound_82 (by decide) ?_
        refine x_iadd dX9_bound_83 ?_
        refine x_istore 6 [(6, .int ((nI k) + 1)), (5, .int (nI k)), (4, .ref (g.2.1 6)), (3, .int (iB (0 ≤ c ∧ c < nI S.2.1))), (0, .ref (g.2.1 0)), (1, .int (nI k)), (2, .int what)] dX9_bound_84 (by decide) rfl ?_
        refine x_aload dX9_bound_86 2 rfl ?_
        refine x_aload dX9_bound_88 2 rfl ?_
        refine x_iload dX9_bound_90 1 rfl ?_
        refine x_callV (K := jX1_firstOf) [.int (nI k)] lk_X9_190 ⟨⟨rfl, rfl⟩, Nat.le_of_ble_eq_true rfl, Nat.le_of_ble_eq_true rfl⟩ rfl rfl (mX1_firstOf hF hG h24 h15 k (by omega)) rfl (Nat.le_of_ble_eq_true rfl) rfl dX9_bound_92 (kpI ?_)
        refine x_aload dX9_bound_95 2 rfl ?_
        refine x_iload dX9_bound_97 0 rfl ?_
        have q8 : ((nI k) + 1 : Int32) = nI (k + 1) := nadd (rfl) (rfl)
        refine YY.S (st' := [.int (nI (k + 1)), .ref (g.2.1 6), .int (nI (fb k)), .ref (g.2.1 6)]) (by rw [q8]) ?_
        refine x_callV (K := jX1_firstOf) [.int (nI (k + 1))] lk_X9_190 ⟨⟨rfl, rfl⟩, Nat.le_of_ble_eq_true rfl, Nat.le_of_ble_eq_true rfl⟩ rfl rfl (mX1_firstOf hF hG h24 h15 (k + 1) (by omega)) rfl (Nat.le_of_ble_eq_true rfl) rfl dX9_bound_99 (kpI ?_)
        refine x_iload_n dX9_bound_102 6 rfl ?_
        refine x_callV (K := jX1_boundOf) [.int (nI (fb k)), .int (nI (fb (k + 1))), .int what] lk_X9_216 ⟨⟨rfl, rfl⟩, Nat.le_of_ble_eq_true rfl, Nat.le_of_ble_eq_true rfl⟩ rfl rfl (by have := mX1_boundOf (g := g) hF hG h24 h15 (fb k) (fb (k + 1) - fb k) (by omega) (by omega) what; rw [show fb k + (fb (k + 1) - fb k) = fb (k + 1) by omega] at this; exact this) rfl (Nat.le_of_ble_eq_true rfl) rfl dX9_bound_103 (kpI ?_)
        refine x_iret dX9_bound_106 rfl ?_
        rw [hQ]
        first
          | exact ⟨_, rfl, (bndZ_no (by first | exact Or.inl ⟨by assumption, by omega⟩ | exact Or.inr ⟨by assumption, by assumption⟩)).symm, hCQ, frQ.refl V⟩
          | exact ⟨_, rfl, (bndZ_ab (by assumption) (by omega) (by assumption)).symm, hCQ, frQ.refl V⟩
          | exact ⟨_, rfl, (bndZ_kb (by assumption) (by assumption) (by assumption)).symm, hCQ, frQ.refl V⟩
          | (refine ⟨_, rfl, ?_, hCQ2, hFr⟩
             rw [bndZ_a (by assumption) (by omega) (by assumption), hb0, hbn, Nat.sub_zero])
          | (refine ⟨_, rfl, ?_, hCQ2, hFr⟩
             rw [bndZ_k h24 hk0 hkS (by assumption)])
      · have c3n : ¬ (0 ≤ what ∧ what ≤ 3) := iB_0.mp c3
        refine x_ldc ct_X9_83 dX9_bound_45 ?_
        refine x_iret dX9_bound_47 rfl ?_
        rw [hQ]
        first
          | exact ⟨_, rfl, (bndZ_no (by first | exact Or.inl ⟨by assumption, by omega⟩ | exact Or.inr ⟨by assumption, by assumption⟩)).symm, hCQ, frQ.refl V⟩
          | exact ⟨_, rfl, (bndZ_ab (by assumption) (by omega) (by assumption)).symm, hCQ, frQ.refl V⟩
          | exact ⟨_, rfl, (bndZ_kb (by assumption) (by assumption) (by assumption)).symm, hCQ, frQ.refl V⟩
          | (refine ⟨_, rfl, ?_, hCQ2, hFr⟩
             rw [bndZ_a (by assumption) (by omega) (by assumption), hb0, hbn, Nat.sub_zero])
          | (refine ⟨_, rfl, ?_, hCQ2, hFr⟩
             rw [bndZ_k h24 hk0 hkS (by assumption)])
    · have c2n : ¬ (0 ≤ c ∧ c < nI S.2.1) := iB_0.mp c2
      refine x_ldc ct_X9_111 dX9_bound_33 ?_
      refine x_iret dX9_bound_35 rfl ?_
      rw [hQ]
      first
        | exact ⟨_, rfl, (bndZ_no (by first | exact Or.inl ⟨by assumption, by omega⟩ | exact Or.inr ⟨by assumption, by assumption⟩)).symm, hCQ, frQ.refl V⟩
        | exact ⟨_, rfl, (bndZ_ab (by assumption) (by omega) (by assumption)).symm, hCQ, frQ.refl V⟩
        | exact ⟨_, rfl, (bndZ_kb (by assumption) (by assumption) (by assumption)).symm, hCQ, frQ.refl V⟩
        | (refine ⟨_, rfl, ?_, hCQ2, hFr⟩
           rw [bndZ_a (by assumption) (by omega) (by assumption), hb0, hbn, Nat.sub_zero])
        | (refine ⟨_, rfl, ?_, hCQ2, hFr⟩
           rw [bndZ_k h24 hk0 hkS (by assumption)])
  · refine x_aload_n dX9_bound_5 0 rfl ?_
    refine x_getR fl_X9_12 rfl rfl dX9_bound_6 ?_
    refine x_getI fl_X9_91 rfl rfl dX9_bound_9 ?_
    refine x_topi (hV13) ?_
    refine x_if_le 19 dX9_bound_12 (by decide) (fun c9 => ?_) (fun c9 => ?_)
    · have c9n : S.2.1 ≤ 0 := (nl_le (a := S.2.1) (b := 0) (rfl) (rfl) (by omega) (by omega)).mp c9
      refine x_iconst (v := 0) dX9_bound_19 (by decide) ?_
      refine x_goto 28 dX9_bound_20 (by decide) ?_
      refine x_istore_n 3 [(3, .int 0), (0, .ref (g.2.1 0)), (1, .int c), (2, .int what)] dX9_bound_28 rfl (by decide) rfl ?_
      refine x_iload_n dX9_bound_29 0 rfl ?_
      refine x_if_ne 36 dX9_bound_30 (by decide) (fun c10 => by exfalso; revert c10; decide) (fun c10 => ?_)
      refine x_ldc ct_X9_111 dX9_bound_33 ?_
      refine x_iret dX9_bound_35 rfl ?_
      rw [hQ]
      first
        | exact ⟨_, rfl, (bndZ_no (by first | exact Or.inl ⟨by assumption, by omega⟩ | exact Or.inr ⟨by assumption, by assumption⟩)).symm, hCQ, frQ.refl V⟩
        | exact ⟨_, rfl, (bndZ_ab (by assumption) (by omega) (by assumption)).symm, hCQ, frQ.refl V⟩
        | exact ⟨_, rfl, (bndZ_kb (by assumption) (by assumption) (by assumption)).symm, hCQ, frQ.refl V⟩
        | (refine ⟨_, rfl, ?_, hCQ2, hFr⟩
           rw [bndZ_a (by assumption) (by omega) (by assumption), hb0, hbn, Nat.sub_zero])
        | (refine ⟨_, rfl, ?_, hCQ2, hFr⟩
           rw [bndZ_k h24 hk0 hkS (by assumption)])
    · have c9n : 0 < S.2.1 := Nat.not_le.mp (fun q => c9 ((nl_le (a := S.2.1) (b := 0) (rfl) (rfl) (by omega) (by omega)).mpr q))
      refine x_iconst (v := 1) dX9_bound_15 (by decide) ?_
      refine x_goto 28 dX9_bound_16 (by decide) ?_
      refine x_istore_n 3 [(3, .int 1), (0, .ref (g.2.1 0)), (1, .int c), (2, .int what)] dX9_bound_28 rfl (by decide) rfl ?_
      refine x_iload_n dX9_bound_29 0 rfl ?_
      refine x_if_ne 36 dX9_bound_30 (by decide) (fun c11 => ?_) (fun c11 => by exfalso; revert c11; decide)
      refine x_iload_n dX9_bound_36 3 rfl ?_
      refine x_iconst (v := 0) dX9_bound_37 (by decide) ?_
      refine x_iconst (v := 3) dX9_bound_38 (by decide) ?_
      refine x_callS (K := jX9_between) [.int what, .int 0, .int 3] lk_X9_129 ⟨⟨rfl, rfl⟩, Nat.le_of_ble_eq_true rfl, Nat.le_of_ble_eq_true rfl⟩ (mX9_between V what 0 3) rfl (Nat.le_of_ble_eq_true rfl) rfl dX9_bound_39 (kpI ?_)
      refine x_if_ne 48 dX9_bound_42 (by decide) (fun c12 => ?_) (fun c12 => ?_)
      · have c12n : (0 ≤ what ∧ what ≤ 3) := Classical.not_not.mp (fun q => c12 (iB_0.mpr q))
        refine YY.L (lv' := [(3, .int 1), (0, .ref (g.2.1 0)), (1, .int (-1)), (2, .int what)]) (by rw [(show c = -1 by assumption)]) ?_
        have hb0 := hG.1
        have hbn := hG.2.1
        have hb1 := hG.bl (j := 0) (by omega)
        refine x_aload_n dX9_bound_48 1 rfl ?_
        refine x_callV (K := jX9_flattened) [] lk_X9_118 ⟨⟨rfl, rfl⟩, Nat.le_of_ble_eq_true rfl, Nat.le_of_ble_eq_true rfl⟩ rfl rfl (mX9_flattened hC) rfl (Nat.le_of_ble_eq_true rfl) rfl dX9_bound_49 (keR fun U13 hU14 => ?_)
        have hCQ2 := hCQ.aft hU14
        have hFr := hU14.2.2
        have hF : FRC U13 S := by rw [← hS]; exact hU14.1
        have hPU := hCQ2.1.1
        have hU13 : U13 1 3 = nI (S.2.1) := by rw [hPU.2.1, hcn]
        refine x_astore 4 [(4, .ref (g.2.1 6)), (3, .int 1), (0, .ref (g.2.1 0)), (1, .int (-1)), (2, .int what)] dX9_bound_52 (by decide) rfl ?_
        refine x_iload_n dX9_bound_54 3 rfl ?_
        refine x_iconst (v := -1) dX9_bound_55 (by decide) ?_
        refine x_icmp_ne 63 dX9_bound_56 (by decide) (fun c15 => by exfalso; revert c15; decide) (fun c15 => ?_)
        refine x_iconst (v := 0) dX9_bound_59 (by decide) ?_
        refine x_goto 64 dX9_bound_60 (by decide) ?_
        refine x_istore 5 [(5, .int 0), (4, .ref (g.2.1 6)), (3, .int 1), (0, .ref (g.2.1 0)), (1, .int (-1)), (2, .int what)] dX9_bound_64 (by decide) rfl ?_
        refine x_iload_n dX9_bound_66 4 rfl ?_
        refine x_iconst (v := -1) dX9_bound_67 (by decide) ?_
        refine x_icmp_ne 81 dX9_bound_68 (by decide) (fun c16 => by exfalso; revert c16; decide) (fun c16 => ?_)
        refine x_aload_n dX9_bound_71 3 rfl ?_
        refine x_getR fl_X9_12 rfl rfl dX9_bound_72 ?_
        refine x_getI fl_X9_91 rfl rfl dX9_bound_75 ?_
        refine x_topi (hU13) ?_
        refine x_goto 84 dX9_bound_78 (by decide) ?_
        refine x_istore 6 [(6, .int (nI (S.2.1))), (5, .int 0), (4, .ref (g.2.1 6)), (3, .int 1), (0, .ref (g.2.1 0)), (1, .int (-1)), (2, .int what)] dX9_bound_84 (by decide) rfl ?_
        refine x_aload dX9_bound_86 2 rfl ?_
        refine x_aload dX9_bound_88 2 rfl ?_
        refine x_iload dX9_bound_90 1 rfl ?_
        have q17 : (0 : Int32) = nI 0 := rfl
        refine YY.S (st' := [.int (nI 0), .ref (g.2.1 6), .ref (g.2.1 6)]) (by rw [q17]) ?_
        refine x_callV (K := jX1_firstOf) [.int (nI 0)] lk_X9_190 ⟨⟨rfl, rfl⟩, Nat.le_of_ble_eq_true rfl, Nat.le_of_ble_eq_true rfl⟩ rfl rfl (mX1_firstOf hF hG h24 h15 0 (by omega)) rfl (Nat.le_of_ble_eq_true rfl) rfl dX9_bound_92 (kpI ?_)
        refine x_aload dX9_bound_95 2 rfl ?_
        refine x_iload dX9_bound_97 0 rfl ?_
        have q18 : (nI (S.2.1) : Int32) = nI S.2.1 := rfl
        refine YY.S (st' := [.int (nI S.2.1), .ref (g.2.1 6), .int (nI (fb 0)), .ref (g.2.1 6)]) (by rw [q18]) ?_
        refine x_callV (K := jX1_firstOf) [.int (nI S.2.1)] lk_X9_190 ⟨⟨rfl, rfl⟩, Nat.le_of_ble_eq_true rfl, Nat.le_of_ble_eq_true rfl⟩ rfl rfl (mX1_firstOf hF hG h24 h15 S.2.1 (by omega)) rfl (Nat.le_of_ble_eq_true rfl) rfl dX9_bound_99 (kpI ?_)
        refine x_iload_n dX9_bound_102 6 rfl ?_
        refine x_callV (K := jX1_boundOf) [.int (nI (fb 0)), .int (nI (fb S.2.1)), .int what] lk_X9_216 ⟨⟨rfl, rfl⟩, Nat.le_of_ble_eq_true rfl, Nat.le_of_ble_eq_true rfl⟩ rfl rfl (by have := mX1_boundOf (g := g) hF hG h24 h15 (fb 0) (fb S.2.1 - fb 0) (by omega) (by omega) what; rw [show fb 0 + (fb S.2.1 - fb 0) = fb S.2.1 by omega] at this; exact this) rfl (Nat.le_of_ble_eq_true rfl) rfl dX9_bound_103 (kpI ?_)
        refine x_iret dX9_bound_106 rfl ?_
        rw [hQ]
        first
          | exact ⟨_, rfl, (bndZ_no (by first | exact Or.inl ⟨by assumption, by omega⟩ | exact Or.inr ⟨by assumption, by assumption⟩)).symm, hCQ, frQ.refl V⟩
          | exact ⟨_, rfl, (bndZ_ab (by assumption) (by omega) (by assumption)).symm, hCQ, frQ.refl V⟩
          | exact ⟨_, rfl, (bndZ_kb (by assumption) (by assumption) (by assumption)).symm, hCQ, frQ.refl V⟩
          | (refine ⟨_, rfl, ?_, hCQ2, hFr⟩
             rw [bndZ_a (by assumption) (by omega) (by assumption), hb0, hbn, Nat.sub_zero])
          | (refine ⟨_, rfl, ?_, hCQ2, hFr⟩
             rw [bndZ_k h24 hk0 hkS (by assumption)])
      · have c12n : ¬ (0 ≤ what ∧ what ≤ 3) := iB_0.mp c12
        refine x_ldc ct_X9_83 dX9_bound_45 ?_
        refine x_iret dX9_bound_47 rfl ?_
        rw [hQ]
        first
          | exact ⟨_, rfl, (bndZ_no (by first | exact Or.inl ⟨by assumption, by omega⟩ | exact Or.inr ⟨by assumption, by assumption⟩)).symm, hCQ, frQ.refl V⟩
          | exact ⟨_, rfl, (bndZ_ab (by assumption) (by omega) (by assumption)).symm, hCQ, frQ.refl V⟩
          | exact ⟨_, rfl, (bndZ_kb (by assumption) (by assumption) (by assumption)).symm, hCQ, frQ.refl V⟩
          | (refine ⟨_, rfl, ?_, hCQ2, hFr⟩
             rw [bndZ_a (by assumption) (by omega) (by assumption), hb0, hbn, Nat.sub_zero])
          | (refine ⟨_, rfl, ?_, hCQ2, hFr⟩
             rw [bndZ_k h24 hk0 hkS (by assumption)])
set_option maxHeartbeats 4000000 in
set_option maxRecDepth 100000 in
theorem mX10_bound {g : gX} {V : vM} {m : Nat → Int32} {N : Nat} {t : Int32} {S : FS} {fb : Nat → Nat} (hMQ : MZ V m N t S fb) (c what : Int32) : MM g jX10_bound V [.ref (g.2.1 49), .int c, .int what] (eI (fun z U => z = bndZ S fb c what ∧ MZ U m N t S fb ∧ frM V U)) := by
  refine MM.of plX10_bound (Nat.le_of_ble_eq_true rfl) ?_
  obtain ⟨Q, hQ⟩ : ∃ Q : Option Value → vM → Prop, Q = (eI (fun z U => z = bndZ S fb c what ∧ MZ U m N t S fb ∧ frM V U)) := ⟨_, rfl⟩
  rw [← hQ]
  show XX g jX10_bound Q V 0 [(0, .ref (g.2.1 49)), (1, .int c), (2, .int what)] []
  obtain ⟨hw, hm50, hN8, ht9, hS, hG, h24, h15, hcn, hL⟩ := id hMQ
  have hN24 := hw.1
  have hcl := cntM_le (kd7 m) N
  refine x_iload_n dX10_bound_0 1 rfl ?_
  refine x_iconst (v := -1) dX10_bound_1 (by decide) ?_
  refine x_icmp_ne 15 dX10_bound_2 (by decide) (fun c1 => ?_) (fun c1 => ?_)
  · refine x_aload_n dX10_bound_15 0 rfl ?_
    refine x_iload_n dX10_bound_16 1 rfl ?_
    refine x_callV (K := jX10_isContour) [.int c] lk_X10_123 ⟨⟨rfl, rfl⟩, Nat.le_of_ble_eq_true rfl, Nat.le_of_ble_eq_true rfl⟩ rfl rfl (by have := mX10_isContour (g := g) V N hw.1 (by rw [hm50]; exact hN8) (by rw [hm50]; exact hw) c; rw [hm50, ← hcn] at this; exact this) rfl (Nat.le_of_ble_eq_true rfl) rfl dX10_bound_17 (kpI ?_)
    refine x_if_ne 26 dX10_bound_20 (by decide) (fun c2 => ?_) (fun c2 => ?_)
    · have c2n : (0 ≤ c ∧ c < nI S.2.1) := Classical.not_not.mp (fun q => c2 (iB_0.mpr q))
      refine x_iload_n dX10_bound_26 2 rfl ?_
      refine x_iconst (v := 0) dX10_bound_27 (by decide) ?_
      refine x_iconst (v := 3) dX10_bound_28 (by decide) ?_
      refine x_callS (K := jX10_in) [.int what, .int 0, .int 3] lk_X10_80 ⟨⟨rfl, rfl⟩, Nat.le_of_ble_eq_true rfl, Nat.le_of_ble_eq_true rfl⟩ (mX10_in V what 0 3) rfl (Nat.le_of_ble_eq_true rfl) rfl dX10_bound_29 (kpI ?_)
      refine x_if_ne 38 dX10_bound_32 (by decide) (fun c3 => ?_) (fun c3 => ?_)
      · have c3n : (0 ≤ what ∧ what ≤ 3) := Classical.not_not.mp (fun q => c3 (iB_0.mpr q))
        obtain ⟨k, hk0, hkS⟩ := nI_ex (c := c) (n := S.2.1) (by omega) (by assumption)
        refine YY.L (lv' := [(0, .ref (g.2.1 49)), (1, .int (nI k)), (2, .int what)]) (by rw [hk0]) ?_
        have hkb := hG.bd (j := k + 1) (by omega)
        have hkl := (hG.2.2.2 k hkS).1
        refine x_aload_n dX10_bound_38 0 rfl ?_
        refine x_callV (K := jX10_flatten) [] lk_X10_111 ⟨⟨rfl, rfl⟩, Nat.le_of_ble_eq_true rfl, Nat.le_of_ble_eq_true rfl⟩ rfl rfl (mX10_flatten V hw hm50 hN8 t ht9) rfl (Nat.le_of_ble_eq_true rfl) rfl dX10_bound_39 (keV fun U4 hU5 => ?_)
        have hMQ2 := hMQ.aft hU5
        have hFr := hU5.2.2
        have hF : FRM U4 S N := by rw [← hS]; exact hU5.1
        have hE : U4 65 S.2.1 = nI S.1 := by rw [← hS]; exact hU5.2.1
        have hmU := hMQ2.2.1
        have hUk : U4 65 k = nI (fb k) := hF.bo hE hG (by omega)
        have hUk1 : U4 65 (k + 1) = nI (fb (k + 1)) := hF.bo hE hG (by omega)
        refine x_iload_n dX10_bound_42 1 rfl ?_
        refine x_iconst (v := -1) dX10_bound_43 (by decide) ?_
        refine x_icmp_ne 51 dX10_bound_44 (by decide) (fun c6 => ?_) (fun c6 => by exfalso; exact nI_nm1 (by omega) c6)
        refine x_aload_n dX10_bound_51 0 rfl ?_
        refine x_getR fl_X10_56 rfl rfl dX10_bound_52 ?_
        refine x_iload_n dX10_bound_55 1 rfl ?_
        have b7 : vp_in (nI k) 26 := by exact vp_in_nI (by omega) (by decide)
        refine x_iald rfl b7 dX10_bound_56 ?_
        refine x_topi (y := U4 65 k) (by rw [nI_clamp (by omega)]) ?_
        refine x_topi (hUk) ?_
        refine x_istore_n 3 [(3, .int (nI (fb k))), (0, .ref (g.2.1 49)), (1, .int (nI k)), (2, .int what)] dX10_bound_57 rfl (by decide) rfl ?_
        refine x_iload_n dX10_bound_58 2 rfl ?_
        refine x_iconst (v := -1) dX10_bound_59 (by decide) ?_
        refine x_icmp_ne 70 dX10_bound_60 (by decide) (fun c8 => ?_) (fun c8 => by exfalso; exact nI_nm1 (by omega) c8)
        refine x_aload_n dX10_bound_70 1 rfl ?_
        refine x_getR fl_X10_56 rfl rfl dX10_bound_71 ?_
        refine x_iload_n dX10_bound_74 2 rfl ?_
        refine x_iconst (v := 1) dX10_bound_75 (by decide) ?_
        refine x_iadd dX10_bound_76 ?_
        have q9 : ((nI k) + 1 : Int32) = nI (k + 1) := nadd (rfl) (rfl)
        refine YY.S (st' := [.int (nI (k + 1)), .ref (g.2.1 65)]) (by rw [q9]) ?_
        have b10 : vp_in (nI (k + 1)) 26 := by exact vp_in_nI (by omega) (by decide)
        refine x_iald rfl b10 dX10_bound_77 ?_
        refine x_topi (y := U4 65 (k + 1)) (by rw [nI_clamp (by omega)]) ?_
        refine x_topi (hUk1) ?_
        refine x_istore 4 [(4, .int (nI (fb (k + 1)))), (3, .int (nI (fb k))), (0, .ref (g.2.1 49)), (1, .int (nI k)), (2, .int what)] dX10_bound_78 (by decide) rfl ?_
        refine x_iload_n dX10_bound_80 4 rfl ?_
        refine x_iconst (v := 2) dX10_bound_81 (by decide) ?_
        have nz11 : ¬ (2 : Int32) = 0 := by decide
        refine x_irem dX10_bound_82 nz11 ?_
        refine x_if_ne 95 dX10_bound_83 (by decide) (fun c12 => ?_) (fun c12 => ?_)
        · refine x_aload_n dX10_bound_95 2 rfl ?_
          refine x_getR fl_X10_50 rfl rfl dX10_bound_96 ?_
          refine x_iload_n dX10_bound_99 1 rfl ?_
          have b13 : vp_in (nI (fb k)) 1700 := by exact vp_in_nI (by omega) (by decide)
          refine x_iald rfl b13 dX10_bound_100 ?_
          refine x_topi (y := U4 63 (fb k)) (by rw [nI_clamp (by omega)]) ?_
          refine x_topi (show U4 63 (fb k) = xy S what (fb k) from (hF.2.2.1 (fb k) (by omega)).2.1.trans (by first | (rw [xy_0 (by assumption)]; done) | (rw [xy_1 (by assumption)]; done) | exact absurd (show what - what / 2 * 2 = 0 by assumption) (by assumption))) ?_
          refine x_istore 5 [(5, .int (xy S what (fb k))), (4, .int (nI (fb (k + 1)))), (3, .int (nI (fb k))), (0, .ref (g.2.1 49)), (1, .int (nI k)), (2, .int what)] dX10_bound_101 (by decide) rfl ?_
          refine x_iload_n dX10_bound_103 2 rfl ?_
          refine x_istore 6 [(6, .int (nI (fb k))), (5, .int (xy S what (fb k))), (4, .int (nI (fb (k + 1)))), (3, .int (nI (fb k))), (0, .ref (g.2.1 49)), (1, .int (nI k)), (2, .int what)] dX10_bound_104 (by decide) rfl ?_
          have lp14 : ∀ (fu : Nat) (j : Nat), (j ≤ fb (k + 1) - fb k) → ((fb (k + 1) - fb k) - j) < fu → XX g jX10_bound Q U4 106 [(6, .int (nI ((fb k) + j))), (5, .int (bfold what (xy S what) (fb k) j)), (4, .int (nI (fb (k + 1)))), (3, .int (nI (fb k))), (0, .ref (g.2.1 49)), (1, .int (nI k)), (2, .int what)] [] := by
            intro fu
            induction fu with
            | zero => intro _ _ hmz; exact absurd hmz (Nat.not_lt_zero _)
            | succ fu ih =>
              intro j hj hmz
              refine x_iload dX10_bound_106 0 rfl ?_
              refine x_iload dX10_bound_108 2 rfl ?_
              refine x_icmp_ge 182 dX10_bound_110 (by decide) (fun c15 => ?_) (fun c15 => ?_)
              · have c15n : fb (k + 1) ≤ (fb k) + j := (nl_le (a := fb (k + 1)) (b := (fb k) + j) (rfl) (rfl) (by omega) (by omega)).mp c15
                refine x_iload dX10_bound_182 1 rfl ?_
                refine x_iret dX10_bound_184 rfl ?_
                rw [hQ]
                first
                  | exact ⟨_, rfl, (bndZ_no (by first | exact Or.inl ⟨by assumption, by omega⟩ | exact Or.inr ⟨by assumption, by assumption⟩)).symm, hMQ, frM.refl V⟩
                  | exact ⟨_, rfl, (bndZ_ab (by assumption) (by omega) (by assumption)).symm, hMQ, frM.refl V⟩
                  | exact ⟨_, rfl, (bndZ_kb (by assumption) (by assumption) (by assumption)).symm, hMQ, frM.refl V⟩
                  | (refine ⟨_, rfl, ?_, hMQ2, hFr⟩
                     rw [bndZ_a (by assumption) (by omega) (by assumption), show S.1 = j by omega])
                  | (refine ⟨_, rfl, ?_, hMQ2, hFr⟩
                     rw [bndZ_k h24 hk0 hkS (by assumption), show fb (k + 1) - fb k = j by omega])
              · have c15n : (fb k) + j < fb (k + 1) := Nat.not_le.mp (fun q => c15 ((nl_le (a := fb (k + 1)) (b := (fb k) + j) (rfl) (rfl) (by omega) (by omega)).mpr q))
                refine x_iload_n dX10_bound_113 6 rfl ?_
                refine x_iconst (v := 2) dX10_bound_114 (by decide) ?_
                have nz16 : ¬ (2 : Int32) = 0 := by decide
                refine x_irem dX10_bound_115 nz16 ?_
                refine x_if_ne 129 dX10_bound_116 (by decide) (fun c17 => ?_) (fun c17 => ?_)
                · refine x_aload_n dX10_bound_129 4 rfl ?_
                  refine x_getR fl_X10_50 rfl rfl dX10_bound_130 ?_
                  refine x_iload dX10_bound_133 0 rfl ?_
                  have b18 : vp_in (nI ((fb k) + j)) 1700 := by exact vp_in_nI (by omega) (by decide)
                  refine x_iald rfl b18 dX10_bound_135 ?_
                  refine x_topi (y := U4 63 ((fb k) + j)) (by rw [nI_clamp (by omega)]) ?_
                  refine x_topi (show U4 63 ((fb k) + j) = xy S what ((fb k) + j) from (hF.2.2.1 ((fb k) + j) (by omega)).2.1.trans (by first | (rw [xy_0 (by assumption)]; done) | (rw [xy_1 (by assumption)]; done) | exact absurd (show what - what / 2 * 2 = 0 by assumption) (by assumption))) ?_
                  refine x_istore 7 [(7, .int (xy S what ((fb k) + j))), (6, .int (nI ((fb k) + j))), (5, .int (bfold what (xy S what) (fb k) j)), (4, .int (nI (fb (k + 1)))), (3, .int (nI (fb k))), (0, .ref (g.2.1 49)), (1, .int (nI k)), (2, .int what)] dX10_bound_136 (by decide) rfl ?_
                  refine x_iload_n dX10_bound_138 7 rfl ?_
                  refine x_iconst (v := 2) dX10_bound_139 (by decide) ?_
                  refine x_icmp_ge 160 dX10_bound_140 (by decide) (fun c19 => ?_) (fun c19 => ?_)
                  · refine x_iload dX10_bound_160 0 rfl ?_
                    refine x_iload dX10_bound_162 2 rfl ?_
                    refine x_icmp_le 172 dX10_bound_164 (by decide) (fun c20 => ?_) (fun c20 => ?_)
                    · refine x_iload dX10_bound_172 2 rfl ?_
                      refine x_istore 5 [(5, .int (bfold what (xy S what) (fb k) j)), (7, .int (xy S what ((fb k) + j))), (6, .int (nI ((fb k) + j))), (4, .int (nI (fb (k + 1)))), (3, .int (nI (fb k))), (0, .ref (g.2.1 49)), (1, .int (nI k)), (2, .int what)] dX10_bound_174 (by decide) rfl ?_
                      refine x_iinc 6 (v := (nI ((fb k) + j)) + 1) 2 [(6, .int ((nI ((fb k) + j)) + 1)), (5, .int (bfold what (xy S what) (fb k) j)), (7, .int (xy S what ((fb k) + j))), (4, .int (nI (fb (k + 1)))), (3, .int (nI (fb k))), (0, .ref (g.2.1 49)), (1, .int (nI k)), (2, .int what)] dX10_bound_176 rfl (by rfl) (by decide) rfl ?_
                      refine x_goto 106 dX10_bound_179 (by decide) ?_
                      refine x_lv [0, 1, 3, 4, 5, 6, 7] rfl ?_
                      refine YY.L (lv' := [(6, .int (nI ((fb k) + (j + 1)))), (5, .int (bfold what (xy S what) (fb k) (j + 1))), (4, .int (nI (fb (k + 1)))), (3, .int (nI (fb k))), (0, .ref (g.2.1 49)), (1, .int (nI k)), (2, .int what)]) (by first | (rw [bf_1 (what := what) (f := xy S what) (a := fb k) (j := j) (by first | assumption | exact Int32.not_le.mp (by assumption) | exact Int32.not_lt.mpr (by assumption) | exact Int32.not_lt.mp (by assumption)) (by first | assumption | exact Int32.not_le.mp (by assumption) | exact Int32.not_lt.mpr (by assumption) | exact Int32.not_lt.mp (by assumption)), nI_1]; rfl) | (rw [bf_3 (what := what) (f := xy S what) (a := fb k) (j := j) (by first | assumption | exact Int32.not_le.mp (by assumption) | exact Int32.not_lt.mpr (by assumption) | exact Int32.not_lt.mp (by assumption)) (by first | assumption | exact Int32.not_le.mp (by assumption) | exact Int32.not_lt.mpr (by assumption) | exact Int32.not_lt.mp (by assumption)), nI_1]; rfl) | (rw [bf_2 (what := what) (f := xy S what) (a := fb k) (j := j) (by first | assumption | exact Int32.not_le.mp (by assumption) | exact Int32.not_lt.mpr (by assumption) | exact Int32.not_lt.mp (by assumption)) (by first | assumption | exact Int32.not_le.mp (by assumption) | exact Int32.not_lt.mpr (by assumption) | exact Int32.not_lt.mp (by assumption)), nI_1]; rfl) | (rw [bf_4 (what := what) (f := xy S what) (a := fb k) (j := j) (by first | assumption | exact Int32.not_le.mp (by assumption) | exact Int32.not_lt.mpr (by assumption) | exact Int32.not_lt.mp (by assumption)) (by first | assumption | exact Int32.not_le.mp (by assumption) | exact Int32.not_lt.mpr (by assumption) | exact Int32.not_lt.mp (by assumption)), nI_1]; rfl)) ?_
                      exact ih (j + 1) (by omega) (by omega)
                    · refine x_iload dX10_bound_167 0 rfl ?_
                      refine x_goto 174 dX10_bound_169 (by decide) ?_
                      refine x_istore 5 [(5, .int (xy S what ((fb k) + j))), (7, .int (xy S what ((fb k) + j))), (6, .int (nI ((fb k) + j))), (4, .int (nI (fb (k + 1)))), (3, .int (nI (fb k))), (0, .ref (g.2.1 49)), (1, .int (nI k)), (2, .int what)] dX10_bound_174 (by decide) rfl ?_
                      refine x_iinc 6 (v := (nI ((fb k) + j)) + 1) 2 [(6, .int ((nI ((fb k) + j)) + 1)), (5, .int (xy S what ((fb k) + j))), (7, .int (xy S what ((fb k) + j))), (4, .int (nI (fb (k + 1)))), (3, .int (nI (fb k))), (0, .ref (g.2.1 49)), (1, .int (nI k)), (2, .int what)] dX10_bound_176 rfl (by rfl) (by decide) rfl ?_
                      refine x_goto 106 dX10_bound_179 (by decide) ?_
                      refine x_lv [0, 1, 3, 4, 5, 6, 7] rfl ?_
                      refine YY.L (lv' := [(6, .int (nI ((fb k) + (j + 1)))), (5, .int (bfold what (xy S what) (fb k) (j + 1))), (4, .int (nI (fb (k + 1)))), (3, .int (nI (fb k))), (0, .ref (g.2.1 49)), (1, .int (nI k)), (2, .int what)]) (by first | (rw [bf_1 (what := what) (f := xy S what) (a := fb k) (j := j) (by first | assumption | exact Int32.not_le.mp (by assumption) | exact Int32.not_lt.mpr (by assumption) | exact Int32.not_lt.mp (by assumption)) (by first | assumption | exact Int32.not_le.mp (by assumption) | exact Int32.not_lt.mpr (by assumption) | exact Int32.not_lt.mp (by assumption)), nI_1]; rfl) | (rw [bf_3 (what := what) (f := xy S what) (a := fb k) (j := j) (by first | assumption | exact Int32.not_le.mp (by assumption) | exact Int32.not_lt.mpr (by assumption) | exact Int32.not_lt.mp (by assumption)) (by first | assumption | exact Int32.not_le.mp (by assumption) | exact Int32.not_lt.mpr (by assumption) | exact Int32.not_lt.mp (by assumption)), nI_1]; rfl) | (rw [bf_2 (what := what) (f := xy S what) (a := fb k) (j := j) (by first | assumption | exact Int32.not_le.mp (by assumption) | exact Int32.not_lt.mpr (by assumption) | exact Int32.not_lt.mp (by assumption)) (by first | assumption | exact Int32.not_le.mp (by assumption) | exact Int32.not_lt.mpr (by assumption) | exact Int32.not_lt.mp (by assumption)), nI_1]; rfl) | (rw [bf_4 (what := what) (f := xy S what) (a := fb k) (j := j) (by first | assumption | exact Int32.not_le.mp (by assumption) | exact Int32.not_lt.mpr (by assumption) | exact Int32.not_lt.mp (by assumption)) (by first | assumption | exact Int32.not_le.mp (by assumption) | exact Int32.not_lt.mpr (by assumption) | exact Int32.not_lt.mp (by assumption)), nI_1]; rfl)) ?_
                      exact ih (j + 1) (by omega) (by omega)
                  · refine x_iload dX10_bound_143 0 rfl ?_
                    refine x_iload dX10_bound_145 2 rfl ?_
                    refine x_icmp_ge 155 dX10_bound_147 (by decide) (fun c21 => ?_) (fun c21 => ?_)
                    · refine x_iload dX10_bound_155 2 rfl ?_
                      refine x_goto 174 dX10_bound_157 (by decide) ?_
                      refine x_istore 5 [(5, .int (bfold what (xy S what) (fb k) j)), (7, .int (xy S what ((fb k) + j))), (6, .int (nI ((fb k) + j))), (4, .int (nI (fb (k + 1)))), (3, .int (nI (fb k))), (0, .ref (g.2.1 49)), (1, .int (nI k)), (2, .int what)] dX10_bound_174 (by decide) rfl ?_
                      refine x_iinc 6 (v := (nI ((fb k) + j)) + 1) 2 [(6, .int ((nI ((fb k) + j)) + 1)), (5, .int (bfold what (xy S what) (fb k) j)), (7, .int (xy S what ((fb k) + j))), (4, .int (nI (fb (k + 1)))), (3, .int (nI (fb k))), (0, .ref (g.2.1 49)), (1, .int (nI k)), (2, .int what)] dX10_bound_176 rfl (by rfl) (by decide) rfl ?_
                      refine x_goto 106 dX10_bound_179 (by decide) ?_
                      refine x_lv [0, 1, 3, 4, 5, 6, 7] rfl ?_
                      refine YY.L (lv' := [(6, .int (nI ((fb k) + (j + 1)))), (5, .int (bfold what (xy S what) (fb k) (j + 1))), (4, .int (nI (fb (k + 1)))), (3, .int (nI (fb k))), (0, .ref (g.2.1 49)), (1, .int (nI k)), (2, .int what)]) (by first | (rw [bf_1 (what := what) (f := xy S what) (a := fb k) (j := j) (by first | assumption | exact Int32.not_le.mp (by assumption) | exact Int32.not_lt.mpr (by assumption) | exact Int32.not_lt.mp (by assumption)) (by first | assumption | exact Int32.not_le.mp (by assumption) | exact Int32.not_lt.mpr (by assumption) | exact Int32.not_lt.mp (by assumption)), nI_1]; rfl) | (rw [bf_3 (what := what) (f := xy S what) (a := fb k) (j := j) (by first | assumption | exact Int32.not_le.mp (by assumption) | exact Int32.not_lt.mpr (by assumption) | exact Int32.not_lt.mp (by assumption)) (by first | assumption | exact Int32.not_le.mp (by assumption) | exact Int32.not_lt.mpr (by assumption) | exact Int32.not_lt.mp (by assumption)), nI_1]; rfl) | (rw [bf_2 (what := what) (f := xy S what) (a := fb k) (j := j) (by first | assumption | exact Int32.not_le.mp (by assumption) | exact Int32.not_lt.mpr (by assumption) | exact Int32.not_lt.mp (by assumption)) (by first | assumption | exact Int32.not_le.mp (by assumption) | exact Int32.not_lt.mpr (by assumption) | exact Int32.not_lt.mp (by assumption)), nI_1]; rfl) | (rw [bf_4 (what := what) (f := xy S what) (a := fb k) (j := j) (by first | assumption | exact Int32.not_le.mp (by assumption) | exact Int32.not_lt.mpr (by assumption) | exact Int32.not_lt.mp (by assumption)) (by first | assumption | exact Int32.not_le.mp (by assumption) | exact Int32.not_lt.mpr (by assumption) | exact Int32.not_lt.mp (by assumption)), nI_1]; rfl)) ?_
                      exact ih (j + 1) (by omega) (by omega)
                    · refine x_iload dX10_bound_150 0 rfl ?_
                      refine x_goto 174 dX10_bound_152 (by decide) ?_
                      refine x_istore 5 [(5, .int (xy S what ((fb k) + j))), (7, .int (xy S what ((fb k) + j))), (6, .int (nI ((fb k) + j))), (4, .int (nI (fb (k + 1)))), (3, .int (nI (fb k))), (0, .ref (g.2.1 49)), (1, .int (nI k)), (2, .int what)] dX10_bound_174 (by decide) rfl ?_
                      refine x_iinc 6 (v := (nI ((fb k) + j)) + 1) 2 [(6, .int ((nI ((fb k) + j)) + 1)), (5, .int (xy S what ((fb k) + j))), (7, .int (xy S what ((fb k) + j))), (4, .int (nI (fb (k + 1)))), (3, .int (nI (fb k))), (0, .ref (g.2.1 49)), (1, .int (nI k)), (2, .int what)] dX10_bound_176 rfl (by rfl) (by decide) rfl ?_
                      refine x_goto 106 dX10_bound_179 (by decide) ?_
                      refine x_lv [0, 1, 3, 4, 5, 6, 7] rfl ?_
                      refine YY.L (lv' := [(6, .int (nI ((fb k) + (j + 1)))), (5, .int (bfold what (xy S what) (fb k) (j + 1))), (4, .int (nI (fb (k + 1)))), (3, .int (nI (fb k))), (0, .ref (g.2.1 49)), (1, .int (nI k)), (2, .int what)]) (by first | (rw [bf_1 (what := what) (f := xy S what) (a := fb k) (j := j) (by first | assumption | exact Int32.not_le.mp (by assumption) | exact Int32.not_lt.mpr (by assumption) | exact Int32.not_lt.mp (by assumption)) (by first | assumption | exact Int32.not_le.mp (by assumption) | exact Int32.not_lt.mpr (by assumption) | exact Int32.not_lt.mp (by assumption)), nI_1]; rfl) | (rw [bf_3 (what := what) (f := xy S what) (a := fb k) (j := j) (by first | assumption | exact Int32.not_le.mp (by assumption) | exact Int32.not_lt.mpr (by assumption) | exact Int32.not_lt.mp (by assumption)) (by first | assumption | exact Int32.not_le.mp (by assumption) | exact Int32.not_lt.mpr (by assumption) | exact Int32.not_lt.mp (by assumption)), nI_1]; rfl) | (rw [bf_2 (what := what) (f := xy S what) (a := fb k) (j := j) (by first | assumption | exact Int32.not_le.mp (by assumption) | exact Int32.not_lt.mpr (by assumption) | exact Int32.not_lt.mp (by assumption)) (by first | assumption | exact Int32.not_le.mp (by assumption) | exact Int32.not_lt.mpr (by assumption) | exact Int32.not_lt.mp (by assumption)), nI_1]; rfl) | (rw [bf_4 (what := what) (f := xy S what) (a := fb k) (j := j) (by first | assumption | exact Int32.not_le.mp (by assumption) | exact Int32.not_lt.mpr (by assumption) | exact Int32.not_lt.mp (by assumption)) (by first | assumption | exact Int32.not_le.mp (by assumption) | exact Int32.not_lt.mpr (by assumption) | exact Int32.not_lt.mp (by assumption)), nI_1]; rfl)) ?_
                      exact ih (j + 1) (by omega) (by omega)
                · refine x_aload_n dX10_bound_119 4 rfl ?_
                  refine x_getR fl_X10_47 rfl rfl dX10_bound_120 ?_
                  refine x_iload dX10_bound_123 0 rfl ?_
                  have b22 : vp_in (nI ((fb k) + j)) 1700 := by exact vp_in_nI (by omega) (by decide)
                  refine x_iald rfl b22 dX10_bound_125 ?_
                  refine x_topi (y := U4 62 ((fb k) + j)) (by rw [nI_clamp (by omega)]) ?_
                  refine x_topi (show U4 62 ((fb k) + j) = xy S what ((fb k) + j) from (hF.2.2.1 ((fb k) + j) (by omega)).1.trans (by first | (rw [xy_0 (by assumption)]; done) | (rw [xy_1 (by assumption)]; done) | exact absurd (show what - what / 2 * 2 = 0 by assumption) (by assumption))) ?_
                  refine x_goto 136 dX10_bound_126 (by decide) ?_
                  refine x_istore 7 [(7, .int (xy S what ((fb k) + j))), (6, .int (nI ((fb k) + j))), (5, .int (bfold what (xy S what) (fb k) j)), (4, .int (nI (fb (k + 1)))), (3, .int (nI (fb k))), (0, .ref (g.2.1 49)), (1, .int (nI k)), (2, .int what)] dX10_bound_136 (by decide) rfl ?_
                  refine x_iload_n dX10_bound_138 7 rfl ?_
                  refine x_iconst (v := 2) dX10_bound_139 (by decide) ?_
                  refine x_icmp_ge 160 dX10_bound_140 (by decide) (fun c23 => ?_) (fun c23 => ?_)
                  · refine x_iload dX10_bound_160 0 rfl ?_
                    refine x_iload dX10_bound_162 2 rfl ?_
                    refine x_icmp_le 172 dX10_bound_164 (by decide) (fun c24 => ?_) (fun c24 => ?_)
                    · refine x_iload dX10_bound_172 2 rfl ?_
                      refine x_istore 5 [(5, .int (bfold what (xy S what) (fb k) j)), (7, .int (xy S what ((fb k) + j))), (6, .int (nI ((fb k) + j))), (4, .int (nI (fb (k + 1)))), (3, .int (nI (fb k))), (0, .ref (g.2.1 49)), (1, .int (nI k)), (2, .int what)] dX10_bound_174 (by decide) rfl ?_
                      refine x_iinc 6 (v := (nI ((fb k) + j)) + 1) 2 [(6, .int ((nI ((fb k) + j)) + 1)), (5, .int (bfold what (xy S what) (fb k) j)), (7, .int (xy S what ((fb k) + j))), (4, .int (nI (fb (k + 1)))), (3, .int (nI (fb k))), (0, .ref (g.2.1 49)), (1, .int (nI k)), (2, .int what)] dX10_bound_176 rfl (by rfl) (by decide) rfl ?_
                      refine x_goto 106 dX10_bound_179 (by decide) ?_
                      refine x_lv [0, 1, 3, 4, 5, 6, 7] rfl ?_
                      refine YY.L (lv' := [(6, .int (nI ((fb k) + (j + 1)))), (5, .int (bfold what (xy S what) (fb k) (j + 1))), (4, .int (nI (fb (k + 1)))), (3, .int (nI (fb k))), (0, .ref (g.2.1 49)), (1, .int (nI k)), (2, .int what)]) (by first | (rw [bf_1 (what := what) (f := xy S what) (a := fb k) (j := j) (by first | assumption | exact Int32.not_le.mp (by assumption) | exact Int32.not_lt.mpr (by assumption) | exact Int32.not_lt.mp (by assumption)) (by first | assumption | exact Int32.not_le.mp (by assumption) | exact Int32.not_lt.mpr (by assumption) | exact Int32.not_lt.mp (by assumption)), nI_1]; rfl) | (rw [bf_3 (what := what) (f := xy S what) (a := fb k) (j := j) (by first | assumption | exact Int32.not_le.mp (by assumption) | exact Int32.not_lt.mpr (by assumption) | exact Int32.not_lt.mp (by assumption)) (by first | assumption | exact Int32.not_le.mp (by assumption) | exact Int32.not_lt.mpr (by assumption) | exact Int32.not_lt.mp (by assumption)), nI_1]; rfl) | (rw [bf_2 (what := what) (f := xy S what) (a := fb k) (j := j) (by first | assumption | exact Int32.not_le.mp (by assumption) | exact Int32.not_lt.mpr (by assumption) | exact Int32.not_lt.mp (by assumption)) (by first | assumption | exact Int32.not_le.mp (by assumption) | exact Int32.not_lt.mpr (by assumption) | exact Int32.not_lt.mp (by assumption)), nI_1]; rfl) | (rw [bf_4 (what := what) (f := xy S what) (a := fb k) (j := j) (by first | assumption | exact Int32.not_le.mp (by assumption) | exact Int32.not_lt.mpr (by assumption) | exact Int32.not_lt.mp (by assumption)) (by first | assumption | exact Int32.not_le.mp (by assumption) | exact Int32.not_lt.mpr (by assumption) | exact Int32.not_lt.mp (by assumption)), nI_1]; rfl)) ?_
                      exact ih (j + 1) (by omega) (by omega)
                    · refine x_iload dX10_bound_167 0 rfl ?_
                      refine x_goto 174 dX10_bound_169 (by decide) ?_
                      refine x_istore 5 [(5, .int (xy S what ((fb k) + j))), (7, .int (xy S what ((fb k) + j))), (6, .int (nI ((fb k) + j))), (4, .int (nI (fb (k + 1)))), (3, .int (nI (fb k))), (0, .ref (g.2.1 49)), (1, .int (nI k)), (2, .int what)] dX10_bound_174 (by decide) rfl ?_
                      refine x_iinc 6 (v := (nI ((fb k) + j)) + 1) 2 [(6, .int ((nI ((fb k) + j)) + 1)), (5, .int (xy S what ((fb k) + j))), (7, .int (xy S what ((fb k) + j))), (4, .int (nI (fb (k + 1)))), (3, .int (nI (fb k))), (0, .ref (g.2.1 49)), (1, .int (nI k)), (2, .int what)] dX10_bound_176 rfl (by rfl) (by decide) rfl ?_
                      refine x_goto 106 dX10_bound_179 (by decide) ?_
                      refine x_lv [0, 1, 3, 4, 5, 6, 7] rfl ?_
                      refine YY.L (lv' := [(6, .int (nI ((fb k) + (j + 1)))), (5, .int (bfold what (xy S what) (fb k) (j + 1))), (4, .int (nI (fb (k + 1)))), (3, .int (nI (fb k))), (0, .ref (g.2.1 49)), (1, .int (nI k)), (2, .int what)]) (by first | (rw [bf_1 (what := what) (f := xy S what) (a := fb k) (j := j) (by first | assumption | exact Int32.not_le.mp (by assumption) | exact Int32.not_lt.mpr (by assumption) | exact Int32.not_lt.mp (by assumption)) (by first | assumption | exact Int32.not_le.mp (by assumption) | exact Int32.not_lt.mpr (by assumption) | exact Int32.not_lt.mp (by assumption)), nI_1]; rfl) | (rw [bf_3 (what := what) (f := xy S what) (a := fb k) (j := j) (by first | assumption | exact Int32.not_le.mp (by assumption) | exact Int32.not_lt.mpr (by assumption) | exact Int32.not_lt.mp (by assumption)) (by first | assumption | exact Int32.not_le.mp (by assumption) | exact Int32.not_lt.mpr (by assumption) | exact Int32.not_lt.mp (by assumption)), nI_1]; rfl) | (rw [bf_2 (what := what) (f := xy S what) (a := fb k) (j := j) (by first | assumption | exact Int32.not_le.mp (by assumption) | exact Int32.not_lt.mpr (by assumption) | exact Int32.not_lt.mp (by assumption)) (by first | assumption | exact Int32.not_le.mp (by assumption) | exact Int32.not_lt.mpr (by assumption) | exact Int32.not_lt.mp (by assumption)), nI_1]; rfl) | (rw [bf_4 (what := what) (f := xy S what) (a := fb k) (j := j) (by first | assumption | exact Int32.not_le.mp (by assumption) | exact Int32.not_lt.mpr (by assumption) | exact Int32.not_lt.mp (by assumption)) (by first | assumption | exact Int32.not_le.mp (by assumption) | exact Int32.not_lt.mpr (by assumption) | exact Int32.not_lt.mp (by assumption)), nI_1]; rfl)) ?_
                      exact ih (j + 1) (by omega) (by omega)
                  · refine x_iload dX10_bound_143 0 rfl ?_
                    refine x_iload dX10_bound_145 2 rfl ?_
                    refine x_icmp_ge 155 dX10_bound_147 (by decide) (fun c25 => ?_) (fun c25 => ?_)
                    · refine x_iload dX10_bound_155 2 rfl ?_
                      refine x_goto 174 dX10_bound_157 (by decide) ?_
                      refine x_istore 5 [(5, .int (bfold what (xy S what) (fb k) j)), (7, .int (xy S what ((fb k) + j))), (6, .int (nI ((fb k) + j))), (4, .int (nI (fb (k + 1)))), (3, .int (nI (fb k))), (0, .ref (g.2.1 49)), (1, .int (nI k)), (2, .int what)] dX10_bound_174 (by decide) rfl ?_
                      refine x_iinc 6 (v := (nI ((fb k) + j)) + 1) 2 [(6, .int ((nI ((fb k) + j)) + 1)), (5, .int (bfold what (xy S what) (fb k) j)), (7, .int (xy S what ((fb k) + j))), (4, .int (nI (fb (k + 1)))), (3, .int (nI (fb k))), (0, .ref (g.2.1 49)), (1, .int (nI k)), (2, .int what)] dX10_bound_176 rfl (by rfl) (by decide) rfl ?_
                      refine x_goto 106 dX10_bound_179 (by decide) ?_
                      refine x_lv [0, 1, 3, 4, 5, 6, 7] rfl ?_
                      refine YY.L (lv' := [(6, .int (nI ((fb k) + (j + 1)))), (5, .int (bfold what (xy S what) (fb k) (j + 1))), (4, .int (nI (fb (k + 1)))), (3, .int (nI (fb k))), (0, .ref (g.2.1 49)), (1, .int (nI k)), (2, .int what)]) (by first | (rw [bf_1 (what := what) (f := xy S what) (a := fb k) (j := j) (by first | assumption | exact Int32.not_le.mp (by assumption) | exact Int32.not_lt.mpr (by assumption) | exact Int32.not_lt.mp (by assumption)) (by first | assumption | exact Int32.not_le.mp (by assumption) | exact Int32.not_lt.mpr (by assumption) | exact Int32.not_lt.mp (by assumption)), nI_1]; rfl) | (rw [bf_3 (what := what) (f := xy S what) (a := fb k) (j := j) (by first | assumption | exact Int32.not_le.mp (by assumption) | exact Int32.not_lt.mpr (by assumption) | exact Int32.not_lt.mp (by assumption)) (by first | assumption | exact Int32.not_le.mp (by assumption) | exact Int32.not_lt.mpr (by assumption) | exact Int32.not_lt.mp (by assumption)), nI_1]; rfl) | (rw [bf_2 (what := what) (f := xy S what) (a := fb k) (j := j) (by first | assumption | exact Int32.not_le.mp (by assumption) | exact Int32.not_lt.mpr (by assumption) | exact Int32.not_lt.mp (by assumption)) (by first | assumption | exact Int32.not_le.mp (by assumption) | exact Int32.not_lt.mpr (by assumption) | exact Int32.not_lt.mp (by assumption)), nI_1]; rfl) | (rw [bf_4 (what := what) (f := xy S what) (a := fb k) (j := j) (by first | assumption | exact Int32.not_le.mp (by assumption) | exact Int32.not_lt.mpr (by assumption) | exact Int32.not_lt.mp (by assumption)) (by first | assumption | exact Int32.not_le.mp (by assumption) | exact Int32.not_lt.mpr (by assumption) | exact Int32.not_lt.mp (by assumption)), nI_1]; rfl)) ?_
                      exact ih (j + 1) (by omega) (by omega)
                    · refine x_iload dX10_bound_150 0 rfl ?_
                      refine x_goto 174 dX10_bound_152 (by decide) ?_
                      refine x_istore 5 [(5, .int (xy S what ((fb k) + j))), (7, .int (xy S what ((fb k) + j))), (6, .int (nI ((fb k) + j))), (4, .int (nI (fb (k + 1)))), (3, .int (nI (fb k))), (0, .ref (g.2.1 49)), (1, .int (nI k)), (2, .int what)] dX10_bound_174 (by decide) rfl ?_
                      refine x_iinc 6 (v := (nI ((fb k) + j)) + 1) 2 [(6, .int ((nI ((fb k) + j)) + 1)), (5, .int (xy S what ((fb k) + j))), (7, .int (xy S what ((fb k) + j))), (4, .int (nI (fb (k + 1)))), (3, .int (nI (fb k))), (0, .ref (g.2.1 49)), (1, .int (nI k)), (2, .int what)] dX10_bound_176 rfl (by rfl) (by decide) rfl ?_
                      refine x_goto 106 dX10_bound_179 (by decide) ?_
                      refine x_lv [0, 1, 3, 4, 5, 6, 7] rfl ?_
                      refine YY.L (lv' := [(6, .int (nI ((fb k) + (j + 1)))), (5, .int (bfold what (xy S what) (fb k) (j + 1))), (4, .int (nI (fb (k + 1)))), (3, .int (nI (fb k))), (0, .ref (g.2.1 49)), (1, .int (nI k)), (2, .int what)]) (by first | (rw [bf_1 (what := what) (f := xy S what) (a := fb k) (j := j) (by first | assumption | exact Int32.not_le.mp (by assumption) | exact Int32.not_lt.mpr (by assumption) | exact Int32.not_lt.mp (by assumption)) (by first | assumption | exact Int32.not_le.mp (by assumption) | exact Int32.not_lt.mpr (by assumption) | exact Int32.not_lt.mp (by assumption)), nI_1]; rfl) | (rw [bf_3 (what := what) (f := xy S what) (a := fb k) (j := j) (by first | assumption | exact Int32.not_le.mp (by assumption) | exact Int32.not_lt.mpr (by assumption) | exact Int32.not_lt.mp (by assumption)) (by first | assumption | exact Int32.not_le.mp (by assumption) | exact Int32.not_lt.mpr (by assumption) | exact Int32.not_lt.mp (by assumption)), nI_1]; rfl) | (rw [bf_2 (what := what) (f := xy S what) (a := fb k) (j := j) (by first | assumption | exact Int32.not_le.mp (by assumption) | exact Int32.not_lt.mpr (by assumption) | exact Int32.not_lt.mp (by assumption)) (by first | assumption | exact Int32.not_le.mp (by assumption) | exact Int32.not_lt.mpr (by assumption) | exact Int32.not_lt.mp (by assumption)), nI_1]; rfl) | (rw [bf_4 (what := what) (f := xy S what) (a := fb k) (j := j) (by first | assumption | exact Int32.not_le.mp (by assumption) | exact Int32.not_lt.mpr (by assumption) | exact Int32.not_lt.mp (by assumption)) (by first | assumption | exact Int32.not_le.mp (by assumption) | exact Int32.not_lt.mpr (by assumption) | exact Int32.not_lt.mp (by assumption)), nI_1]; rfl)) ?_
                      exact ih (j + 1) (by omega) (by omega)
          refine YY.L (lv' := [(6, .int (nI ((fb k) + 0))), (5, .int (bfold what (xy S what) (fb k) 0)), (4, .int (nI (fb (k + 1)))), (3, .int (nI (fb k))), (0, .ref (g.2.1 49)), (1, .int (nI k)), (2, .int what)]) (by rfl) ?_
          exact lp14 _ 0 (by omega) (Nat.lt_succ_self _)
        · refine x_aload_n dX10_bound_86 2 rfl ?_
          refine x_getR fl_X10_47 rfl rfl dX10_bound_87 ?_
          refine x_iload_n dX10_bound_90 1 rfl ?_
          have b26 : vp_in (nI (fb k)) 1700 := by exact vp_in_nI (by omega) (by decide)
          refine x_iald rfl b26 dX10_bound_91 ?_
          refine x_topi (y := U4 62 (fb k)) (by rw [nI_clamp (by omega)]) ?_
          refine x_topi (show U4 62 (fb k) = xy S what (fb k) from (hF.2.2.1 (fb k) (by omega)).1.trans (by first | (rw [xy_0 (by assumption)]; done) | (rw [xy_1 (by assumption)]; done) | exact absurd (show what - what / 2 * 2 = 0 by assumption) (by assumption))) ?_
          refine x_goto 101 dX10_bound_92 (by decide) ?_
          refine x_istore 5 [(5, .int (xy S what (fb k))), (4, .int (nI (fb (k + 1)))), (3, .int (nI (fb k))), (0, .ref (g.2.1 49)), (1, .int (nI k)), (2, .int what)] dX10_bound_101 (by decide) rfl ?_
          refine x_iload_n dX10_bound_103 2 rfl ?_
          refine x_istore 6 [(6, .int (nI (fb k))), (5, .int (xy S what (fb k))), (4, .int (nI (fb (k + 1)))), (3, .int (nI (fb k))), (0, .ref (g.2.1 49)), (1, .int (nI k)), (2, .int what)] dX10_bound_104 (by decide) rfl ?_
          have lp27 : ∀ (fu : Nat) (j : Nat), (j ≤ fb (k + 1) - fb k) → ((fb (k + 1) - fb k) - j) < fu → XX g jX10_bound Q U4 106 [(6, .int (nI ((fb k) + j))), (5, .int (bfold what (xy S what) (fb k) j)), (4, .int (nI (fb (k + 1)))), (3, .int (nI (fb k))), (0, .ref (g.2.1 49)), (1, .int (nI k)), (2, .int what)] [] := by
            intro fu
            induction fu with
            | zero => intro _ _ hmz; exact absurd hmz (Nat.not_lt_zero _)
            | succ fu ih =>
              intro j hj hmz
              refine x_iload dX10_bound_106 0 rfl ?_
              refine x_iload dX10_bound_108 2 rfl ?_
              refine x_icmp_ge 182 dX10_bound_110 (by decide) (fun c28 => ?_) (fun c28 => ?_)
              · have c28n : fb (k + 1) ≤ (fb k) + j := (nl_le (a := fb (k + 1)) (b := (fb k) + j) (rfl) (rfl) (by omega) (by omega)).mp c28
                refine x_iload dX10_bound_182 1 rfl ?_
                refine x_iret dX10_bound_184 rfl ?_
                rw [hQ]
                first
                  | exact ⟨_, rfl, (bndZ_no (by first | exact Or.inl ⟨by assumption, by omega⟩ | exact Or.inr ⟨by assumption, by assumption⟩)).symm, hMQ, frM.refl V⟩
                  | exact ⟨_, rfl, (bndZ_ab (by assumption) (by omega) (by assumption)).symm, hMQ, frM.refl V⟩
                  | exact ⟨_, rfl, (bndZ_kb (by assumption) (by assumption) (by assumption)).symm, hMQ, frM.refl V⟩
                  | (refine ⟨_, rfl, ?_, hMQ2, hFr⟩
                     rw [bndZ_a (by assumption) (by omega) (by assumption), show S.1 = j by omega])
                  | (refine ⟨_, rfl, ?_, hMQ2, hFr⟩
                     rw [bndZ_k h24 hk0 hkS (by assumption), show fb (k + 1) - fb k = j by omega])
              · have c28n : (fb k) + j < fb (k + 1) := Nat.not_le.mp (fun q => c28 ((nl_le (a := fb (k + 1)) (b := (fb k) + j) (rfl) (rfl) (by omega) (by omega)).mpr q))
                refine x_iload_n dX10_bound_113 6 rfl ?_
                refine x_iconst (v := 2) dX10_bound_114 (by decide) ?_
                have nz29 : ¬ (2 : Int32) = 0 := by decide
                refine x_irem dX10_bound_115 nz29 ?_
                refine x_if_ne 129 dX10_bound_116 (by decide) (fun c30 => ?_) (fun c30 => ?_)
                · refine x_aload_n dX10_bound_129 4 rfl ?_
                  refine x_getR fl_X10_50 rfl rfl dX10_bound_130 ?_
                  refine x_iload dX10_bound_133 0 rfl ?_
                  have b31 : vp_in (nI ((fb k) + j)) 1700 := by exact vp_in_nI (by omega) (by decide)
                  refine x_iald rfl b31 dX10_bound_135 ?_
                  refine x_topi (y := U4 63 ((fb k) + j)) (by rw [nI_clamp (by omega)]) ?_
                  refine x_topi (show U4 63 ((fb k) + j) = xy S what ((fb k) + j) from (hF.2.2.1 ((fb k) + j) (by omega)).2.1.trans (by first | (rw [xy_0 (by assumption)]; done) | (rw [xy_1 (by assumption)]; done) | exact absurd (show what - what / 2 * 2 = 0 by assumption) (by assumption))) ?_
                  refine x_istore 7 [(7, .int (xy S what ((fb k) + j))), (6, .int (nI ((fb k) + j))), (5, .int (bfold what (xy S what) (fb k) j)), (4, .int (nI (fb (k + 1)))), (3, .int (nI (fb k))), (0, .ref (g.2.1 49)), (1, .int (nI k)), (2, .int what)] dX10_bound_136 (by decide) rfl ?_
                  refine x_iload_n dX10_bound_138 7 rfl ?_
                  refine x_iconst (v := 2) dX10_bound_139 (by decide) ?_
                  refine x_icmp_ge 160 dX10_bound_140 (by decide) (fun c32 => ?_) (fun c32 => ?_)
                  · refine x_iload dX10_bound_160 0 rfl ?_
                    refine x_iload dX10_bound_162 2 rfl ?_
                    refine x_icmp_le 172 dX10_bound_164 (by decide) (fun c33 => ?_) (fun c33 => ?_)
                    · refine x_iload dX10_bound_172 2 rfl ?_
                      refine x_istore 5 [(5, .int (bfold what (xy S what) (fb k) j)), (7, .int (xy S what ((fb k) + j))), (6, .int (nI ((fb k) + j))), (4, .int (nI (fb (k + 1)))), (3, .int (nI (fb k))), (0, .ref (g.2.1 49)), (1, .int (nI k)), (2, .int what)] dX10_bound_174 (by decide) rfl ?_
                      refine x_iinc 6 (v := (nI ((fb k) + j)) + 1) 2 [(6, .int ((nI ((fb k) + j)) + 1)), (5, .int (bfold what (xy S what) (fb k) j)), (7, .int (xy S what ((fb k) + j))), (4, .int (nI (fb (k + 1)))), (3, .int (nI (fb k))), (0, .ref (g.2.1 49)), (1, .int (nI k)), (2, .int what)] dX10_bound_176 rfl (by rfl) (by decide) rfl ?_
                      refine x_goto 106 dX10_bound_179 (by decide) ?_
                      refine x_lv [0, 1, 3, 4, 5, 6, 7] rfl ?_
                      refine YY.L (lv' := [(6, .int (nI ((fb k) + (j + 1)))), (5, .int (bfold what (xy S what) (fb k) (j + 1))), (4, .int (nI (fb (k + 1)))), (3, .int (nI (fb k))), (0, .ref (g.2.1 49)), (1, .int (nI k)), (2, .int what)]) (by first | (rw [bf_1 (what := what) (f := xy S what) (a := fb k) (j := j) (by first | assumption | exact Int32.not_le.mp (by assumption) | exact Int32.not_lt.mpr (by assumption) | exact Int32.not_lt.mp (by assumption)) (by first | assumption | exact Int32.not_le.mp (by assumption) | exact Int32.not_lt.mpr (by assumption) | exact Int32.not_lt.mp (by assumption)), nI_1]; rfl) | (rw [bf_3 (what := what) (f := xy S what) (a := fb k) (j := j) (by first | assumption | exact Int32.not_le.mp (by assumption) | exact Int32.not_lt.mpr (by assumption) | exact Int32.not_lt.mp (by assumption)) (by first | assumption | exact Int32.not_le.mp (by assumption) | exact Int32.not_lt.mpr (by assumption) | exact Int32.not_lt.mp (by assumption)), nI_1]; rfl) | (rw [bf_2 (what := what) (f := xy S what) (a := fb k) (j := j) (by first | assumption | exact Int32.not_le.mp (by assumption) | exact Int32.not_lt.mpr (by assumption) | exact Int32.not_lt.mp (by assumption)) (by first | assumption | exact Int32.not_le.mp (by assumption) | exact Int32.not_lt.mpr (by assumption) | exact Int32.not_lt.mp (by assumption)), nI_1]; rfl) | (rw [bf_4 (what := what) (f := xy S what) (a := fb k) (j := j) (by first | assumption | exact Int32.not_le.mp (by assumption) | exact Int32.not_lt.mpr (by assumption) | exact Int32.not_lt.mp (by assumption)) (by first | assumption | exact Int32.not_le.mp (by assumption) | exact Int32.not_lt.mpr (by assumption) | exact Int32.not_lt.mp (by assumption)), nI_1]; rfl)) ?_
                      exact ih (j + 1) (by omega) (by omega)
                    · refine x_iload dX10_bound_167 0 rfl ?_
                      refine x_goto 174 dX10_bound_169 (by decide) ?_
                      refine x_istore 5 [(5, .int (xy S what ((fb k) + j))), (7, .int (xy S what ((fb k) + j))), (6, .int (nI ((fb k) + j))), (4, .int (nI (fb (k + 1)))), (3, .int (nI (fb k))), (0, .ref (g.2.1 49)), (1, .int (nI k)), (2, .int what)] dX10_bound_174 (by decide) rfl ?_
                      refine x_iinc 6 (v := (nI ((fb k) + j)) + 1) 2 [(6, .int ((nI ((fb k) + j)) + 1)), (5, .int (xy S what ((fb k) + j))), (7, .int (xy S what ((fb k) + j))), (4, .int (nI (fb (k + 1)))), (3, .int (nI (fb k))), (0, .ref (g.2.1 49)), (1, .int (nI k)), (2, .int what)] dX10_bound_176 rfl (by rfl) (by decide) rfl ?_
                      refine x_goto 106 dX10_bound_179 (by decide) ?_
                      refine x_lv [0, 1, 3, 4, 5, 6, 7] rfl ?_
                      refine YY.L (lv' := [(6, .int (nI ((fb k) + (j + 1)))), (5, .int (bfold what (xy S what) (fb k) (j + 1))), (4, .int (nI (fb (k + 1)))), (3, .int (nI (fb k))), (0, .ref (g.2.1 49)), (1, .int (nI k)), (2, .int what)]) (by first | (rw [bf_1 (what := what) (f := xy S what) (a := fb k) (j := j) (by first | assumption | exact Int32.not_le.mp (by assumption) | exact Int32.not_lt.mpr (by assumption) | exact Int32.not_lt.mp (by assumption)) (by first | assumption | exact Int32.not_le.mp (by assumption) | exact Int32.not_lt.mpr (by assumption) | exact Int32.not_lt.mp (by assumption)), nI_1]; rfl) | (rw [bf_3 (what := what) (f := xy S what) (a := fb k) (j := j) (by first | assumption | exact Int32.not_le.mp (by assumption) | exact Int32.not_lt.mpr (by assumption) | exact Int32.not_lt.mp (by assumption)) (by first | assumption | exact Int32.not_le.mp (by assumption) | exact Int32.not_lt.mpr (by assumption) | exact Int32.not_lt.mp (by assumption)), nI_1]; rfl) | (rw [bf_2 (what := what) (f := xy S what) (a := fb k) (j := j) (by first | assumption | exact Int32.not_le.mp (by assumption) | exact Int32.not_lt.mpr (by assumption) | exact Int32.not_lt.mp (by assumption)) (by first | assumption | exact Int32.not_le.mp (by assumption) | exact Int32.not_lt.mpr (by assumption) | exact Int32.not_lt.mp (by assumption)), nI_1]; rfl) | (rw [bf_4 (what := what) (f := xy S what) (a := fb k) (j := j) (by first | assumption | exact Int32.not_le.mp (by assumption) | exact Int32.not_lt.mpr (by assumption) | exact Int32.not_lt.mp (by assumption)) (by first | assumption | exact Int32.not_le.mp (by assumption) | exact Int32.not_lt.mpr (by assumption) | exact Int32.not_lt.mp (by assumption)), nI_1]; rfl)) ?_
                      exact ih (j + 1) (by omega) (by omega)
                  · refine x_iload dX10_bound_143 0 rfl ?_
                    refine x_iload dX10_bound_145 2 rfl ?_
                    refine x_icmp_ge 155 dX10_bound_147 (by decide) (fun c34 => ?_) (fun c34 => ?_)
                    · refine x_iload dX10_bound_155 2 rfl ?_
                      refine x_goto 174 dX10_bound_157 (by decide) ?_
                      refine x_istore 5 [(5, .int (bfold what (xy S what) (fb k) j)), (7, .int (xy S what ((fb k) + j))), (6, .int (nI ((fb k) + j))), (4, .int (nI (fb (k + 1)))), (3, .int (nI (fb k))), (0, .ref (g.2.1 49)), (1, .int (nI k)), (2, .int what)] dX10_bound_174 (by decide) rfl ?_
                      refine x_iinc 6 (v := (nI ((fb k) + j)) + 1) 2 [(6, .int ((nI ((fb k) + j)) + 1)), (5, .int (bfold what (xy S what) (fb k) j)), (7, .int (xy S what ((fb k) + j))), (4, .int (nI (fb (k + 1)))), (3, .int (nI (fb k))), (0, .ref (g.2.1 49)), (1, .int (nI k)), (2, .int what)] dX10_bound_176 rfl (by rfl) (by decide) rfl ?_
                      refine x_goto 106 dX10_bound_179 (by decide) ?_
                      refine x_lv [0, 1, 3, 4, 5, 6, 7] rfl ?_
                      refine YY.L (lv' := [(6, .int (nI ((fb k) + (j + 1)))), (5, .int (bfold what (xy S what) (fb k) (j + 1))), (4, .int (nI (fb (k + 1)))), (3, .int (nI (fb k))), (0, .ref (g.2.1 49)), (1, .int (nI k)), (2, .int what)]) (by first | (rw [bf_1 (what := what) (f := xy S what) (a := fb k) (j := j) (by first | assumption | exact Int32.not_le.mp (by assumption) | exact Int32.not_lt.mpr (by assumption) | exact Int32.not_lt.mp (by assumption)) (by first | assumption | exact Int32.not_le.mp (by assumption) | exact Int32.not_lt.mpr (by assumption) | exact Int32.not_lt.mp (by assumption)), nI_1]; rfl) | (rw [bf_3 (what := what) (f := xy S what) (a := fb k) (j := j) (by first | assumption | exact Int32.not_le.mp (by assumption) | exact Int32.not_lt.mpr (by assumption) | exact Int32.not_lt.mp (by assumption)) (by first | assumption | exact Int32.not_le.mp (by assumption) | exact Int32.not_lt.mpr (by assumption) | exact Int32.not_lt.mp (by assumption)), nI_1]; rfl) | (rw [bf_2 (what := what) (f := xy S what) (a := fb k) (j := j) (by first | assumption | exact Int32.not_le.mp (by assumption) | exact Int32.not_lt.mpr (by assumption) | exact Int32.not_lt.mp (by assumption)) (by first | assumption | exact Int32.not_le.mp (by assumption) | exact Int32.not_lt.mpr (by assumption) | exact Int32.not_lt.mp (by assumption)), nI_1]; rfl) | (rw [bf_4 (what := what) (f := xy S what) (a := fb k) (j := j) (by first | assumption | exact Int32.not_le.mp (by assumption) | exact Int32.not_lt.mpr (by assumption) | exact Int32.not_lt.mp (by assumption)) (by first | assumption | exact Int32.not_le.mp (by assumption) | exact Int32.not_lt.mpr (by assumption) | exact Int32.not_lt.mp (by assumption)), nI_1]; rfl)) ?_
                      exact ih (j + 1) (by omega) (by omega)
                    · refine x_iload dX10_bound_150 0 rfl ?_
                      refine x_goto 174 dX10_bound_152 (by decide) ?_
                      refine x_istore 5 [(5, .int (xy S what ((fb k) + j))), (7, .int (xy S what ((fb k) + j))), (6, .int (nI ((fb k) + j))), (4, .int (nI (fb (k + 1)))), (3, .int (nI (fb k))), (0, .ref (g.2.1 49)), (1, .int (nI k)), (2, .int what)] dX10_bound_174 (by decide) rfl ?_
                      refine x_iinc 6 (v := (nI ((fb k) + j)) + 1) 2 [(6, .int ((nI ((fb k) + j)) + 1)), (5, .int (xy S what ((fb k) + j))), (7, .int (xy S what ((fb k) + j))), (4, .int (nI (fb (k + 1)))), (3, .int (nI (fb k))), (0, .ref (g.2.1 49)), (1, .int (nI k)), (2, .int what)] dX10_bound_176 rfl (by rfl) (by decide) rfl ?_
                      refine x_goto 106 dX10_bound_179 (by decide) ?_
                      refine x_lv [0, 1, 3, 4, 5, 6, 7] rfl ?_
                      refine YY.L (lv' := [(6, .int (nI ((fb k) + (j + 1)))), (5, .int (bfold what (xy S what) (fb k) (j + 1))), (4, .int (nI (fb (k + 1)))), (3, .int (nI (fb k))), (0, .ref (g.2.1 49)), (1, .int (nI k)), (2, .int what)]) (by first | (rw [bf_1 (what := what) (f := xy S what) (a := fb k) (j := j) (by first | assumption | exact Int32.not_le.mp (by assumption) | exact Int32.not_lt.mpr (by assumption) | exact Int32.not_lt.mp (by assumption)) (by first | assumption | exact Int32.not_le.mp (by assumption) | exact Int32.not_lt.mpr (by assumption) | exact Int32.not_lt.mp (by assumption)), nI_1]; rfl) | (rw [bf_3 (what := what) (f := xy S what) (a := fb k) (j := j) (by first | assumption | exact Int32.not_le.mp (by assumption) | exact Int32.not_lt.mpr (by assumption) | exact Int32.not_lt.mp (by assumption)) (by first | assumption | exact Int32.not_le.mp (by assumption) | exact Int32.not_lt.mpr (by assumption) | exact Int32.not_lt.mp (by assumption)), nI_1]; rfl) | (rw [bf_2 (what := what) (f := xy S what) (a := fb k) (j := j) (by first | assumption | exact Int32.not_le.mp (by assumption) | exact Int32.not_lt.mpr (by assumption) | exact Int32.not_lt.mp (by assumption)) (by first | assumption | exact Int32.not_le.mp (by assumption) | exact Int32.not_lt.mpr (by assumption) | exact Int32.not_lt.mp (by assumption)), nI_1]; rfl) | (rw [bf_4 (what := what) (f := xy S what) (a := fb k) (j := j) (by first | assumption | exact Int32.not_le.mp (by assumption) | exact Int32.not_lt.mpr (by assumption) | exact Int32.not_lt.mp (by assumption)) (by first | assumption | exact Int32.not_le.mp (by assumption) | exact Int32.not_lt.mpr (by assumption) | exact Int32.not_lt.mp (by assumption)), nI_1]; rfl)) ?_
                      exact ih (j + 1) (by omega) (by omega)
                · refine x_aload_n dX10_bound_119 4 rfl ?_
                  refine x_getR fl_X10_47 rfl rfl dX10_bound_120 ?_
                  refine x_iload dX10_bound_123 0 rfl ?_
                  have b35 : vp_in (nI ((fb k) + j)) 1700 := by exact vp_in_nI (by omega) (by decide)
                  refine x_iald rfl b35 dX10_bound_125 ?_
                  refine x_topi (y := U4 62 ((fb k) + j)) (by rw [nI_clamp (by omega)]) ?_
                  refine x_topi (show U4 62 ((fb k) + j) = xy S what ((fb k) + j) from (hF.2.2.1 ((fb k) + j) (by omega)).1.trans (by first | (rw [xy_0 (by assumption)]; done) | (rw [xy_1 (by assumption)]; done) | exact absurd (show what - what / 2 * 2 = 0 by assumption) (by assumption))) ?_
                  refine x_goto 136 dX10_bound_126 (by decide) ?_
                  refine x_istore 7 [(7, .int (xy S what ((fb k) + j))), (6, .int (nI ((fb k) + j))), (5, .int (bfold what (xy S what) (fb k) j)), (4, .int (nI (fb (k + 1)))), (3, .int (nI (fb k))), (0, .ref (g.2.1 49)), (1, .int (nI k)), (2, .int what)] dX10_bound_136 (by decide) rfl ?_
                  refine x_iload_n dX10_bound_138 7 rfl ?_
                  refine x_iconst (v := 2) dX10_bound_139 (by decide) ?_
                  refine x_icmp_ge 160 dX10_bound_140 (by decide) (fun c36 => ?_) (fun c36 => ?_)
                  · refine x_iload dX10_bound_160 0 rfl ?_
                    refine x_iload dX10_bound_162 2 rfl ?_
                    refine x_icmp_le 172 dX10_bound_164 (by decide) (fun c37 => ?_) (fun c37 => ?_)
                    · refine x_iload dX10_bound_172 2 rfl ?_
                      refine x_istore 5 [(5, .int (bfold what (xy S what) (fb k) j)), (7, .int (xy S what ((fb k) + j))), (6, .int (nI ((fb k) + j))), (4, .int (nI (fb (k + 1)))), (3, .int (nI (fb k))), (0, .ref (g.2.1 49)), (1, .int (nI k)), (2, .int what)] dX10_bound_174 (by decide) rfl ?_
                      refine x_iinc 6 (v := (nI ((fb k) + j)) + 1) 2 [(6, .int ((nI ((fb k) + j)) + 1)), (5, .int (bfold what (xy S what) (fb k) j)), (7, .int (xy S what ((fb k) + j))), (4, .int (nI (fb (k + 1)))), (3, .int (nI (fb k))), (0, .ref (g.2.1 49)), (1, .int (nI k)), (2, .int what)] dX10_bound_176 rfl (by rfl) (by decide) rfl ?_
                      refine x_goto 106 dX10_bound_179 (by decide) ?_
                      refine x_lv [0, 1, 3, 4, 5, 6, 7] rfl ?_
                      refine YY.L (lv' := [(6, .int (nI ((fb k) + (j + 1)))), (5, .int (bfold what (xy S what) (fb k) (j + 1))), (4, .int (nI (fb (k + 1)))), (3, .int (nI (fb k))), (0, .ref (g.2.1 49)), (1, .int (nI k)), (2, .int what)]) (by first | (rw [bf_1 (what := what) (f := xy S what) (a := fb k) (j := j) (by first | assumption | exact Int32.not_le.mp (by assumption) | exact Int32.not_lt.mpr (by assumption) | exact Int32.not_lt.mp (by assumption)) (by first | assumption | exact Int32.not_le.mp (by assumption) | exact Int32.not_lt.mpr (by assumption) | exact Int32.not_lt.mp (by assumption)), nI_1]; rfl) | (rw [bf_3 (what := what) (f := xy S what) (a := fb k) (j := j) (by first | assumption | exact Int32.not_le.mp (by assumption) | exact Int32.not_lt.mpr (by assumption) | exact Int32.not_lt.mp (by assumption)) (by first | assumption | exact Int32.not_le.mp (by assumption) | exact Int32.not_lt.mpr (by assumption) | exact Int32.not_lt.mp (by assumption)), nI_1]; rfl) | (rw [bf_2 (what := what) (f := xy S what) (a := fb k) (j := j) (by first | assumption | exact Int32.not_le.mp (by assumption) | exact Int32.not_lt.mpr (by assumption) | exact Int32.not_lt.mp (by assumption)) (by first | assumption | exact Int32.not_le.mp (by assumption) | exact Int32.not_lt.mpr (by assumption) | exact Int32.not_lt.mp (by assumption)), nI_1]; rfl) | (rw [bf_4 (what := what) (f := xy S what) (a := fb k) (j := j) (by first | assumption | exact Int32.not_le.mp (by assumption) | exact Int32.not_lt.mpr (by assumption) | exact Int32.not_lt.mp (by assumption)) (by first | assumption | exact Int32.not_le.mp (by assumption) | exact Int32.not_lt.mpr (by assumption) | exact Int32.not_lt.mp (by assumption)), nI_1]; rfl)) ?_
                      exact ih (j + 1) (by omega) (by omega)
                    · refine x_iload dX10_bound_167 0 rfl ?_
                      refine x_goto 174 dX10_bound_169 (by decide) ?_
                      refine x_istore 5 [(5, .int (xy S what ((fb k) + j))), (7, .int (xy S what ((fb k) + j))), (6, .int (nI ((fb k) + j))), (4, .int (nI (fb (k + 1)))), (3, .int (nI (fb k))), (0, .ref (g.2.1 49)), (1, .int (nI k)), (2, .int what)] dX10_bound_174 (by decide) rfl ?_
                      refine x_iinc 6 (v := (nI ((fb k) + j)) + 1) 2 [(6, .int ((nI ((fb k) + j)) + 1)), (5, .int (xy S what ((fb k) + j))), (7, .int (xy S what ((fb k) + j))), (4, .int (nI (fb (k + 1)))), (3, .int (nI (fb k))), (0, .ref (g.2.1 49)), (1, .int (nI k)), (2, .int what)] dX10_bound_176 rfl (by rfl) (by decide) rfl ?_
                      refine x_goto 106 dX10_bound_179 (by decide) ?_
                      refine x_lv [0, 1, 3, 4, 5, 6, 7] rfl ?_
                      refine YY.L (lv' := [(6, .int (nI ((fb k) + (j + 1)))), (5, .int (bfold what (xy S what) (fb k) (j + 1))), (4, .int (nI (fb (k + 1)))), (3, .int (nI (fb k))), (0, .ref (g.2.1 49)), (1, .int (nI k)), (2, .int what)]) (by first | (rw [bf_1 (what := what) (f := xy S what) (a := fb k) (j := j) (by first | assumption | exact Int32.not_le.mp (by assumption) | exact Int32.not_lt.mpr (by assumption) | exact Int32.not_lt.mp (by assumption)) (by first | assumption | exact Int32.not_le.mp (by assumption) | exact Int32.not_lt.mpr (by assumption) | exact Int32.not_lt.mp (by assumption)), nI_1]; rfl) | (rw [bf_3 (what := what) (f := xy S what) (a := fb k) (j := j) (by first | assumption | exact Int32.not_le.mp (by assumption) | exact Int32.not_lt.mpr (by assumption) | exact Int32.not_lt.mp (by assumption)) (by first | assumption | exact Int32.not_le.mp (by assumption) | exact Int32.not_lt.mpr (by assumption) | exact Int32.not_lt.mp (by assumption)), nI_1]; rfl) | (rw [bf_2 (what := what) (f := xy S what) (a := fb k) (j := j) (by first | assumption | exact Int32.not_le.mp (by assumption) | exact Int32.not_lt.mpr (by assumption) | exact Int32.not_lt.mp (by assumption)) (by first | assumption | exact Int32.not_le.mp (by assumption) | exact Int32.not_lt.mpr (by assumption) | exact Int32.not_lt.mp (by assumption)), nI_1]; rfl) | (rw [bf_4 (what := what) (f := xy S what) (a := fb k) (j := j) (by first | assumption | exact Int32.not_le.mp (by assumption) | exact Int32.not_lt.mpr (by assumption) | exact Int32.not_lt.mp (by assumption)) (by first | assumption | exact Int32.not_le.mp (by assumption) | exact Int32.not_lt.mpr (by assumption) | exact Int32.not_lt.mp (by assumption)), nI_1]; rfl)) ?_
                      exact ih (j + 1) (by omega) (by omega)
                  · refine x_iload dX10_bound_143 0 rfl ?_
                    refine x_iload dX10_bound_145 2 rfl ?_
                    refine x_icmp_ge 155 dX10_bound_147 (by decide) (fun c38 => ?_) (fun c38 => ?_)
                    · refine x_iload dX10_bound_155 2 rfl ?_
                      refine x_goto 174 dX10_bound_157 (by decide) ?_
                      refine x_istore 5 [(5, .int (bfold what (xy S what) (fb k) j)), (7, .int (xy S what ((fb k) + j))), (6, .int (nI ((fb k) + j))), (4, .int (nI (fb (k + 1)))), (3, .int (nI (fb k))), (0, .ref (g.2.1 49)), (1, .int (nI k)), (2, .int what)] dX10_bound_174 (by decide) rfl ?_
                      refine x_iinc 6 (v := (nI ((fb k) + j)) + 1) 2 [(6, .int ((nI ((fb k) + j)) + 1)), (5, .int (bfold what (xy S what) (fb k) j)), (7, .int (xy S what ((fb k) + j))), (4, .int (nI (fb (k + 1)))), (3, .int (nI (fb k))), (0, .ref (g.2.1 49)), (1, .int (nI k)), (2, .int what)] dX10_bound_176 rfl (by rfl) (by decide) rfl ?_
                      refine x_goto 106 dX10_bound_179 (by decide) ?_
                      refine x_lv [0, 1, 3, 4, 5, 6, 7] rfl ?_
                      refine YY.L (lv' := [(6, .int (nI ((fb k) + (j + 1)))), (5, .int (bfold what (xy S what) (fb k) (j + 1))), (4, .int (nI (fb (k + 1)))), (3, .int (nI (fb k))), (0, .ref (g.2.1 49)), (1, .int (nI k)), (2, .int what)]) (by first | (rw [bf_1 (what := what) (f := xy S what) (a := fb k) (j := j) (by first | assumption | exact Int32.not_le.mp (by assumption) | exact Int32.not_lt.mpr (by assumption) | exact Int32.not_lt.mp (by assumption)) (by first | assumption | exact Int32.not_le.mp (by assumption) | exact Int32.not_lt.mpr (by assumption) | exact Int32.not_lt.mp (by assumption)), nI_1]; rfl) | (rw [bf_3 (what := what) (f := xy S what) (a := fb k) (j := j) (by first | assumption | exact Int32.not_le.mp (by assumption) | exact Int32.not_lt.mpr (by assumption) | exact Int32.not_lt.mp (by assumption)) (by first | assumption | exact Int32.not_le.mp (by assumption) | exact Int32.not_lt.mpr (by assumption) | exact Int32.not_lt.mp (by assumption)), nI_1]; rfl) | (rw [bf_2 (what := what) (f := xy S what) (a := fb k) (j := j) (by first | assumption | exact Int32.not_le.mp (by assumption) | exact Int32.not_lt.mpr (by assumption) | exact Int32.not_lt.mp (by assumption)) (by first | assumption | exact Int32.not_le.mp (by assumption) | exact Int32.not_lt.mpr (by assumption) | exact Int32.not_lt.mp (by assumption)), nI_1]; rfl) | (rw [bf_4 (what := what) (f := xy S what) (a := fb k) (j := j) (by first | assumption | exact Int32.not_le.mp (by assumption) | exact Int32.not_lt.mpr (by assumption) | exact Int32.not_lt.mp (by assumption)) (by first | assumption | exact Int32.not_le.mp (by assumption) | exact Int32.not_lt.mpr (by assumption) | exact Int32.not_lt.mp (by assumption)), nI_1]; rfl)) ?_
                      exact ih (j + 1) (by omega) (by omega)
                    · refine x_iload dX10_bound_150 0 rfl ?_
                      refine x_goto 174 dX10_bound_152 (by decide) ?_
                      refine x_istore 5 [(5, .int (xy S what ((fb k) + j))), (7, .int (xy S what ((fb k) + j))), (6, .int (nI ((fb k) + j))), (4, .int (nI (fb (k + 1)))), (3, .int (nI (fb k))), (0, .ref (g.2.1 49)), (1, .int (nI k)), (2, .int what)] dX10_bound_174 (by decide) rfl ?_
                      refine x_iinc 6 (v := (nI ((fb k) + j)) + 1) 2 [(6, .int ((nI ((fb k) + j)) + 1)), (5, .int (xy S what ((fb k) + j))), (7, .int (xy S what ((fb k) + j))), (4, .int (nI (fb (k + 1)))), (3, .int (nI (fb k))), (0, .ref (g.2.1 49)), (1, .int (nI k)), (2, .int what)] dX10_bound_176 rfl (by rfl) (by decide) rfl ?_
                      refine x_goto 106 dX10_bound_179 (by decide) ?_
                      refine x_lv [0, 1, 3, 4, 5, 6, 7] rfl ?_
                      refine YY.L (lv' := [(6, .int (nI ((fb k) + (j + 1)))), (5, .int (bfold what (xy S what) (fb k) (j + 1))), (4, .int (nI (fb (k + 1)))), (3, .int (nI (fb k))), (0, .ref (g.2.1 49)), (1, .int (nI k)), (2, .int what)]) (by first | (rw [bf_1 (what := what) (f := xy S what) (a := fb k) (j := j) (by first | assumption | exact Int32.not_le.mp (by assumption) | exact Int32.not_lt.mpr (by assumption) | exact Int32.not_lt.mp (by assumption)) (by first | assumption | exact Int32.not_le.mp (by assumption) | exact Int32.not_lt.mpr (by assumption) | exact Int32.not_lt.mp (by assumption)), nI_1]; rfl) | (rw [bf_3 (what := what) (f := xy S what) (a := fb k) (j := j) (by first | assumption | exact Int32.not_le.mp (by assumption) | exact Int32.not_lt.mpr (by assumption) | exact Int32.not_lt.mp (by assumption)) (by first | assumption | exact Int32.not_le.mp (by assumption) | exact Int32.not_lt.mpr (by assumption) | exact Int32.not_lt.mp (by assumption)), nI_1]; rfl) | (rw [bf_2 (what := what) (f := xy S what) (a := fb k) (j := j) (by first | assumption | exact Int32.not_le.mp (by assumption) | exact Int32.not_lt.mpr (by assumption) | exact Int32.not_lt.mp (by assumption)) (by first | assumption | exact Int32.not_le.mp (by assumption) | exact Int32.not_lt.mpr (by assumption) | exact Int32.not_lt.mp (by assumption)), nI_1]; rfl) | (rw [bf_4 (what := what) (f := xy S what) (a := fb k) (j := j) (by first | assumption | exact Int32.not_le.mp (by assumption) | exact Int32.not_lt.mpr (by assumption) | exact Int32.not_lt.mp (by assumption)) (by first | assumption | exact Int32.not_le.mp (by assumption) | exact Int32.not_lt.mpr (by assumption) | exact Int32.not_lt.mp (by assumption)), nI_1]; rfl)) ?_
                      exact ih (j + 1) (by omega) (by omega)
          refine YY.L (lv' := [(6, .int (nI ((fb k) + 0))), (5, .int (bfold what (xy S what) (fb k) 0)), (4, .int (nI (fb (k + 1)))), (3, .int (nI (fb k))), (0, .ref (g.2.1 49)), (1, .int (nI k)), (2, .int what)]) (by rfl) ?_
          exact lp27 _ 0 (by omega) (Nat.lt_succ_self _)
      · have c3n : ¬ (0 ≤ what ∧ what ≤ 3) := iB_0.mp c3
        refine x_ldc ct_X10_88 dX10_bound_35 ?_
        refine x_iret dX10_bound_37 rfl ?_
        rw [hQ]
        first
          | exact ⟨_, rfl, (bndZ_no (by first | exact Or.inl ⟨by assumption, by omega⟩ | exact Or.inr ⟨by assumption, by assumption⟩)).symm, hMQ, frM.refl V⟩
          | exact ⟨_, rfl, (bndZ_ab (by assumption) (by omega) (by assumption)).symm, hMQ, frM.refl V⟩
          | exact ⟨_, rfl, (bndZ_kb (by assumption) (by assumption) (by assumption)).symm, hMQ, frM.refl V⟩
          | (refine ⟨_, rfl, ?_, hMQ2, hFr⟩
             rw [bndZ_a (by assumption) (by omega) (by assumption), show S.1 = j by omega])
          | (refine ⟨_, rfl, ?_, hMQ2, hFr⟩
             rw [bndZ_k h24 hk0 hkS (by assumption), show fb (k + 1) - fb k = j by omega])
    · have c2n : ¬ (0 ≤ c ∧ c < nI S.2.1) := iB_0.mp c2
      refine x_ldc ct_X10_107 dX10_bound_23 ?_
      refine x_iret dX10_bound_25 rfl ?_
      rw [hQ]
      first
        | exact ⟨_, rfl, (bndZ_no (by first | exact Or.inl ⟨by assumption, by omega⟩ | exact Or.inr ⟨by assumption, by assumption⟩)).symm, hMQ, frM.refl V⟩
        | exact ⟨_, rfl, (bndZ_ab (by assumption) (by omega) (by assumption)).symm, hMQ, frM.refl V⟩
        | exact ⟨_, rfl, (bndZ_kb (by assumption) (by assumption) (by assumption)).symm, hMQ, frM.refl V⟩
        | (refine ⟨_, rfl, ?_, hMQ2, hFr⟩
           rw [bndZ_a (by assumption) (by omega) (by assumption), show S.1 = j by omega])
        | (refine ⟨_, rfl, ?_, hMQ2, hFr⟩
           rw [bndZ_k h24 hk0 hkS (by assumption), show fb (k + 1) - fb k = j by omega])
  · refine x_aload_n dX10_bound_5 0 rfl ?_
    refine x_callV (K := jX10_contours) [] lk_X10_120 ⟨⟨rfl, rfl⟩, Nat.le_of_ble_eq_true rfl, Nat.le_of_ble_eq_true rfl⟩ rfl rfl (by have := mX10_contours (g := g) V N hN24 (by rw [hm50]; exact hN8) (by rw [hm50]; exact hw); rw [hm50, ← hcn] at this; exact this) rfl (Nat.le_of_ble_eq_true rfl) rfl dX10_bound_6 (kpI ?_)
    refine x_if_ne 26 dX10_bound_9 (by decide) (fun c39 => ?_) (fun c39 => ?_)
    · have c39n : ¬ S.2.1 = 0 := fun q => c39 ((nl_eq (a := S.2.1) (b := 0) (rfl) (rfl) (by omega) (by omega)).mpr q)
      refine x_iload_n dX10_bound_26 2 rfl ?_
      refine x_iconst (v := 0) dX10_bound_27 (by decide) ?_
      refine x_iconst (v := 3) dX10_bound_28 (by decide) ?_
      refine x_callS (K := jX10_in) [.int what, .int 0, .int 3] lk_X10_80 ⟨⟨rfl, rfl⟩, Nat.le_of_ble_eq_true rfl, Nat.le_of_ble_eq_true rfl⟩ (mX10_in V what 0 3) rfl (Nat.le_of_ble_eq_true rfl) rfl dX10_bound_29 (kpI ?_)
      refine x_if_ne 38 dX10_bound_32 (by decide) (fun c40 => ?_) (fun c40 => ?_)
      · have c40n : (0 ≤ what ∧ what ≤ 3) := Classical.not_not.mp (fun q => c40 (iB_0.mpr q))
        refine YY.L (lv' := [(0, .ref (g.2.1 49)), (1, .int (-1)), (2, .int what)]) (by rw [(show c = -1 by assumption)]) ?_
        have hb0 := hG.1
        have hbn := hG.2.1
        have hb1 := hG.bl (j := 0) (by omega)
        refine x_aload_n dX10_bound_38 0 rfl ?_
        refine x_callV (K := jX10_flatten) [] lk_X10_111 ⟨⟨rfl, rfl⟩, Nat.le_of_ble_eq_true rfl, Nat.le_of_ble_eq_true rfl⟩ rfl rfl (mX10_flatten V hw hm50 hN8 t ht9) rfl (Nat.le_of_ble_eq_true rfl) rfl dX10_bound_39 (keV fun U41 hU42 => ?_)
        have hMQ2 := hMQ.aft hU42
        have hFr := hU42.2.2
        have hF : FRM U41 S N := by rw [← hS]; exact hU42.1
        have hE : U41 65 S.2.1 = nI S.1 := by rw [← hS]; exact hU42.2.1
        have hmU := hMQ2.2.1
        refine x_iload_n dX10_bound_42 1 rfl ?_
        refine x_iconst (v := -1) dX10_bound_43 (by decide) ?_
        refine x_icmp_ne 51 dX10_bound_44 (by decide) (fun c43 => by exfalso; revert c43; decide) (fun c43 => ?_)
        refine x_iconst (v := 0) dX10_bound_47 (by decide) ?_
        refine x_goto 57 dX10_bound_48 (by decide) ?_
        refine x_istore_n 3 [(3, .int 0), (0, .ref (g.2.1 49)), (1, .int (-1)), (2, .int what)] dX10_bound_57 rfl (by decide) rfl ?_
        refine x_iload_n dX10_bound_58 2 rfl ?_
        refine x_iconst (v := -1) dX10_bound_59 (by decide) ?_
        refine x_icmp_ne 70 dX10_bound_60 (by decide) (fun c44 => by exfalso; revert c44; decide) (fun c44 => ?_)
        refine x_aload_n dX10_bound_63 1 rfl ?_
        refine x_getI fl_X10_208 rfl rfl dX10_bound_64 ?_
        refine x_topi (hF.1) ?_
        refine x_goto 78 dX10_bound_67 (by decide) ?_
        refine x_istore 4 [(4, .int (nI (S.1))), (3, .int 0), (0, .ref (g.2.1 49)), (1, .int (-1)), (2, .int what)] dX10_bound_78 (by decide) rfl ?_
        refine x_iload_n dX10_bound_80 4 rfl ?_
        refine x_iconst (v := 2) dX10_bound_81 (by decide) ?_
        have nz45 : ¬ (2 : Int32) = 0 := by decide
        refine x_irem dX10_bound_82 nz45 ?_
        refine x_if_ne 95 dX10_bound_83 (by decide) (fun c46 => ?_) (fun c46 => ?_)
        · refine x_aload_n dX10_bound_95 2 rfl ?_
          refine x_getR fl_X10_50 rfl rfl dX10_bound_96 ?_
          refine x_iload_n dX10_bound_99 1 rfl ?_
          have q47 : (0 : Int32) = nI 0 := rfl
          refine YY.S (st' := [.int (nI 0), .ref (g.2.1 63)]) (by rw [q47]) ?_
          have b48 : vp_in (nI 0) 1700 := by exact vp_in_nI (by omega) (by decide)
          refine x_iald rfl b48 dX10_bound_100 ?_
          refine x_topi (y := U41 63 0) (by rw [nI_clamp (by omega)]) ?_
          refine x_topi (show U41 63 0 = xy S what 0 from (hF.2.2.1 0 (by omega)).2.1.trans (by first | (rw [xy_0 (by assumption)]; done) | (rw [xy_1 (by assumption)]; done) | exact absurd (show what - what / 2 * 2 = 0 by assumption) (by assumption))) ?_
          refine x_istore 5 [(5, .int (xy S what 0)), (4, .int (nI (S.1))), (3, .int 0), (0, .ref (g.2.1 49)), (1, .int (-1)), (2, .int what)] dX10_bound_101 (by decide) rfl ?_
          refine x_iload_n dX10_bound_103 2 rfl ?_
          refine x_istore 6 [(6, .int 0), (5, .int (xy S what 0)), (4, .int (nI (S.1))), (3, .int 0), (0, .ref (g.2.1 49)), (1, .int (-1)), (2, .int what)] dX10_bound_104 (by decide) rfl ?_
          have lp49 : ∀ (fu : Nat) (j : Nat), (j ≤ S.1) → (S.1 - j) < fu → XX g jX10_bound Q U41 106 [(6, .int (nI (0 + j))), (5, .int (bfold what (xy S what) 0 j)), (4, .int (nI (S.1))), (3, .int 0), (0, .ref (g.2.1 49)), (1, .int (-1)), (2, .int what)] [] := by
            intro fu
            induction fu with
            | zero => intro _ _ hmz; exact absurd hmz (Nat.not_lt_zero _)
            | succ fu ih =>
              intro j hj hmz
              refine x_iload dX10_bound_106 0 rfl ?_
              refine x_iload dX10_bound_108 2 rfl ?_
              refine x_icmp_ge 182 dX10_bound_110 (by decide) (fun c50 => ?_) (fun c50 => ?_)
              · have c50n : S.1 ≤ 0 + j := (nl_le (a := S.1) (b := 0 + j) (rfl) (rfl) (by omega) (by omega)).mp c50
                refine x_iload dX10_bound_182 1 rfl ?_
                refine x_iret dX10_bound_184 rfl ?_
                rw [hQ]
                first
                  | exact ⟨_, rfl, (bndZ_no (by first | exact Or.inl ⟨by assumption, by omega⟩ | exact Or.inr ⟨by assumption, by assumption⟩)).symm, hMQ, frM.refl V⟩
                  | exact ⟨_, rfl, (bndZ_ab (by assumption) (by omega) (by assumption)).symm, hMQ, frM.refl V⟩
                  | exact ⟨_, rfl, (bndZ_kb (by assumption) (by assumption) (by assumption)).symm, hMQ, frM.refl V⟩
                  | (refine ⟨_, rfl, ?_, hMQ2, hFr⟩
                     rw [bndZ_a (by assumption) (by omega) (by assumption), show S.1 = j by omega])
                  | (refine ⟨_, rfl, ?_, hMQ2, hFr⟩
                     rw [bndZ_k h24 hk0 hkS (by assumption), show fb (k + 1) - fb k = j by omega])
              · have c50n : 0 + j < S.1 := Nat.not_le.mp (fun q => c50 ((nl_le (a := S.1) (b := 0 + j) (rfl) (rfl) (by omega) (by omega)).mpr q))
                refine x_iload_n dX10_bound_113 6 rfl ?_
                refine x_iconst (v := 2) dX10_bound_114 (by decide) ?_
                have nz51 : ¬ (2 : Int32) = 0 := by decide
                refine x_irem dX10_bound_115 nz51 ?_
                refine x_if_ne 129 dX10_bound_116 (by decide) (fun c52 => ?_) (fun c52 => ?_)
                · refine x_aload_n dX10_bound_129 4 rfl ?_
                  refine x_getR fl_X10_50 rfl rfl dX10_bound_130 ?_
                  refine x_iload dX10_bound_133 0 rfl ?_
                  have b53 : vp_in (nI (0 + j)) 1700 := by exact vp_in_nI (by omega) (by decide)
                  refine x_iald rfl b53 dX10_bound_135 ?_
                  refine x_topi (y := U41 63 (0 + j)) (by rw [nI_clamp (by omega)]) ?_
                  refine x_topi (show U41 63 (0 + j) = xy S what (0 + j) from (hF.2.2.1 (0 + j) (by omega)).2.1.trans (by first | (rw [xy_0 (by assumption)]; done) | (rw [xy_1 (by assumption)]; done) | exact absurd (show what - what / 2 * 2 = 0 by assumption) (by assumption))) ?_
                  refine x_istore 7 [(7, .int (xy S what (0 + j))), (6, .int (nI (0 + j))), (5, .int (bfold what (xy S what) 0 j)), (4, .int (nI (S.1))), (3, .int 0), (0, .ref (g.2.1 49)), (1, .int (-1)), (2, .int what)] dX10_bound_136 (by decide) rfl ?_
                  refine x_iload_n dX10_bound_138 7 rfl ?_
                  refine x_iconst (v := 2) dX10_bound_139 (by decide) ?_
                  refine x_icmp_ge 160 dX10_bound_140 (by decide) (fun c54 => ?_) (fun c54 => ?_)
                  · refine x_iload dX10_bound_160 0 rfl ?_
                    refine x_iload dX10_bound_162 2 rfl ?_
                    refine x_icmp_le 172 dX10_bound_164 (by decide) (fun c55 => ?_) (fun c55 => ?_)
                    · refine x_iload dX10_bound_172 2 rfl ?_
                      refine x_istore 5 [(5, .int (bfold what (xy S what) 0 j)), (7, .int (xy S what (0 + j))), (6, .int (nI (0 + j))), (4, .int (nI (S.1))), (3, .int 0), (0, .ref (g.2.1 49)), (1, .int (-1)), (2, .int what)] dX10_bound_174 (by decide) rfl ?_
                      refine x_iinc 6 (v := (nI (0 + j)) + 1) 2 [(6, .int ((nI (0 + j)) + 1)), (5, .int (bfold what (xy S what) 0 j)), (7, .int (xy S what (0 + j))), (4, .int (nI (S.1))), (3, .int 0), (0, .ref (g.2.1 49)), (1, .int (-1)), (2, .int what)] dX10_bound_176 rfl (by rfl) (by decide) rfl ?_
                      refine x_goto 106 dX10_bound_179 (by decide) ?_
                      refine x_lv [0, 1, 3, 4, 5, 6, 7] rfl ?_
                      refine YY.L (lv' := [(6, .int (nI (0 + (j + 1)))), (5, .int (bfold what (xy S what) 0 (j + 1))), (4, .int (nI (S.1))), (3, .int 0), (0, .ref (g.2.1 49)), (1, .int (-1)), (2, .int what)]) (by first | (rw [bf_1 (what := what) (f := xy S what) (a := 0) (j := j) (by first | assumption | exact Int32.not_le.mp (by assumption) | exact Int32.not_lt.mpr (by assumption) | exact Int32.not_lt.mp (by assumption)) (by first | assumption | exact Int32.not_le.mp (by assumption) | exact Int32.not_lt.mpr (by assumption) | exact Int32.not_lt.mp (by assumption)), nI_1]; rfl) | (rw [bf_3 (what := what) (f := xy S what) (a := 0) (j := j) (by first | assumption | exact Int32.not_le.mp (by assumption) | exact Int32.not_lt.mpr (by assumption) | exact Int32.not_lt.mp (by assumption)) (by first | assumption | exact Int32.not_le.mp (by assumption) | exact Int32.not_lt.mpr (by assumption) | exact Int32.not_lt.mp (by assumption)), nI_1]; rfl) | (rw [bf_2 (what := what) (f := xy S what) (a := 0) (j := j) (by first | assumption | exact Int32.not_le.mp (by assumption) | exact Int32.not_lt.mpr (by assumption) | exact Int32.not_lt.mp (by assumption)) (by first | assumption | exact Int32.not_le.mp (by assumption) | exact Int32.not_lt.mpr (by assumption) | exact Int32.not_lt.mp (by assumption)), nI_1]; rfl) | (rw [bf_4 (what := what) (f := xy S what) (a := 0) (j := j) (by first | assumption | exact Int32.not_le.mp (by assumption) | exact Int32.not_lt.mpr (by assumption) | exact Int32.not_lt.mp (by assumption)) (by first | assumption | exact Int32.not_le.mp (by assumption) | exact Int32.not_lt.mpr (by assumption) | exact Int32.not_lt.mp (by assumption)), nI_1]; rfl)) ?_
                      exact ih (j + 1) (by omega) (by omega)
                    · refine x_iload dX10_bound_167 0 rfl ?_
                      refine x_goto 174 dX10_bound_169 (by decide) ?_
                      refine x_istore 5 [(5, .int (xy S what (0 + j))), (7, .int (xy S what (0 + j))), (6, .int (nI (0 + j))), (4, .int (nI (S.1))), (3, .int 0), (0, .ref (g.2.1 49)), (1, .int (-1)), (2, .int what)] dX10_bound_174 (by decide) rfl ?_
                      refine x_iinc 6 (v := (nI (0 + j)) + 1) 2 [(6, .int ((nI (0 + j)) + 1)), (5, .int (xy S what (0 + j))), (7, .int (xy S what (0 + j))), (4, .int (nI (S.1))), (3, .int 0), (0, .ref (g.2.1 49)), (1, .int (-1)), (2, .int what)] dX10_bound_176 rfl (by rfl) (by decide) rfl ?_
                      refine x_goto 106 dX10_bound_179 (by decide) ?_
                      refine x_lv [0, 1, 3, 4, 5, 6, 7] rfl ?_
                      refine YY.L (lv' := [(6, .int (nI (0 + (j + 1)))), (5, .int (bfold what (xy S what) 0 (j + 1))), (4, .int (nI (S.1))), (3, .int 0), (0, .ref (g.2.1 49)), (1, .int (-1)), (2, .int what)]) (by first | (rw [bf_1 (what := what) (f := xy S what) (a := 0) (j := j) (by first | assumption | exact Int32.not_le.mp (by assumption) | exact Int32.not_lt.mpr (by assumption) | exact Int32.not_lt.mp (by assumption)) (by first | assumption | exact Int32.not_le.mp (by assumption) | exact Int32.not_lt.mpr (by assumption) | exact Int32.not_lt.mp (by assumption)), nI_1]; rfl) | (rw [bf_3 (what := what) (f := xy S what) (a := 0) (j := j) (by first | assumption | exact Int32.not_le.mp (by assumption) | exact Int32.not_lt.mpr (by assumption) | exact Int32.not_lt.mp (by assumption)) (by first | assumption | exact Int32.not_le.mp (by assumption) | exact Int32.not_lt.mpr (by assumption) | exact Int32.not_lt.mp (by assumption)), nI_1]; rfl) | (rw [bf_2 (what := what) (f := xy S what) (a := 0) (j := j) (by first | assumption | exact Int32.not_le.mp (by assumption) | exact Int32.not_lt.mpr (by assumption) | exact Int32.not_lt.mp (by assumption)) (by first | assumption | exact Int32.not_le.mp (by assumption) | exact Int32.not_lt.mpr (by assumption) | exact Int32.not_lt.mp (by assumption)), nI_1]; rfl) | (rw [bf_4 (what := what) (f := xy S what) (a := 0) (j := j) (by first | assumption | exact Int32.not_le.mp (by assumption) | exact Int32.not_lt.mpr (by assumption) | exact Int32.not_lt.mp (by assumption)) (by first | assumption | exact Int32.not_le.mp (by assumption) | exact Int32.not_lt.mpr (by assumption) | exact Int32.not_lt.mp (by assumption)), nI_1]; rfl)) ?_
                      exact ih (j + 1) (by omega) (by omega)
                  · refine x_iload dX10_bound_143 0 rfl ?_
                    refine x_iload dX10_bound_145 2 rfl ?_
                    refine x_icmp_ge 155 dX10_bound_147 (by decide) (fun c56 => ?_) (fun c56 => ?_)
                    · refine x_iload dX10_bound_155 2 rfl ?_
                      refine x_goto 174 dX10_bound_157 (by decide) ?_
                      refine x_istore 5 [(5, .int (bfold what (xy S what) 0 j)), (7, .int (xy S what (0 + j))), (6, .int (nI (0 + j))), (4, .int (nI (S.1))), (3, .int 0), (0, .ref (g.2.1 49)), (1, .int (-1)), (2, .int what)] dX10_bound_174 (by decide) rfl ?_
                      refine x_iinc 6 (v := (nI (0 + j)) + 1) 2 [(6, .int ((nI (0 + j)) + 1)), (5, .int (bfold what (xy S what) 0 j)), (7, .int (xy S what (0 + j))), (4, .int (nI (S.1))), (3, .int 0), (0, .ref (g.2.1 49)), (1, .int (-1)), (2, .int what)] dX10_bound_176 rfl (by rfl) (by decide) rfl ?_
                      refine x_goto 106 dX10_bound_179 (by decide) ?_
                      refine x_lv [0, 1, 3, 4, 5, 6, 7] rfl ?_
                      refine YY.L (lv' := [(6, .int (nI (0 + (j + 1)))), (5, .int (bfold what (xy S what) 0 (j + 1))), (4, .int (nI (S.1))), (3, .int 0), (0, .ref (g.2.1 49)), (1, .int (-1)), (2, .int what)]) (by first | (rw [bf_1 (what := what) (f := xy S what) (a := 0) (j := j) (by first | assumption | exact Int32.not_le.mp (by assumption) | exact Int32.not_lt.mpr (by assumption) | exact Int32.not_lt.mp (by assumption)) (by first | assumption | exact Int32.not_le.mp (by assumption) | exact Int32.not_lt.mpr (by assumption) | exact Int32.not_lt.mp (by assumption)), nI_1]; rfl) | (rw [bf_3 (what := what) (f := xy S what) (a := 0) (j := j) (by first | assumption | exact Int32.not_le.mp (by assumption) | exact Int32.not_lt.mpr (by assumption) | exact Int32.not_lt.mp (by assumption)) (by first | assumption | exact Int32.not_le.mp (by assumption) | exact Int32.not_lt.mpr (by assumption) | exact Int32.not_lt.mp (by assumption)), nI_1]; rfl) | (rw [bf_2 (what := what) (f := xy S what) (a := 0) (j := j) (by first | assumption | exact Int32.not_le.mp (by assumption) | exact Int32.not_lt.mpr (by assumption) | exact Int32.not_lt.mp (by assumption)) (by first | assumption | exact Int32.not_le.mp (by assumption) | exact Int32.not_lt.mpr (by assumption) | exact Int32.not_lt.mp (by assumption)), nI_1]; rfl) | (rw [bf_4 (what := what) (f := xy S what) (a := 0) (j := j) (by first | assumption | exact Int32.not_le.mp (by assumption) | exact Int32.not_lt.mpr (by assumption) | exact Int32.not_lt.mp (by assumption)) (by first | assumption | exact Int32.not_le.mp (by assumption) | exact Int32.not_lt.mpr (by assumption) | exact Int32.not_lt.mp (by assumption)), nI_1]; rfl)) ?_
                      exact ih (j + 1) (by omega) (by omega)
                    · refine x_iload dX10_bound_150 0 rfl ?_
                      refine x_goto 174 dX10_bound_152 (by decide) ?_
                      refine x_istore 5 [(5, .int (xy S what (0 + j))), (7, .int (xy S what (0 + j))), (6, .int (nI (0 + j))), (4, .int (nI (S.1))), (3, .int 0), (0, .ref (g.2.1 49)), (1, .int (-1)), (2, .int what)] dX10_bound_174 (by decide) rfl ?_
                      refine x_iinc 6 (v := (nI (0 + j)) + 1) 2 [(6, .int ((nI (0 + j)) + 1)), (5, .int (xy S what (0 + j))), (7, .int (xy S what (0 + j))), (4, .int (nI (S.1))), (3, .int 0), (0, .ref (g.2.1 49)), (1, .int (-1)), (2, .int what)] dX10_bound_176 rfl (by rfl) (by decide) rfl ?_
                      refine x_goto 106 dX10_bound_179 (by decide) ?_
                      refine x_lv [0, 1, 3, 4, 5, 6, 7] rfl ?_
                      refine YY.L (lv' := [(6, .int (nI (0 + (j + 1)))), (5, .int (bfold what (xy S what) 0 (j + 1))), (4, .int (nI (S.1))), (3, .int 0), (0, .ref (g.2.1 49)), (1, .int (-1)), (2, .int what)]) (by first | (rw [bf_1 (what := what) (f := xy S what) (a := 0) (j := j) (by first | assumption | exact Int32.not_le.mp (by assumption) | exact Int32.not_lt.mpr (by assumption) | exact Int32.not_lt.mp (by assumption)) (by first | assumption | exact Int32.not_le.mp (by assumption) | exact Int32.not_lt.mpr (by assumption) | exact Int32.not_lt.mp (by assumption)), nI_1]; rfl) | (rw [bf_3 (what := what) (f := xy S what) (a := 0) (j := j) (by first | assumption | exact Int32.not_le.mp (by assumption) | exact Int32.not_lt.mpr (by assumption) | exact Int32.not_lt.mp (by assumption)) (by first | assumption | exact Int32.not_le.mp (by assumption) | exact Int32.not_lt.mpr (by assumption) | exact Int32.not_lt.mp (by assumption)), nI_1]; rfl) | (rw [bf_2 (what := what) (f := xy S what) (a := 0) (j := j) (by first | assumption | exact Int32.not_le.mp (by assumption) | exact Int32.not_lt.mpr (by assumption) | exact Int32.not_lt.mp (by assumption)) (by first | assumption | exact Int32.not_le.mp (by assumption) | exact Int32.not_lt.mpr (by assumption) | exact Int32.not_lt.mp (by assumption)), nI_1]; rfl) | (rw [bf_4 (what := what) (f := xy S what) (a := 0) (j := j) (by first | assumption | exact Int32.not_le.mp (by assumption) | exact Int32.not_lt.mpr (by assumption) | exact Int32.not_lt.mp (by assumption)) (by first | assumption | exact Int32.not_le.mp (by assumption) | exact Int32.not_lt.mpr (by assumption) | exact Int32.not_lt.mp (by assumption)), nI_1]; rfl)) ?_
                      exact ih (j + 1) (by omega) (by omega)
                · refine x_aload_n dX10_bound_119 4 rfl ?_
                  refine x_getR fl_X10_47 rfl rfl dX10_bound_120 ?_
                  refine x_iload dX10_bound_123 0 rfl ?_
                  have b57 : vp_in (nI (0 + j)) 1700 := by exact vp_in_nI (by omega) (by decide)
                  refine x_iald rfl b57 dX10_bound_125 ?_
                  refine x_topi (y := U41 62 (0 + j)) (by rw [nI_clamp (by omega)]) ?_
                  refine x_topi (show U41 62 (0 + j) = xy S what (0 + j) from (hF.2.2.1 (0 + j) (by omega)).1.trans (by first | (rw [xy_0 (by assumption)]; done) | (rw [xy_1 (by assumption)]; done) | exact absurd (show what - what / 2 * 2 = 0 by assumption) (by assumption))) ?_
                  refine x_goto 136 dX10_bound_126 (by decide) ?_
                  refine x_istore 7 [(7, .int (xy S what (0 + j))), (6, .int (nI (0 + j))), (5, .int (bfold what (xy S what) 0 j)), (4, .int (nI (S.1))), (3, .int 0), (0, .ref (g.2.1 49)), (1, .int (-1)), (2, .int what)] dX10_bound_136 (by decide) rfl ?_
                  refine x_iload_n dX10_bound_138 7 rfl ?_
                  refine x_iconst (v := 2) dX10_bound_139 (by decide) ?_
                  refine x_icmp_ge 160 dX10_bound_140 (by decide) (fun c58 => ?_) (fun c58 => ?_)
                  · refine x_iload dX10_bound_160 0 rfl ?_
                    refine x_iload dX10_bound_162 2 rfl ?_
                    refine x_icmp_le 172 dX10_bound_164 (by decide) (fun c59 => ?_) (fun c59 => ?_)
                    · refine x_iload dX10_bound_172 2 rfl ?_
                      refine x_istore 5 [(5, .int (bfold what (xy S what) 0 j)), (7, .int (xy S what (0 + j))), (6, .int (nI (0 + j))), (4, .int (nI (S.1))), (3, .int 0), (0, .ref (g.2.1 49)), (1, .int (-1)), (2, .int what)] dX10_bound_174 (by decide) rfl ?_
                      refine x_iinc 6 (v := (nI (0 + j)) + 1) 2 [(6, .int ((nI (0 + j)) + 1)), (5, .int (bfold what (xy S what) 0 j)), (7, .int (xy S what (0 + j))), (4, .int (nI (S.1))), (3, .int 0), (0, .ref (g.2.1 49)), (1, .int (-1)), (2, .int what)] dX10_bound_176 rfl (by rfl) (by decide) rfl ?_
                      refine x_goto 106 dX10_bound_179 (by decide) ?_
                      refine x_lv [0, 1, 3, 4, 5, 6, 7] rfl ?_
                      refine YY.L (lv' := [(6, .int (nI (0 + (j + 1)))), (5, .int (bfold what (xy S what) 0 (j + 1))), (4, .int (nI (S.1))), (3, .int 0), (0, .ref (g.2.1 49)), (1, .int (-1)), (2, .int what)]) (by first | (rw [bf_1 (what := what) (f := xy S what) (a := 0) (j := j) (by first | assumption | exact Int32.not_le.mp (by assumption) | exact Int32.not_lt.mpr (by assumption) | exact Int32.not_lt.mp (by assumption)) (by first | assumption | exact Int32.not_le.mp (by assumption) | exact Int32.not_lt.mpr (by assumption) | exact Int32.not_lt.mp (by assumption)), nI_1]; rfl) | (rw [bf_3 (what := what) (f := xy S what) (a := 0) (j := j) (by first | assumption | exact Int32.not_le.mp (by assumption) | exact Int32.not_lt.mpr (by assumption) | exact Int32.not_lt.mp (by assumption)) (by first | assumption | exact Int32.not_le.mp (by assumption) | exact Int32.not_lt.mpr (by assumption) | exact Int32.not_lt.mp (by assumption)), nI_1]; rfl) | (rw [bf_2 (what := what) (f := xy S what) (a := 0) (j := j) (by first | assumption | exact Int32.not_le.mp (by assumption) | exact Int32.not_lt.mpr (by assumption) | exact Int32.not_lt.mp (by assumption)) (by first | assumption | exact Int32.not_le.mp (by assumption) | exact Int32.not_lt.mpr (by assumption) | exact Int32.not_lt.mp (by assumption)), nI_1]; rfl) | (rw [bf_4 (what := what) (f := xy S what) (a := 0) (j := j) (by first | assumption | exact Int32.not_le.mp (by assumption) | exact Int32.not_lt.mpr (by assumption) | exact Int32.not_lt.mp (by assumption)) (by first | assumption | exact Int32.not_le.mp (by assumption) | exact Int32.not_lt.mpr (by assumption) | exact Int32.not_lt.mp (by assumption)), nI_1]; rfl)) ?_
                      exact ih (j + 1) (by omega) (by omega)
                    · refine x_iload dX10_bound_167 0 rfl ?_
                      refine x_goto 174 dX10_bound_169 (by decide) ?_
                      refine x_istore 5 [(5, .int (xy S what (0 + j))), (7, .int (xy S what (0 + j))), (6, .int (nI (0 + j))), (4, .int (nI (S.1))), (3, .int 0), (0, .ref (g.2.1 49)), (1, .int (-1)), (2, .int what)] dX10_bound_174 (by decide) rfl ?_
                      refine x_iinc 6 (v := (nI (0 + j)) + 1) 2 [(6, .int ((nI (0 + j)) + 1)), (5, .int (xy S what (0 + j))), (7, .int (xy S what (0 + j))), (4, .int (nI (S.1))), (3, .int 0), (0, .ref (g.2.1 49)), (1, .int (-1)), (2, .int what)] dX10_bound_176 rfl (by rfl) (by decide) rfl ?_
                      refine x_goto 106 dX10_bound_179 (by decide) ?_
                      refine x_lv [0, 1, 3, 4, 5, 6, 7] rfl ?_
                      refine YY.L (lv' := [(6, .int (nI (0 + (j + 1)))), (5, .int (bfold what (xy S what) 0 (j + 1))), (4, .int (nI (S.1))), (3, .int 0), (0, .ref (g.2.1 49)), (1, .int (-1)), (2, .int what)]) (by first | (rw [bf_1 (what := what) (f := xy S what) (a := 0) (j := j) (by first | assumption | exact Int32.not_le.mp (by assumption) | exact Int32.not_lt.mpr (by assumption) | exact Int32.not_lt.mp (by assumption)) (by first | assumption | exact Int32.not_le.mp (by assumption) | exact Int32.not_lt.mpr (by assumption) | exact Int32.not_lt.mp (by assumption)), nI_1]; rfl) | (rw [bf_3 (what := what) (f := xy S what) (a := 0) (j := j) (by first | assumption | exact Int32.not_le.mp (by assumption) | exact Int32.not_lt.mpr (by assumption) | exact Int32.not_lt.mp (by assumption)) (by first | assumption | exact Int32.not_le.mp (by assumption) | exact Int32.not_lt.mpr (by assumption) | exact Int32.not_lt.mp (by assumption)), nI_1]; rfl) | (rw [bf_2 (what := what) (f := xy S what) (a := 0) (j := j) (by first | assumption | exact Int32.not_le.mp (by assumption) | exact Int32.not_lt.mpr (by assumption) | exact Int32.not_lt.mp (by assumption)) (by first | assumption | exact Int32.not_le.mp (by assumption) | exact Int32.not_lt.mpr (by assumption) | exact Int32.not_lt.mp (by assumption)), nI_1]; rfl) | (rw [bf_4 (what := what) (f := xy S what) (a := 0) (j := j) (by first | assumption | exact Int32.not_le.mp (by assumption) | exact Int32.not_lt.mpr (by assumption) | exact Int32.not_lt.mp (by assumption)) (by first | assumption | exact Int32.not_le.mp (by assumption) | exact Int32.not_lt.mpr (by assumption) | exact Int32.not_lt.mp (by assumption)), nI_1]; rfl)) ?_
                      exact ih (j + 1) (by omega) (by omega)
                  · refine x_iload dX10_bound_143 0 rfl ?_
                    refine x_iload dX10_bound_145 2 rfl ?_
                    refine x_icmp_ge 155 dX10_bound_147 (by decide) (fun c60 => ?_) (fun c60 => ?_)
                    · refine x_iload dX10_bound_155 2 rfl ?_
                      refine x_goto 174 dX10_bound_157 (by decide) ?_
                      refine x_istore 5 [(5, .int (bfold what (xy S what) 0 j)), (7, .int (xy S what (0 + j))), (6, .int (nI (0 + j))), (4, .int (nI (S.1))), (3, .int 0), (0, .ref (g.2.1 49)), (1, .int (-1)), (2, .int what)] dX10_bound_174 (by decide) rfl ?_
                      refine x_iinc 6 (v := (nI (0 + j)) + 1) 2 [(6, .int ((nI (0 + j)) + 1)), (5, .int (bfold what (xy S what) 0 j)), (7, .int (xy S what (0 + j))), (4, .int (nI (S.1))), (3, .int 0), (0, .ref (g.2.1 49)), (1, .int (-1)), (2, .int what)] dX10_bound_176 rfl (by rfl) (by decide) rfl ?_
                      refine x_goto 106 dX10_bound_179 (by decide) ?_
                      refine x_lv [0, 1, 3, 4, 5, 6, 7] rfl ?_
                      refine YY.L (lv' := [(6, .int (nI (0 + (j + 1)))), (5, .int (bfold what (xy S what) 0 (j + 1))), (4, .int (nI (S.1))), (3, .int 0), (0, .ref (g.2.1 49)), (1, .int (-1)), (2, .int what)]) (by first | (rw [bf_1 (what := what) (f := xy S what) (a := 0) (j := j) (by first | assumption | exact Int32.not_le.mp (by assumption) | exact Int32.not_lt.mpr (by assumption) | exact Int32.not_lt.mp (by assumption)) (by first | assumption | exact Int32.not_le.mp (by assumption) | exact Int32.not_lt.mpr (by assumption) | exact Int32.not_lt.mp (by assumption)), nI_1]; rfl) | (rw [bf_3 (what := what) (f := xy S what) (a := 0) (j := j) (by first | assumption | exact Int32.not_le.mp (by assumption) | exact Int32.not_lt.mpr (by assumption) | exact Int32.not_lt.mp (by assumption)) (by first | assumption | exact Int32.not_le.mp (by assumption) | exact Int32.not_lt.mpr (by assumption) | exact Int32.not_lt.mp (by assumption)), nI_1]; rfl) | (rw [bf_2 (what := what) (f := xy S what) (a := 0) (j := j) (by first | assumption | exact Int32.not_le.mp (by assumption) | exact Int32.not_lt.mpr (by assumption) | exact Int32.not_lt.mp (by assumption)) (by first | assumption | exact Int32.not_le.mp (by assumption) | exact Int32.not_lt.mpr (by assumption) | exact Int32.not_lt.mp (by assumption)), nI_1]; rfl) | (rw [bf_4 (what := what) (f := xy S what) (a := 0) (j := j) (by first | assumption | exact Int32.not_le.mp (by assumption) | exact Int32.not_lt.mpr (by assumption) | exact Int32.not_lt.mp (by assumption)) (by first | assumption | exact Int32.not_le.mp (by assumption) | exact Int32.not_lt.mpr (by assumption) | exact Int32.not_lt.mp (by assumption)), nI_1]; rfl)) ?_
                      exact ih (j + 1) (by omega) (by omega)
                    · refine x_iload dX10_bound_150 0 rfl ?_
                      refine x_goto 174 dX10_bound_152 (by decide) ?_
                      refine x_istore 5 [(5, .int (xy S what (0 + j))), (7, .int (xy S what (0 + j))), (6, .int (nI (0 + j))), (4, .int (nI (S.1))), (3, .int 0), (0, .ref (g.2.1 49)), (1, .int (-1)), (2, .int what)] dX10_bound_174 (by decide) rfl ?_
                      refine x_iinc 6 (v := (nI (0 + j)) + 1) 2 [(6, .int ((nI (0 + j)) + 1)), (5, .int (xy S what (0 + j))), (7, .int (xy S what (0 + j))), (4, .int (nI (S.1))), (3, .int 0), (0, .ref (g.2.1 49)), (1, .int (-1)), (2, .int what)] dX10_bound_176 rfl (by rfl) (by decide) rfl ?_
                      refine x_goto 106 dX10_bound_179 (by decide) ?_
                      refine x_lv [0, 1, 3, 4, 5, 6, 7] rfl ?_
                      refine YY.L (lv' := [(6, .int (nI (0 + (j + 1)))), (5, .int (bfold what (xy S what) 0 (j + 1))), (4, .int (nI (S.1))), (3, .int 0), (0, .ref (g.2.1 49)), (1, .int (-1)), (2, .int what)]) (by first | (rw [bf_1 (what := what) (f := xy S what) (a := 0) (j := j) (by first | assumption | exact Int32.not_le.mp (by assumption) | exact Int32.not_lt.mpr (by assumption) | exact Int32.not_lt.mp (by assumption)) (by first | assumption | exact Int32.not_le.mp (by assumption) | exact Int32.not_lt.mpr (by assumption) | exact Int32.not_lt.mp (by assumption)), nI_1]; rfl) | (rw [bf_3 (what := what) (f := xy S what) (a := 0) (j := j) (by first | assumption | exact Int32.not_le.mp (by assumption) | exact Int32.not_lt.mpr (by assumption) | exact Int32.not_lt.mp (by assumption)) (by first | assumption | exact Int32.not_le.mp (by assumption) | exact Int32.not_lt.mpr (by assumption) | exact Int32.not_lt.mp (by assumption)), nI_1]; rfl) | (rw [bf_2 (what := what) (f := xy S what) (a := 0) (j := j) (by first | assumption | exact Int32.not_le.mp (by assumption) | exact Int32.not_lt.mpr (by assumption) | exact Int32.not_lt.mp (by assumption)) (by first | assumption | exact Int32.not_le.mp (by assumption) | exact Int32.not_lt.mpr (by assumption) | exact Int32.not_lt.mp (by assumption)), nI_1]; rfl) | (rw [bf_4 (what := what) (f := xy S what) (a := 0) (j := j) (by first | assumption | exact Int32.not_le.mp (by assumption) | exact Int32.not_lt.mpr (by assumption) | exact Int32.not_lt.mp (by assumption)) (by first | assumption | exact Int32.not_le.mp (by assumption) | exact Int32.not_lt.mpr (by assumption) | exact Int32.not_lt.mp (by assumption)), nI_1]; rfl)) ?_
                      exact ih (j + 1) (by omega) (by omega)
          refine YY.L (lv' := [(6, .int (nI (0 + 0))), (5, .int (bfold what (xy S what) 0 0)), (4, .int (nI (S.1))), (3, .int 0), (0, .ref (g.2.1 49)), (1, .int (-1)), (2, .int what)]) (by rfl) ?_
          exact lp49 _ 0 (by omega) (Nat.lt_succ_self _)
        · refine x_aload_n dX10_bound_86 2 rfl ?_
          refine x_getR fl_X10_47 rfl rfl dX10_bound_87 ?_
          refine x_iload_n dX10_bound_90 1 rfl ?_
          have q61 : (0 : Int32) = nI 0 := rfl
          refine YY.S (st' := [.int (nI 0), .ref (g.2.1 62)]) (by rw [q61]) ?_
          have b62 : vp_in (nI 0) 1700 := by exact vp_in_nI (by omega) (by decide)
          refine x_iald rfl b62 dX10_bound_91 ?_
          refine x_topi (y := U41 62 0) (by rw [nI_clamp (by omega)]) ?_
          refine x_topi (show U41 62 0 = xy S what 0 from (hF.2.2.1 0 (by omega)).1.trans (by first | (rw [xy_0 (by assumption)]; done) | (rw [xy_1 (by assumption)]; done) | exact absurd (show what - what / 2 * 2 = 0 by assumption) (by assumption))) ?_
          refine x_goto 101 dX10_bound_92 (by decide) ?_
          refine x_istore 5 [(5, .int (xy S what 0)), (4, .int (nI (S.1))), (3, .int 0), (0, .ref (g.2.1 49)), (1, .int (-1)), (2, .int what)] dX10_bound_101 (by decide) rfl ?_
          refine x_iload_n dX10_bound_103 2 rfl ?_
          refine x_istore 6 [(6, .int 0), (5, .int (xy S what 0)), (4, .int (nI (S.1))), (3, .int 0), (0, .ref (g.2.1 49)), (1, .int (-1)), (2, .int what)] dX10_bound_104 (by decide) rfl ?_
          have lp63 : ∀ (fu : Nat) (j : Nat), (j ≤ S.1) → (S.1 - j) < fu → XX g jX10_bound Q U41 106 [(6, .int (nI (0 + j))), (5, .int (bfold what (xy S what) 0 j)), (4, .int (nI (S.1))), (3, .int 0), (0, .ref (g.2.1 49)), (1, .int (-1)), (2, .int what)] [] := by
            intro fu
            induction fu with
            | zero => intro _ _ hmz; exact absurd hmz (Nat.not_lt_zero _)
            | succ fu ih =>
              intro j hj hmz
              refine x_iload dX10_bound_106 0 rfl ?_
              refine x_iload dX10_bound_108 2 rfl ?_
              refine x_icmp_ge 182 dX10_bound_110 (by decide) (fun c64 => ?_) (fun c64 => ?_)
              · have c64n : S.1 ≤ 0 + j := (nl_le (a := S.1) (b := 0 + j) (rfl) (rfl) (by omega) (by omega)).mp c64
                refine x_iload dX10_bound_182 1 rfl ?_
                refine x_iret dX10_bound_184 rfl ?_
                rw [hQ]
                first
                  | exact ⟨_, rfl, (bndZ_no (by first | exact Or.inl ⟨by assumption, by omega⟩ | exact Or.inr ⟨by assumption, by assumption⟩)).symm, hMQ, frM.refl V⟩
                  | exact ⟨_, rfl, (bndZ_ab (by assumption) (by omega) (by assumption)).symm, hMQ, frM.refl V⟩
                  | exact ⟨_, rfl, (bndZ_kb (by assumption) (by assumption) (by assumption)).symm, hMQ, frM.refl V⟩
                  | (refine ⟨_, rfl, ?_, hMQ2, hFr⟩
                     rw [bndZ_a (by assumption) (by omega) (by assumption), show S.1 = j by omega])
                  | (refine ⟨_, rfl, ?_, hMQ2, hFr⟩
                     rw [bndZ_k h24 hk0 hkS (by assumption), show fb (k + 1) - fb k = j by omega])
              · have c64n : 0 + j < S.1 := Nat.not_le.mp (fun q => c64 ((nl_le (a := S.1) (b := 0 + j) (rfl) (rfl) (by omega) (by omega)).mpr q))
                refine x_iload_n dX10_bound_113 6 rfl ?_
                refine x_iconst (v := 2) dX10_bound_114 (by decide) ?_
                have nz65 : ¬ (2 : Int32) = 0 := by decide
                refine x_irem dX10_bound_115 nz65 ?_
                refine x_if_ne 129 dX10_bound_116 (by decide) (fun c66 => ?_) (fun c66 => ?_)
                · refine x_aload_n dX10_bound_129 4 rfl ?_
                  refine x_getR fl_X10_50 rfl rfl dX10_bound_130 ?_
                  refine x_iload dX10_bound_133 0 rfl ?_
                  have b67 : vp_in (nI (0 + j)) 1700 := by exact vp_in_nI (by omega) (by decide)
                  refine x_iald rfl b67 dX10_bound_135 ?_
                  refine x_topi (y := U41 63 (0 + j)) (by rw [nI_clamp (by omega)]) ?_
                  refine x_topi (show U41 63 (0 + j) = xy S what (0 + j) from (hF.2.2.1 (0 + j) (by omega)).2.1.trans (by first | (rw [xy_0 (by assumption)]; done) | (rw [xy_1 (by assumption)]; done) | exact absurd (show what - what / 2 * 2 = 0 by assumption) (by assumption))) ?_
                  refine x_istore 7 [(7, .int (xy S what (0 + j))), (6, .int (nI (0 + j))), (5, .int (bfold what (xy S what) 0 j)), (4, .int (nI (S.1))), (3, .int 0), (0, .ref (g.2.1 49)), (1, .int (-1)), (2, .int what)] dX10_bound_136 (by decide) rfl ?_
                  refine x_iload_n dX10_bound_138 7 rfl ?_
                  refine x_iconst (v := 2) dX10_bound_139 (by decide) ?_
                  refine x_icmp_ge 160 dX10_bound_140 (by decide) (fun c68 => ?_) (fun c68 => ?_)
                  · refine x_iload dX10_bound_160 0 rfl ?_
                    refine x_iload dX10_bound_162 2 rfl ?_
                    refine x_icmp_le 172 dX10_bound_164 (by decide) (fun c69 => ?_) (fun c69 => ?_)
                    · refine x_iload dX10_bound_172 2 rfl ?_
                      refine x_istore 5 [(5, .int (bfold what (xy S what) 0 j)), (7, .int (xy S what (0 + j))), (6, .int (nI (0 + j))), (4, .int (nI (S.1))), (3, .int 0), (0, .ref (g.2.1 49)), (1, .int (-1)), (2, .int what)] dX10_bound_174 (by decide) rfl ?_
                      refine x_iinc 6 (v := (nI (0 + j)) + 1) 2 [(6, .int ((nI (0 + j)) + 1)), (5, .int (bfold what (xy S what) 0 j)), (7, .int (xy S what (0 + j))), (4, .int (nI (S.1))), (3, .int 0), (0, .ref (g.2.1 49)), (1, .int (-1)), (2, .int what)] dX10_bound_176 rfl (by rfl) (by decide) rfl ?_
                      refine x_goto 106 dX10_bound_179 (by decide) ?_
                      refine x_lv [0, 1, 3, 4, 5, 6, 7] rfl ?_
                      refine YY.L (lv' := [(6, .int (nI (0 + (j + 1)))), (5, .int (bfold what (xy S what) 0 (j + 1))), (4, .int (nI (S.1))), (3, .int 0), (0, .ref (g.2.1 49)), (1, .int (-1)), (2, .int what)]) (by first | (rw [bf_1 (what := what) (f := xy S what) (a := 0) (j := j) (by first | assumption | exact Int32.not_le.mp (by assumption) | exact Int32.not_lt.mpr (by assumption) | exact Int32.not_lt.mp (by assumption)) (by first | assumption | exact Int32.not_le.mp (by assumption) | exact Int32.not_lt.mpr (by assumption) | exact Int32.not_lt.mp (by assumption)), nI_1]; rfl) | (rw [bf_3 (what := what) (f := xy S what) (a := 0) (j := j) (by first | assumption | exact Int32.not_le.mp (by assumption) | exact Int32.not_lt.mpr (by assumption) | exact Int32.not_lt.mp (by assumption)) (by first | assumption | exact Int32.not_le.mp (by assumption) | exact Int32.not_lt.mpr (by assumption) | exact Int32.not_lt.mp (by assumption)), nI_1]; rfl) | (rw [bf_2 (what := what) (f := xy S what) (a := 0) (j := j) (by first | assumption | exact Int32.not_le.mp (by assumption) | exact Int32.not_lt.mpr (by assumption) | exact Int32.not_lt.mp (by assumption)) (by first | assumption | exact Int32.not_le.mp (by assumption) | exact Int32.not_lt.mpr (by assumption) | exact Int32.not_lt.mp (by assumption)), nI_1]; rfl) | (rw [bf_4 (what := what) (f := xy S what) (a := 0) (j := j) (by first | assumption | exact Int32.not_le.mp (by assumption) | exact Int32.not_lt.mpr (by assumption) | exact Int32.not_lt.mp (by assumption)) (by first | assumption | exact Int32.not_le.mp (by assumption) | exact Int32.not_lt.mpr (by assumption) | exact Int32.not_lt.mp (by assumption)), nI_1]; rfl)) ?_
                      exact ih (j + 1) (by omega) (by omega)
                    · refine x_iload dX10_bound_167 0 rfl ?_
                      refine x_goto 174 dX10_bound_169 (by decide) ?_
                      refine x_istore 5 [(5, .int (xy S what (0 + j))), (7, .int (xy S what (0 + j))), (6, .int (nI (0 + j))), (4, .int (nI (S.1))), (3, .int 0), (0, .ref (g.2.1 49)), (1, .int (-1)), (2, .int what)] dX10_bound_174 (by decide) rfl ?_
                      refine x_iinc 6 (v := (nI (0 + j)) + 1) 2 [(6, .int ((nI (0 + j)) + 1)), (5, .int (xy S what (0 + j))), (7, .int (xy S what (0 + j))), (4, .int (nI (S.1))), (3, .int 0), (0, .ref (g.2.1 49)), (1, .int (-1)), (2, .int what)] dX10_bound_176 rfl (by rfl) (by decide) rfl ?_
                      refine x_goto 106 dX10_bound_179 (by decide) ?_
                      refine x_lv [0, 1, 3, 4, 5, 6, 7] rfl ?_
                      refine YY.L (lv' := [(6, .int (nI (0 + (j + 1)))), (5, .int (bfold what (xy S what) 0 (j + 1))), (4, .int (nI (S.1))), (3, .int 0), (0, .ref (g.2.1 49)), (1, .int (-1)), (2, .int what)]) (by first | (rw [bf_1 (what := what) (f := xy S what) (a := 0) (j := j) (by first | assumption | exact Int32.not_le.mp (by assumption) | exact Int32.not_lt.mpr (by assumption) | exact Int32.not_lt.mp (by assumption)) (by first | assumption | exact Int32.not_le.mp (by assumption) | exact Int32.not_lt.mpr (by assumption) | exact Int32.not_lt.mp (by assumption)), nI_1]; rfl) | (rw [bf_3 (what := what) (f := xy S what) (a := 0) (j := j) (by first | assumption | exact Int32.not_le.mp (by assumption) | exact Int32.not_lt.mpr (by assumption) | exact Int32.not_lt.mp (by assumption)) (by first | assumption | exact Int32.not_le.mp (by assumption) | exact Int32.not_lt.mpr (by assumption) | exact Int32.not_lt.mp (by assumption)), nI_1]; rfl) | (rw [bf_2 (what := what) (f := xy S what) (a := 0) (j := j) (by first | assumption | exact Int32.not_le.mp (by assumption) | exact Int32.not_lt.mpr (by assumption) | exact Int32.not_lt.mp (by assumption)) (by first | assumption | exact Int32.not_le.mp (by assumption) | exact Int32.not_lt.mpr (by assumption) | exact Int32.not_lt.mp (by assumption)), nI_1]; rfl) | (rw [bf_4 (what := what) (f := xy S what) (a := 0) (j := j) (by first | assumption | exact Int32.not_le.mp (by assumption) | exact Int32.not_lt.mpr (by assumption) | exact Int32.not_lt.mp (by assumption)) (by first | assumption | exact Int32.not_le.mp (by assumption) | exact Int32.not_lt.mpr (by assumption) | exact Int32.not_lt.mp (by assumption)), nI_1]; rfl)) ?_
                      exact ih (j + 1) (by omega) (by omega)
                  · refine x_iload dX10_bound_143 0 rfl ?_
                    refine x_iload dX10_bound_145 2 rfl ?_
                    refine x_icmp_ge 155 dX10_bound_147 (by decide) (fun c70 => ?_) (fun c70 => ?_)
                    · refine x_iload dX10_bound_155 2 rfl ?_
                      refine x_goto 174 dX10_bound_157 (by decide) ?_
                      refine x_istore 5 [(5, .int (bfold what (xy S what) 0 j)), (7, .int (xy S what (0 + j))), (6, .int (nI (0 + j))), (4, .int (nI (S.1))), (3, .int 0), (0, .ref (g.2.1 49)), (1, .int (-1)), (2, .int what)] dX10_bound_174 (by decide) rfl ?_
                      refine x_iinc 6 (v := (nI (0 + j)) + 1) 2 [(6, .int ((nI (0 + j)) + 1)), (5, .int (bfold what (xy S what) 0 j)), (7, .int (xy S what (0 + j))), (4, .int (nI (S.1))), (3, .int 0), (0, .ref (g.2.1 49)), (1, .int (-1)), (2, .int what)] dX10_bound_176 rfl (by rfl) (by decide) rfl ?_
                      refine x_goto 106 dX10_bound_179 (by decide) ?_
                      refine x_lv [0, 1, 3, 4, 5, 6, 7] rfl ?_
                      refine YY.L (lv' := [(6, .int (nI (0 + (j + 1)))), (5, .int (bfold what (xy S what) 0 (j + 1))), (4, .int (nI (S.1))), (3, .int 0), (0, .ref (g.2.1 49)), (1, .int (-1)), (2, .int what)]) (by first | (rw [bf_1 (what := what) (f := xy S what) (a := 0) (j := j) (by first | assumption | exact Int32.not_le.mp (by assumption) | exact Int32.not_lt.mpr (by assumption) | exact Int32.not_lt.mp (by assumption)) (by first | assumption | exact Int32.not_le.mp (by assumption) | exact Int32.not_lt.mpr (by assumption) | exact Int32.not_lt.mp (by assumption)), nI_1]; rfl) | (rw [bf_3 (what := what) (f := xy S what) (a := 0) (j := j) (by first | assumption | exact Int32.not_le.mp (by assumption) | exact Int32.not_lt.mpr (by assumption) | exact Int32.not_lt.mp (by assumption)) (by first | assumption | exact Int32.not_le.mp (by assumption) | exact Int32.not_lt.mpr (by assumption) | exact Int32.not_lt.mp (by assumption)), nI_1]; rfl) | (rw [bf_2 (what := what) (f := xy S what) (a := 0) (j := j) (by first | assumption | exact Int32.not_le.mp (by assumption) | exact Int32.not_lt.mpr (by assumption) | exact Int32.not_lt.mp (by assumption)) (by first | assumption | exact Int32.not_le.mp (by assumption) | exact Int32.not_lt.mpr (by assumption) | exact Int32.not_lt.mp (by assumption)), nI_1]; rfl) | (rw [bf_4 (what := what) (f := xy S what) (a := 0) (j := j) (by first | assumption | exact Int32.not_le.mp (by assumption) | exact Int32.not_lt.mpr (by assumption) | exact Int32.not_lt.mp (by assumption)) (by first | assumption | exact Int32.not_le.mp (by assumption) | exact Int32.not_lt.mpr (by assumption) | exact Int32.not_lt.mp (by assumption)), nI_1]; rfl)) ?_
                      exact ih (j + 1) (by omega) (by omega)
                    · refine x_iload dX10_bound_150 0 rfl ?_
                      refine x_goto 174 dX10_bound_152 (by decide) ?_
                      refine x_istore 5 [(5, .int (xy S what (0 + j))), (7, .int (xy S what (0 + j))), (6, .int (nI (0 + j))), (4, .int (nI (S.1))), (3, .int 0), (0, .ref (g.2.1 49)), (1, .int (-1)), (2, .int what)] dX10_bound_174 (by decide) rfl ?_
                      refine x_iinc 6 (v := (nI (0 + j)) + 1) 2 [(6, .int ((nI (0 + j)) + 1)), (5, .int (xy S what (0 + j))), (7, .int (xy S what (0 + j))), (4, .int (nI (S.1))), (3, .int 0), (0, .ref (g.2.1 49)), (1, .int (-1)), (2, .int what)] dX10_bound_176 rfl (by rfl) (by decide) rfl ?_
                      refine x_goto 106 dX10_bound_179 (by decide) ?_
                      refine x_lv [0, 1, 3, 4, 5, 6, 7] rfl ?_
                      refine YY.L (lv' := [(6, .int (nI (0 + (j + 1)))), (5, .int (bfold what (xy S what) 0 (j + 1))), (4, .int (nI (S.1))), (3, .int 0), (0, .ref (g.2.1 49)), (1, .int (-1)), (2, .int what)]) (by first | (rw [bf_1 (what := what) (f := xy S what) (a := 0) (j := j) (by first | assumption | exact Int32.not_le.mp (by assumption) | exact Int32.not_lt.mpr (by assumption) | exact Int32.not_lt.mp (by assumption)) (by first | assumption | exact Int32.not_le.mp (by assumption) | exact Int32.not_lt.mpr (by assumption) | exact Int32.not_lt.mp (by assumption)), nI_1]; rfl) | (rw [bf_3 (what := what) (f := xy S what) (a := 0) (j := j) (by first | assumption | exact Int32.not_le.mp (by assumption) | exact Int32.not_lt.mpr (by assumption) | exact Int32.not_lt.mp (by assumption)) (by first | assumption | exact Int32.not_le.mp (by assumption) | exact Int32.not_lt.mpr (by assumption) | exact Int32.not_lt.mp (by assumption)), nI_1]; rfl) | (rw [bf_2 (what := what) (f := xy S what) (a := 0) (j := j) (by first | assumption | exact Int32.not_le.mp (by assumption) | exact Int32.not_lt.mpr (by assumption) | exact Int32.not_lt.mp (by assumption)) (by first | assumption | exact Int32.not_le.mp (by assumption) | exact Int32.not_lt.mpr (by assumption) | exact Int32.not_lt.mp (by assumption)), nI_1]; rfl) | (rw [bf_4 (what := what) (f := xy S what) (a := 0) (j := j) (by first | assumption | exact Int32.not_le.mp (by assumption) | exact Int32.not_lt.mpr (by assumption) | exact Int32.not_lt.mp (by assumption)) (by first | assumption | exact Int32.not_le.mp (by assumption) | exact Int32.not_lt.mpr (by assumption) | exact Int32.not_lt.mp (by assumption)), nI_1]; rfl)) ?_
                      exact ih (j + 1) (by omega) (by omega)
                · refine x_aload_n dX10_bound_119 4 rfl ?_
                  refine x_getR fl_X10_47 rfl rfl dX10_bound_120 ?_
                  refine x_iload dX10_bound_123 0 rfl ?_
                  have b71 : vp_in (nI (0 + j)) 1700 := by exact vp_in_nI (by omega) (by decide)
                  refine x_iald rfl b71 dX10_bound_125 ?_
                  refine x_topi (y := U41 62 (0 + j)) (by rw [nI_clamp (by omega)]) ?_
                  refine x_topi (show U41 62 (0 + j) = xy S what (0 + j) from (hF.2.2.1 (0 + j) (by omega)).1.trans (by first | (rw [xy_0 (by assumption)]; done) | (rw [xy_1 (by assumption)]; done) | exact absurd (show what - what / 2 * 2 = 0 by assumption) (by assumption))) ?_
                  refine x_goto 136 dX10_bound_126 (by decide) ?_
                  refine x_istore 7 [(7, .int (xy S what (0 + j))), (6, .int (nI (0 + j))), (5, .int (bfold what (xy S what) 0 j)), (4, .int (nI (S.1))), (3, .int 0), (0, .ref (g.2.1 49)), (1, .int (-1)), (2, .int what)] dX10_bound_136 (by decide) rfl ?_
                  refine x_iload_n dX10_bound_138 7 rfl ?_
                  refine x_iconst (v := 2) dX10_bound_139 (by decide) ?_
                  refine x_icmp_ge 160 dX10_bound_140 (by decide) (fun c72 => ?_) (fun c72 => ?_)
                  · refine x_iload dX10_bound_160 0 rfl ?_
                    refine x_iload dX10_bound_162 2 rfl ?_
                    refine x_icmp_le 172 dX10_bound_164 (by decide) (fun c73 => ?_) (fun c73 => ?_)
                    · refine x_iload dX10_bound_172 2 rfl ?_
                      refine x_istore 5 [(5, .int (bfold what (xy S what) 0 j)), (7, .int (xy S what (0 + j))), (6, .int (nI (0 + j))), (4, .int (nI (S.1))), (3, .int 0), (0, .ref (g.2.1 49)), (1, .int (-1)), (2, .int what)] dX10_bound_174 (by decide) rfl ?_
                      refine x_iinc 6 (v := (nI (0 + j)) + 1) 2 [(6, .int ((nI (0 + j)) + 1)), (5, .int (bfold what (xy S what) 0 j)), (7, .int (xy S what (0 + j))), (4, .int (nI (S.1))), (3, .int 0), (0, .ref (g.2.1 49)), (1, .int (-1)), (2, .int what)] dX10_bound_176 rfl (by rfl) (by decide) rfl ?_
                      refine x_goto 106 dX10_bound_179 (by decide) ?_
                      refine x_lv [0, 1, 3, 4, 5, 6, 7] rfl ?_
                      refine YY.L (lv' := [(6, .int (nI (0 + (j + 1)))), (5, .int (bfold what (xy S what) 0 (j + 1))), (4, .int (nI (S.1))), (3, .int 0), (0, .ref (g.2.1 49)), (1, .int (-1)), (2, .int what)]) (by first | (rw [bf_1 (what := what) (f := xy S what) (a := 0) (j := j) (by first | assumption | exact Int32.not_le.mp (by assumption) | exact Int32.not_lt.mpr (by assumption) | exact Int32.not_lt.mp (by assumption)) (by first | assumption | exact Int32.not_le.mp (by assumption) | exact Int32.not_lt.mpr (by assumption) | exact Int32.not_lt.mp (by assumption)), nI_1]; rfl) | (rw [bf_3 (what := what) (f := xy S what) (a := 0) (j := j) (by first | assumption | exact Int32.not_le.mp (by assumption) | exact Int32.not_lt.mpr (by assumption) | exact Int32.not_lt.mp (by assumption)) (by first | assumption | exact Int32.not_le.mp (by assumption) | exact Int32.not_lt.mpr (by assumption) | exact Int32.not_lt.mp (by assumption)), nI_1]; rfl) | (rw [bf_2 (what := what) (f := xy S what) (a := 0) (j := j) (by first | assumption | exact Int32.not_le.mp (by assumption) | exact Int32.not_lt.mpr (by assumption) | exact Int32.not_lt.mp (by assumption)) (by first | assumption | exact Int32.not_le.mp (by assumption) | exact Int32.not_lt.mpr (by assumption) | exact Int32.not_lt.mp (by assumption)), nI_1]; rfl) | (rw [bf_4 (what := what) (f := xy S what) (a := 0) (j := j) (by first | assumption | exact Int32.not_le.mp (by assumption) | exact Int32.not_lt.mpr (by assumption) | exact Int32.not_lt.mp (by assumption)) (by first | assumption | exact Int32.not_le.mp (by assumption) | exact Int32.not_lt.mpr (by assumption) | exact Int32.not_lt.mp (by assumption)), nI_1]; rfl)) ?_
                      exact ih (j + 1) (by omega) (by omega)
                    · refine x_iload dX10_bound_167 0 rfl ?_
                      refine x_goto 174 dX10_bound_169 (by decide) ?_
                      refine x_istore 5 [(5, .int (xy S what (0 + j))), (7, .int (xy S what (0 + j))), (6, .int (nI (0 + j))), (4, .int (nI (S.1))), (3, .int 0), (0, .ref (g.2.1 49)), (1, .int (-1)), (2, .int what)] dX10_bound_174 (by decide) rfl ?_
                      refine x_iinc 6 (v := (nI (0 + j)) + 1) 2 [(6, .int ((nI (0 + j)) + 1)), (5, .int (xy S what (0 + j))), (7, .int (xy S what (0 + j))), (4, .int (nI (S.1))), (3, .int 0), (0, .ref (g.2.1 49)), (1, .int (-1)), (2, .int what)] dX10_bound_176 rfl (by rfl) (by decide) rfl ?_
                      refine x_goto 106 dX10_bound_179 (by decide) ?_
                      refine x_lv [0, 1, 3, 4, 5, 6, 7] rfl ?_
                      refine YY.L (lv' := [(6, .int (nI (0 + (j + 1)))), (5, .int (bfold what (xy S what) 0 (j + 1))), (4, .int (nI (S.1))), (3, .int 0), (0, .ref (g.2.1 49)), (1, .int (-1)), (2, .int what)]) (by first | (rw [bf_1 (what := what) (f := xy S what) (a := 0) (j := j) (by first | assumption | exact Int32.not_le.mp (by assumption) | exact Int32.not_lt.mpr (by assumption) | exact Int32.not_lt.mp (by assumption)) (by first | assumption | exact Int32.not_le.mp (by assumption) | exact Int32.not_lt.mpr (by assumption) | exact Int32.not_lt.mp (by assumption)), nI_1]; rfl) | (rw [bf_3 (what := what) (f := xy S what) (a := 0) (j := j) (by first | assumption | exact Int32.not_le.mp (by assumption) | exact Int32.not_lt.mpr (by assumption) | exact Int32.not_lt.mp (by assumption)) (by first | assumption | exact Int32.not_le.mp (by assumption) | exact Int32.not_lt.mpr (by assumption) | exact Int32.not_lt.mp (by assumption)), nI_1]; rfl) | (rw [bf_2 (what := what) (f := xy S what) (a := 0) (j := j) (by first | assumption | exact Int32.not_le.mp (by assumption) | exact Int32.not_lt.mpr (by assumption) | exact Int32.not_lt.mp (by assumption)) (by first | assumption | exact Int32.not_le.mp (by assumption) | exact Int32.not_lt.mpr (by assumption) | exact Int32.not_lt.mp (by assumption)), nI_1]; rfl) | (rw [bf_4 (what := what) (f := xy S what) (a := 0) (j := j) (by first | assumption | exact Int32.not_le.mp (by assumption) | exact Int32.not_lt.mpr (by assumption) | exact Int32.not_lt.mp (by assumption)) (by first | assumption | exact Int32.not_le.mp (by assumption) | exact Int32.not_lt.mpr (by assumption) | exact Int32.not_lt.mp (by assumption)), nI_1]; rfl)) ?_
                      exact ih (j + 1) (by omega) (by omega)
                  · refine x_iload dX10_bound_143 0 rfl ?_
                    refine x_iload dX10_bound_145 2 rfl ?_
                    refine x_icmp_ge 155 dX10_bound_147 (by decide) (fun c74 => ?_) (fun c74 => ?_)
                    · refine x_iload dX10_bound_155 2 rfl ?_
                      refine x_goto 174 dX10_bound_157 (by decide) ?_
                      refine x_istore 5 [(5, .int (bfold what (xy S what) 0 j)), (7, .int (xy S what (0 + j))), (6, .int (nI (0 + j))), (4, .int (nI (S.1))), (3, .int 0), (0, .ref (g.2.1 49)), (1, .int (-1)), (2, .int what)] dX10_bound_174 (by decide) rfl ?_
                      refine x_iinc 6 (v := (nI (0 + j)) + 1) 2 [(6, .int ((nI (0 + j)) + 1)), (5, .int (bfold what (xy S what) 0 j)), (7, .int (xy S what (0 + j))), (4, .int (nI (S.1))), (3, .int 0), (0, .ref (g.2.1 49)), (1, .int (-1)), (2, .int what)] dX10_bound_176 rfl (by rfl) (by decide) rfl ?_
                      refine x_goto 106 dX10_bound_179 (by decide) ?_
                      refine x_lv [0, 1, 3, 4, 5, 6, 7] rfl ?_
                      refine YY.L (lv' := [(6, .int (nI (0 + (j + 1)))), (5, .int (bfold what (xy S what) 0 (j + 1))), (4, .int (nI (S.1))), (3, .int 0), (0, .ref (g.2.1 49)), (1, .int (-1)), (2, .int what)]) (by first | (rw [bf_1 (what := what) (f := xy S what) (a := 0) (j := j) (by first | assumption | exact Int32.not_le.mp (by assumption) | exact Int32.not_lt.mpr (by assumption) | exact Int32.not_lt.mp (by assumption)) (by first | assumption | exact Int32.not_le.mp (by assumption) | exact Int32.not_lt.mpr (by assumption) | exact Int32.not_lt.mp (by assumption)), nI_1]; rfl) | (rw [bf_3 (what := what) (f := xy S what) (a := 0) (j := j) (by first | assumption | exact Int32.not_le.mp (by assumption) | exact Int32.not_lt.mpr (by assumption) | exact Int32.not_lt.mp (by assumption)) (by first | assumption | exact Int32.not_le.mp (by assumption) | exact Int32.not_lt.mpr (by assumption) | exact Int32.not_lt.mp (by assumption)), nI_1]; rfl) | (rw [bf_2 (what := what) (f := xy S what) (a := 0) (j := j) (by first | assumption | exact Int32.not_le.mp (by assumption) | exact Int32.not_lt.mpr (by assumption) | exact Int32.not_lt.mp (by assumption)) (by first | assumption | exact Int32.not_le.mp (by assumption) | exact Int32.not_lt.mpr (by assumption) | exact Int32.not_lt.mp (by assumption)), nI_1]; rfl) | (rw [bf_4 (what := what) (f := xy S what) (a := 0) (j := j) (by first | assumption | exact Int32.not_le.mp (by assumption) | exact Int32.not_lt.mpr (by assumption) | exact Int32.not_lt.mp (by assumption)) (by first | assumption | exact Int32.not_le.mp (by assumption) | exact Int32.not_lt.mpr (by assumption) | exact Int32.not_lt.mp (by assumption)), nI_1]; rfl)) ?_
                      exact ih (j + 1) (by omega) (by omega)
                    · refine x_iload dX10_bound_150 0 rfl ?_
                      refine x_goto 174 dX10_bound_152 (by decide) ?_
                      refine x_istore 5 [(5, .int (xy S what (0 + j))), (7, .int (xy S what (0 + j))), (6, .int (nI (0 + j))), (4, .int (nI (S.1))), (3, .int 0), (0, .ref (g.2.1 49)), (1, .int (-1)), (2, .int what)] dX10_bound_174 (by decide) rfl ?_
                      refine x_iinc 6 (v := (nI (0 + j)) + 1) 2 [(6, .int ((nI (0 + j)) + 1)), (5, .int (xy S what (0 + j))), (7, .int (xy S what (0 + j))), (4, .int (nI (S.1))), (3, .int 0), (0, .ref (g.2.1 49)), (1, .int (-1)), (2, .int what)] dX10_bound_176 rfl (by rfl) (by decide) rfl ?_
                      refine x_goto 106 dX10_bound_179 (by decide) ?_
                      refine x_lv [0, 1, 3, 4, 5, 6, 7] rfl ?_
                      refine YY.L (lv' := [(6, .int (nI (0 + (j + 1)))), (5, .int (bfold what (xy S what) 0 (j + 1))), (4, .int (nI (S.1))), (3, .int 0), (0, .ref (g.2.1 49)), (1, .int (-1)), (2, .int what)]) (by first | (rw [bf_1 (what := what) (f := xy S what) (a := 0) (j := j) (by first | assumption | exact Int32.not_le.mp (by assumption) | exact Int32.not_lt.mpr (by assumption) | exact Int32.not_lt.mp (by assumption)) (by first | assumption | exact Int32.not_le.mp (by assumption) | exact Int32.not_lt.mpr (by assumption) | exact Int32.not_lt.mp (by assumption)), nI_1]; rfl) | (rw [bf_3 (what := what) (f := xy S what) (a := 0) (j := j) (by first | assumption | exact Int32.not_le.mp (by assumption) | exact Int32.not_lt.mpr (by assumption) | exact Int32.not_lt.mp (by assumption)) (by first | assumption | exact Int32.not_le.mp (by assumption) | exact Int32.not_lt.mpr (by assumption) | exact Int32.not_lt.mp (by assumption)), nI_1]; rfl) | (rw [bf_2 (what := what) (f := xy S what) (a := 0) (j := j) (by first | assumption | exact Int32.not_le.mp (by assumption) | exact Int32.not_lt.mpr (by assumption) | exact Int32.not_lt.mp (by assumption)) (by first | assumption | exact Int32.not_le.mp (by assumption) | exact Int32.not_lt.mpr (by assumption) | exact Int32.not_lt.mp (by assumption)), nI_1]; rfl) | (rw [bf_4 (what := what) (f := xy S what) (a := 0) (j := j) (by first | assumption | exact Int32.not_le.mp (by assumption) | exact Int32.not_lt.mpr (by assumption) | exact Int32.not_lt.mp (by assumption)) (by first | assumption | exact Int32.not_le.mp (by assumption) | exact Int32.not_lt.mpr (by assumption) | exact Int32.not_lt.mp (by assumption)), nI_1]; rfl)) ?_
                      exact ih (j + 1) (by omega) (by omega)
          refine YY.L (lv' := [(6, .int (nI (0 + 0))), (5, .int (bfold what (xy S what) 0 0)), (4, .int (nI (S.1))), (3, .int 0), (0, .ref (g.2.1 49)), (1, .int (-1)), (2, .int what)]) (by rfl) ?_
          exact lp63 _ 0 (by omega) (Nat.lt_succ_self _)
      · have c40n : ¬ (0 ≤ what ∧ what ≤ 3) := iB_0.mp c40
        refine x_ldc ct_X10_88 dX10_bound_35 ?_
        refine x_iret dX10_bound_37 rfl ?_
        rw [hQ]
        first
          | exact ⟨_, rfl, (bndZ_no (by first | exact Or.inl ⟨by assumption, by omega⟩ | exact Or.inr ⟨by assumption, by assumption⟩)).symm, hMQ, frM.refl V⟩
          | exact ⟨_, rfl, (bndZ_ab (by assumption) (by omega) (by assumption)).symm, hMQ, frM.refl V⟩
          | exact ⟨_, rfl, (bndZ_kb (by assumption) (by assumption) (by assumption)).symm, hMQ, frM.refl V⟩
          | (refine ⟨_, rfl, ?_, hMQ2, hFr⟩
             rw [bndZ_a (by assumption) (by omega) (by assumption), show S.1 = j by omega])
          | (refine ⟨_, rfl, ?_, hMQ2, hFr⟩
             rw [bndZ_k h24 hk0 hkS (by assumption), show fb (k + 1) - fb k = j by omega])
    · have c39n : S.2.1 = 0 := (nl_eq (a := S.2.1) (b := 0) (rfl) (rfl) (by omega) (by omega)).mp c39
      refine x_goto 23 dX10_bound_12 (by decide) ?_
      refine x_ldc ct_X10_107 dX10_bound_23 ?_
      refine x_iret dX10_bound_25 rfl ?_
      rw [hQ]
      first
        | exact ⟨_, rfl, (bndZ_no (by first | exact Or.inl ⟨by assumption, by omega⟩ | exact Or.inr ⟨by assumption, by assumption⟩)).symm, hMQ, frM.refl V⟩
        | exact ⟨_, rfl, (bndZ_ab (by assumption) (by omega) (by assumption)).symm, hMQ, frM.refl V⟩
        | exact ⟨_, rfl, (bndZ_kb (by assumption) (by assumption) (by assumption)).symm, hMQ, frM.refl V⟩
        | (refine ⟨_, rfl, ?_, hMQ2, hFr⟩
           rw [bndZ_a (by assumption) (by omega) (by assumption), show S.1 = j by omega])
        | (refine ⟨_, rfl, ?_, hMQ2, hFr⟩
           rw [bndZ_k h24 hk0 hkS (by assumption), show fb (k + 1) - fb k = j by omega])
