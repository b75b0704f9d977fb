set_option maxHeartbeats 1000000 in
set_option maxRecDepth 100000 in
theorem mX10_addDash {g : gX} (V : vM) (d : Int32) (hd : 0 ≤ V 49 6 ∧ V 49 6 ≤ 6) : MM g jX10_addDash V [.ref (g.2.1 49), .int d] (dI (if 1 ≤ d ∧ d ≤ 100000 ∧ ¬ V 49 6 = 6 then uM (uM V 54 (V 49 6).toNatClampNeg d) 49 6 (V 49 6 + 1) else V) (if ¬ (1 ≤ d ∧ d ≤ 100000) then -1000002 else if V 49 6 = 6 then -1000004 else V 49 6 + 1)) := by
  refine MM.of plX10_addDash (Nat.le_of_ble_eq_true rfl) ?_
  obtain ⟨Q, hQ⟩ : ∃ Q : Option Value → vM → Prop, Q = (dI (if 1 ≤ d ∧ d ≤ 100000 ∧ ¬ V 49 6 = 6 then uM (uM V 54 (V 49 6).toNatClampNeg d) 49 6 (V 49 6 + 1) else V) (if ¬ (1 ≤ d ∧ d ≤ 100000) then -1000002 else if V 49 6 = 6 then -1000004 else V 49 6 + 1)) := ⟨_, rfl⟩
  rw [← hQ]
  show XX g jX10_addDash Q V 0 [(0, .ref (g.2.1 49)), (1, .int d)] []
  refine x_iload_n dX10_addDash_0 1 rfl ?_
  refine x_iconst (v := 1) dX10_addDash_1 (by decide) ?_
  refine x_ldcw ct_X10_277 dX10_addDash_2 ?_
  refine x_callS (K := jX10_in) [.int d, .int 1, .int 100000] lk_X10_80 ⟨⟨rfl, rfl⟩, Nat.le_of_ble_eq_true rfl, Nat.le_of_ble_eq_true rfl⟩ (mX10_in V d 1 100000) rfl (Nat.le_of_ble_eq_true rfl) rfl dX10_addDash_5 (kpI ?_)
  refine x_if_ne 14 dX10_addDash_8 (by decide) (fun c1 => ?_) (fun c1 => ?_)
  · have c1n : (1 ≤ d ∧ d ≤ 100000) := Classical.not_not.mp (fun q => c1 (iB_0.mpr q))
    refine x_aload_n dX10_addDash_14 0 rfl ?_
    refine x_getI fl_X10_278 rfl rfl dX10_addDash_15 ?_
    refine x_bipush (v := 6) dX10_addDash_18 (by decide) ?_
    refine x_icmp_ne 26 dX10_addDash_20 (by decide) (fun c2 => ?_) (fun c2 => ?_)
    · refine x_aload_n dX10_addDash_26 0 rfl ?_
      refine x_getR fl_X10_23 rfl rfl dX10_addDash_27 ?_
      refine x_aload_n dX10_addDash_30 0 rfl ?_
      refine x_getI fl_X10_278 rfl rfl dX10_addDash_31 ?_
      refine x_iload_n dX10_addDash_34 1 rfl ?_
      have b3 : vp_in (V 49 6) 6 := by exact vp_lit (N := 6) 6 (by decide) rfl (by grind) (by grind)
      refine x_iast rfl b3 dX10_addDash_35 ?_
      obtain ⟨U4, eU4⟩ : ∃ v_v : vM, v_v = uM V 54 (V 49 6).toNatClampNeg d := ⟨_, rfl⟩
      refine YY.V eU4.symm ?_
      refine x_aload_n dX10_addDash_36 0 rfl ?_
      refine x_dup dX10_addDash_37 rfl ?_
      refine x_getI fl_X10_278 rfl rfl dX10_addDash_38 ?_
      refine x_topi (y := V 49 6) (by rw [eU4, uM_na (by decide)]) ?_
      refine x_iconst (v := 1) dX10_addDash_41 (by decide) ?_
      refine x_iadd dX10_addDash_42 ?_
      refine x_putI fp_X10_278 rfl rfl dX10_addDash_43 ?_
      obtain ⟨U5, eU5⟩ : ∃ v_v : vM, v_v = uM U4 49 6 ((V 49 6) + 1) := ⟨_, rfl⟩
      refine YY.V eU5.symm ?_
      refine x_aload_n dX10_addDash_46 0 rfl ?_
      refine x_getI fl_X10_278 rfl rfl dX10_addDash_47 ?_
      refine x_topi (y := (V 49 6) + 1) (by rw [eU5, uM_hit]) ?_
      refine x_iret dX10_addDash_50 rfl ?_
      rw [hQ]
      refine ⟨?_, ?_⟩
      · subst_vars; first | rfl | grind
      · congr 2; first | rfl | grind
    · refine x_ldc ct_X10_98 dX10_addDash_23 ?_
      refine x_iret dX10_addDash_25 rfl ?_
      rw [hQ]
      refine ⟨?_, ?_⟩
      · subst_vars; first | rfl | grind
      · congr 2; first | rfl | grind
  · have c1n : ¬ (1 ≤ d ∧ d ≤ 100000) := iB_0.mp c1
    refine x_ldc ct_X10_88 dX10_addDash_11 ?_
    refine x_iret dX10_addDash_13 rfl ?_
    rw [hQ]
    refine ⟨?_, ?_⟩
    · subst_vars; first | rfl | grind
    · congr 2; first | rfl | grind
set_option maxHeartbeats 1000000 in
set_option maxRecDepth 100000 in
theorem mX10_clearDashes {g : gX} (V : vM) (d : Int32) : MM g jX10_clearDashes V [.ref (g.2.1 49), .int d] (dI (if 0 ≤ d ∧ d ≤ 100000 then uM (uM V 49 6 0) 49 7 d else V) (if 0 ≤ d ∧ d ≤ 100000 then V 49 6 else -1000002)) := by
  refine MM.of plX10_clearDashes (Nat.le_of_ble_eq_true rfl) ?_
  obtain ⟨Q, hQ⟩ : ∃ Q : Option Value → vM → Prop, Q = (dI (if 0 ≤ d ∧ d ≤ 100000 then uM (uM V 49 6 0) 49 7 d else V) (if 0 ≤ d ∧ d ≤ 100000 then V 49 6 else -1000002)) := ⟨_, rfl⟩
  rw [← hQ]
  show XX g jX10_clearDashes Q V 0 [(0, .ref (g.2.1 49)), (1, .int d)] []
  refine x_iload_n dX10_clearDashes_0 1 rfl ?_
  refine x_iconst (v := 0) dX10_clearDashes_1 (by decide) ?_
  refine x_ldcw ct_X10_277 dX10_clearDashes_2 ?_
  refine x_callS (K := jX10_in) [.int d, .int 0, .int 100000] lk_X10_80 ⟨⟨rfl, rfl⟩, Nat.le_of_ble_eq_true rfl, Nat.le_of_ble_eq_true rfl⟩ (mX10_in V d 0 100000) rfl (Nat.le_of_ble_eq_true rfl) rfl dX10_clearDashes_5 (kpI ?_)
  refine x_if_ne 14 dX10_clearDashes_8 (by decide) (fun c1 => ?_) (fun c1 => ?_)
  · have c1n : (0 ≤ d ∧ d ≤ 100000) := Classical.not_not.mp (fun q => c1 (iB_0.mpr q))
    refine x_aload_n dX10_clearDashes_14 0 rfl ?_
    refine x_getI fl_X10_278 rfl rfl dX10_clearDashes_15 ?_
    refine x_istore_n 2 [(2, .int (V 49 6)), (0, .ref (g.2.1 49)), (1, .int d)] dX10_clearDashes_18 rfl (by decide) rfl ?_
    refine x_aload_n dX10_clearDashes_19 1 rfl ?_
    refine x_iconst (v := 0) dX10_clearDashes_20 (by decide) ?_
    refine x_putI fp_X10_278 rfl rfl dX10_clearDashes_21 ?_
    obtain ⟨U2, eU2⟩ : ∃ v_v : vM, v_v = uM V 49 6 0 := ⟨_, rfl⟩
    refine YY.V eU2.symm ?_
    refine x_aload_n dX10_clearDashes_24 1 rfl ?_
    refine x_iload_n dX10_clearDashes_25 2 rfl ?_
    refine x_putI fp_X10_281 rfl rfl dX10_clearDashes_26 ?_
    obtain ⟨U3, eU3⟩ : ∃ v_v : vM, v_v = uM U2 49 7 d := ⟨_, rfl⟩
    refine YY.V eU3.symm ?_
    refine x_iload_n dX10_clearDashes_29 0 rfl ?_
    refine x_iret dX10_clearDashes_30 rfl ?_
    rw [hQ]
    refine ⟨?_, ?_⟩
    · subst_vars; first | rfl | grind
    · congr 2; first | rfl | grind
  · have c1n : ¬ (0 ≤ d ∧ d ≤ 100000) := iB_0.mp c1
    refine x_ldc ct_X10_88 dX10_clearDashes_11 ?_
    refine x_iret dX10_clearDashes_13 rfl ?_
    rw [hQ]
    refine ⟨?_, ?_⟩
    · subst_vars; first | rfl | grind
    · congr 2; first | rfl | grind
set_option maxHeartbeats 1000000 in
set_option maxRecDepth 100000 in
theorem mX10_setWidth {g : gX} (V : vM) (l w : Int32) : MM g jX10_setWidth V [.ref (g.2.1 49), .int l, .int w] (dI (if (0 ≤ l ∧ l ≤ 25) ∧ 1 ≤ w ∧ w ≤ 4000 then uM V 55 l.toNatClampNeg w else V) (if ¬ (0 ≤ l ∧ l ≤ 25) then -1000001 else if ¬ (1 ≤ w ∧ w ≤ 4000) then -1000002 else V 55 l.toNatClampNeg)) := by
  refine MM.of plX10_setWidth (Nat.le_of_ble_eq_true rfl) ?_
  obtain ⟨Q, hQ⟩ : ∃ Q : Option Value → vM → Prop, Q = (dI (if (0 ≤ l ∧ l ≤ 25) ∧ 1 ≤ w ∧ w ≤ 4000 then uM V 55 l.toNatClampNeg w else V) (if ¬ (0 ≤ l ∧ l ≤ 25) then -1000001 else if ¬ (1 ≤ w ∧ w ≤ 4000) then -1000002 else V 55 l.toNatClampNeg)) := ⟨_, rfl⟩
  rw [← hQ]
  show XX g jX10_setWidth Q V 0 [(0, .ref (g.2.1 49)), (1, .int l), (2, .int w)] []
  refine x_iload_n dX10_setWidth_0 1 rfl ?_
  refine x_callS (K := jX10_isLetter) [.int l] lk_X10_287 ⟨⟨rfl, rfl⟩, Nat.le_of_ble_eq_true rfl, Nat.le_of_ble_eq_true rfl⟩ (mX10_isLetter V l) rfl (Nat.le_of_ble_eq_true rfl) rfl dX10_setWidth_1 (kpI ?_)
  refine x_if_ne 10 dX10_setWidth_4 (by decide) (fun c1 => ?_) (fun c1 => ?_)
  · have c1n : (0 ≤ l ∧ l ≤ 25) := Classical.not_not.mp (fun q => c1 (iB_0.mpr q))
    refine x_iload_n dX10_setWidth_10 2 rfl ?_
    refine x_iconst (v := 1) dX10_setWidth_11 (by decide) ?_
    refine x_sipush (v := 4000) dX10_setWidth_12 (by decide) ?_
    refine x_callS (K := jX10_in) [.int w, .int 1, .int 4000] lk_X10_80 ⟨⟨rfl, rfl⟩, Nat.le_of_ble_eq_true rfl, Nat.le_of_ble_eq_true rfl⟩ (mX10_in V w 1 4000) rfl (Nat.le_of_ble_eq_true rfl) rfl dX10_setWidth_15 (kpI ?_)
    refine x_if_ne 24 dX10_setWidth_18 (by decide) (fun c2 => ?_) (fun c2 => ?_)
    · have c2n : (1 ≤ w ∧ w ≤ 4000) := Classical.not_not.mp (fun q => c2 (iB_0.mpr q))
      refine x_aload_n dX10_setWidth_24 0 rfl ?_
      refine x_getR fl_X10_26 rfl rfl dX10_setWidth_25 ?_
      refine x_iload_n dX10_setWidth_28 1 rfl ?_
      have b3 : vp_in l 26 := by exact vp_lit (N := 26) 26 (by decide) rfl (by grind) (by grind)
      refine x_iald rfl b3 dX10_setWidth_29 ?_
      refine x_istore_n 3 [(3, .int (V 55 l.toNatClampNeg)), (0, .ref (g.2.1 49)), (1, .int l), (2, .int w)] dX10_setWidth_30 rfl (by decide) rfl ?_
      refine x_aload_n dX10_setWidth_31 1 rfl ?_
      refine x_getR fl_X10_26 rfl rfl dX10_setWidth_32 ?_
      refine x_iload_n dX10_setWidth_35 2 rfl ?_
      refine x_iload_n dX10_setWidth_36 3 rfl ?_
      have b4 : vp_in l 26 := by exact vp_lit (N := 26) 26 (by decide) rfl (by grind) (by grind)
      refine x_iast rfl b4 dX10_setWidth_37 ?_
      obtain ⟨U5, eU5⟩ : ∃ v_v : vM, v_v = uM V 55 l.toNatClampNeg w := ⟨_, rfl⟩
      refine YY.V eU5.symm ?_
      refine x_iload_n dX10_setWidth_38 0 rfl ?_
      refine x_iret dX10_setWidth_39 rfl ?_
      rw [hQ]
      refine ⟨?_, ?_⟩
      · subst_vars; first | rfl | grind
      · congr 2; first | rfl | grind
    · have c2n : ¬ (1 ≤ w ∧ w ≤ 4000) := iB_0.mp c2
      refine x_ldc ct_X10_88 dX10_setWidth_21 ?_
      refine x_iret dX10_setWidth_23 rfl ?_
      rw [hQ]
      refine ⟨?_, ?_⟩
      · subst_vars; first | rfl | grind
      · congr 2; first | rfl | grind
  · have c1n : ¬ (0 ≤ l ∧ l ≤ 25) := iB_0.mp c1
    refine x_ldc ct_X10_107 dX10_setWidth_7 ?_
    refine x_iret dX10_setWidth_9 rfl ?_
    rw [hQ]
    refine ⟨?_, ?_⟩
    · subst_vars; first | rfl | grind
    · congr 2; first | rfl | grind
def skO (V : vM) (l r : Int32) : Int32 := V 49 10 - if ¬ V 56 (26 * l + r).toNatClampNeg = 0 then 1 else 0
def skS (V : vM) (l r a : Int32) : Int32 := skO V l r + if ¬ a = 0 then 1 else 0
def skV (V : vM) (l r a : Int32) : vM := if ¬ ((0 ≤ l ∧ l ≤ 25) ∧ 0 ≤ r ∧ r ≤ 25) then V else if ¬ (-500 ≤ a ∧ a ≤ 500) then V else if skO V l r = 20 ∧ ¬ a = 0 then V else uM (uM V 56 (26 * l + r).toNatClampNeg a) 49 10 (skS V l r a)
def skZ (V : vM) (l r a : Int32) : Int32 := if ¬ ((0 ≤ l ∧ l ≤ 25) ∧ 0 ≤ r ∧ r ≤ 25) then -1000001 else if ¬ (-500 ≤ a ∧ a ≤ 500) then -1000002 else if skO V l r = 20 ∧ ¬ a = 0 then -1000004 else skS V l r a
set_option maxHeartbeats 1000000 in
set_option maxRecDepth 100000 in
theorem mX10_setKerning {g : gX} (V : vM) (l r a : Int32) : MM g jX10_setKerning V [.ref (g.2.1 49), .int l, .int r, .int a] (dI (skV V l r a) (skZ V l r a)) := by
  refine MM.of plX10_setKerning (Nat.le_of_ble_eq_true rfl) ?_
  obtain ⟨Q, hQ⟩ : ∃ Q : Option Value → vM → Prop, Q = (dI (skV V l r a) (skZ V l r a)) := ⟨_, rfl⟩
  rw [← hQ]
  show XX g jX10_setKerning Q V 0 [(0, .ref (g.2.1 49)), (1, .int l), (2, .int r), (3, .int a)] []
  refine x_iload_n dX10_setKerning_0 1 rfl ?_
  refine x_callS (K := jX10_isLetter) [.int l] lk_X10_287 ⟨⟨rfl, rfl⟩, Nat.le_of_ble_eq_true rfl, Nat.le_of_ble_eq_true rfl⟩ (mX10_isLetter V l) rfl (Nat.le_of_ble_eq_true rfl) rfl dX10_setKerning_1 (kpI ?_)
  refine x_if_eq 14 dX10_setKerning_4 (by decide) (fun c1 => ?_) (fun c1 => ?_)
  · have c1n : ¬ (0 ≤ l ∧ l ≤ 25) := iB_0.mp c1
    refine x_ldc ct_X10_107 dX10_setKerning_14 ?_
    refine x_iret dX10_setKerning_16 rfl ?_
    rw [hQ]
    refine ⟨?_, ?_⟩
    · subst_vars; unfold skV skS skO; grind
    · unfold skZ skS skO; congr 2; grind
  · have c1n : (0 ≤ l ∧ l ≤ 25) := Classical.not_not.mp (fun q => c1 (iB_0.mpr q))
    refine x_iload_n dX10_setKerning_7 2 rfl ?_
    refine x_callS (K := jX10_isLetter) [.int r] lk_X10_287 ⟨⟨rfl, rfl⟩, Nat.le_of_ble_eq_true rfl, Nat.le_of_ble_eq_true rfl⟩ (mX10_isLetter V r) rfl (Nat.le_of_ble_eq_true rfl) rfl dX10_setKerning_8 (kpI ?_)
    refine x_if_ne 17 dX10_setKerning_11 (by decide) (fun c2 => ?_) (fun c2 => ?_)
    · have c2n : (0 ≤ r ∧ r ≤ 25) := Classical.not_not.mp (fun q => c2 (iB_0.mpr q))
      refine x_iload_n dX10_setKerning_17 3 rfl ?_
      refine x_sipush (v := -500) dX10_setKerning_18 (by decide) ?_
      refine x_sipush (v := 500) dX10_setKerning_21 (by decide) ?_
      refine x_callS (K := jX10_in) [.int a, .int (-500), .int 500] lk_X10_80 ⟨⟨rfl, rfl⟩, Nat.le_of_ble_eq_true rfl, Nat.le_of_ble_eq_true rfl⟩ (mX10_in V a (-500) 500) rfl (Nat.le_of_ble_eq_true rfl) rfl dX10_setKerning_24 (kpI ?_)
      refine x_if_ne 33 dX10_setKerning_27 (by decide) (fun c3 => ?_) (fun c3 => ?_)
      · have c3n : ((-500) ≤ a ∧ a ≤ 500) := Classical.not_not.mp (fun q => c3 (iB_0.mpr q))
        refine x_bipush (v := 26) dX10_setKerning_33 (by decide) ?_
        refine x_iload_n dX10_setKerning_35 1 rfl ?_
        refine x_imul dX10_setKerning_36 ?_
        refine x_iload_n dX10_setKerning_37 2 rfl ?_
        refine x_iadd dX10_setKerning_38 ?_
        refine x_istore 4 [(4, .int ((26 * l) + r)), (0, .ref (g.2.1 49)), (1, .int l), (2, .int r), (3, .int a)] dX10_setKerning_39 (by decide) rfl ?_
        refine x_aload_n dX10_setKerning_41 1 rfl ?_
        refine x_getI fl_X10_290 rfl rfl dX10_setKerning_42 ?_
        refine x_aload_n dX10_setKerning_45 1 rfl ?_
        refine x_getR fl_X10_29 rfl rfl dX10_setKerning_46 ?_
        refine x_iload dX10_setKerning_49 0 rfl ?_
        have b4 : vp_in ((26 * l) + r) 676 := by exact vp_lit (N := 676) 676 (by decide) rfl (by grind) (by grind)
        refine x_iald rfl b4 dX10_setKerning_51 ?_
        refine x_if_eq 59 dX10_setKerning_52 (by decide) (fun c5 => ?_) (fun c5 => ?_)
        · refine x_iconst (v := 0) dX10_setKerning_59 (by decide) ?_
          refine x_isub dX10_setKerning_60 ?_
          refine x_istore 5 [(5, .int ((V 49 10) - 0)), (4, .int ((26 * l) + r)), (0, .ref (g.2.1 49)), (1, .int l), (2, .int r), (3, .int a)] dX10_setKerning_61 (by decide) rfl ?_
          refine x_iload dX10_setKerning_63 0 rfl ?_
          refine x_bipush (v := 20) dX10_setKerning_65 (by decide) ?_
          refine x_icmp_ne 77 dX10_setKerning_67 (by decide) (fun c6 => ?_) (fun c6 => ?_)
          · refine x_aload_n dX10_setKerning_77 2 rfl ?_
            refine x_getR fl_X10_29 rfl rfl dX10_setKerning_78 ?_
            refine x_iload dX10_setKerning_81 1 rfl ?_
            refine x_iload_n dX10_setKerning_83 5 rfl ?_
            have b7 : vp_in ((26 * l) + r) 676 := by exact vp_lit (N := 676) 676 (by decide) rfl (by grind) (by grind)
            refine x_iast rfl b7 dX10_setKerning_84 ?_
            obtain ⟨U8, eU8⟩ : ∃ v_v : vM, v_v = uM V 56 ((26 * l) + r).toNatClampNeg a := ⟨_, rfl⟩
            refine YY.V eU8.symm ?_
            refine x_aload_n dX10_setKerning_85 2 rfl ?_
            refine x_iload dX10_setKerning_86 0 rfl ?_
            refine x_iload_n dX10_setKerning_88 5 rfl ?_
            refine x_if_eq 96 dX10_setKerning_89 (by decide) (fun c9 => ?_) (fun c9 => ?_)
            · refine x_iconst (v := 0) dX10_setKerning_96 (by decide) ?_
              refine x_iadd dX10_setKerning_97 ?_
              refine x_putI fp_X10_290 rfl rfl dX10_setKerning_98 ?_
              obtain ⟨U10, eU10⟩ : ∃ v_v : vM, v_v = uM U8 49 10 (((V 49 10) - 0) + 0) := ⟨_, rfl⟩
              refine YY.V eU10.symm ?_
              refine x_aload_n dX10_setKerning_101 2 rfl ?_
              refine x_getI fl_X10_290 rfl rfl dX10_setKerning_102 ?_
              refine x_topi (y := ((V 49 10) - 0) + 0) (by rw [eU10, uM_hit]) ?_
              refine x_iret dX10_setKerning_105 rfl ?_
              rw [hQ]
              refine ⟨?_, ?_⟩
              · subst_vars; unfold skV skS skO; grind
              · unfold skZ skS skO; congr 2; grind
            · refine x_iconst (v := 1) dX10_setKerning_92 (by decide) ?_
              refine x_goto 97 dX10_setKerning_93 (by decide) ?_
              refine x_iadd dX10_setKerning_97 ?_
              refine x_putI fp_X10_290 rfl rfl dX10_setKerning_98 ?_
              obtain ⟨U11, eU11⟩ : ∃ v_v : vM, v_v = uM U8 49 10 (((V 49 10) - 0) + 1) := ⟨_, rfl⟩
              refine YY.V eU11.symm ?_
              refine x_aload_n dX10_setKerning_101 2 rfl ?_
              refine x_getI fl_X10_290 rfl rfl dX10_setKerning_102 ?_
              refine x_topi (y := ((V 49 10) - 0) + 1) (by rw [eU11, uM_hit]) ?_
              refine x_iret dX10_setKerning_105 rfl ?_
              rw [hQ]
              refine ⟨?_, ?_⟩
              · subst_vars; unfold skV skS skO; grind
              · unfold skZ skS skO; congr 2; grind
          · refine x_iload_n dX10_setKerning_70 5 rfl ?_
            refine x_if_eq 77 dX10_setKerning_71 (by decide) (fun c12 => ?_) (fun c12 => ?_)
            · refine x_aload_n dX10_setKerning_77 2 rfl ?_
              refine x_getR fl_X10_29 rfl rfl dX10_setKerning_78 ?_
              refine x_iload dX10_setKerning_81 1 rfl ?_
              refine x_iload_n dX10_setKerning_83 5 rfl ?_
              have b13 : vp_in ((26 * l) + r) 676 := by exact vp_lit (N := 676) 676 (by decide) rfl (by grind) (by grind)
              refine x_iast rfl b13 dX10_setKerning_84 ?_
              obtain ⟨U14, eU14⟩ : ∃ v_v : vM, v_v = uM V 56 ((26 * l) + r).toNatClampNeg a := ⟨_, rfl⟩
              refine YY.V eU14.symm ?_
              refine x_aload_n dX10_setKerning_85 2 rfl ?_
              refine x_iload dX10_setKerning_86 0 rfl ?_
              refine x_iload_n dX10_setKerning_88 5 rfl ?_
              refine x_if_eq 96 dX10_setKerning_89 (by decide) (fun c15 => ?_) (fun c15 => ?_)
              · refine x_iconst (v := 0) dX10_setKerning_96 (by decide) ?_
                refine x_iadd dX10_setKerning_97 ?_
                refine x_putI fp_X10_290 rfl rfl dX10_setKerning_98 ?_
                obtain ⟨U16, eU16⟩ : ∃ v_v : vM, v_v = uM U14 49 10 (((V 49 10) - 0) + 0) := ⟨_, rfl⟩
                refine YY.V eU16.symm ?_
                refine x_aload_n dX10_setKerning_101 2 rfl ?_
                refine x_getI fl_X10_290 rfl rfl dX10_setKerning_102 ?_
                refine x_topi (y := ((V 49 10) - 0) + 0) (by rw [eU16, uM_hit]) ?_
                refine x_iret dX10_setKerning_105 rfl ?_
                rw [hQ]
                refine ⟨?_, ?_⟩
                · subst_vars; unfold skV skS skO; grind
                · unfold skZ skS skO; congr 2; grind
              · refine x_iconst (v := 1) dX10_setKerning_92 (by decide) ?_
                refine x_goto 97 dX10_setKerning_93 (by decide) ?_
                refine x_iadd dX10_setKerning_97 ?_
                refine x_putI fp_X10_290 rfl rfl dX10_setKerning_98 ?_
                obtain ⟨U17, eU17⟩ : ∃ v_v : vM, v_v = uM U14 49 10 (((V 49 10) - 0) + 1) := ⟨_, rfl⟩
                refine YY.V eU17.symm ?_
                refine x_aload_n dX10_setKerning_101 2 rfl ?_
                refine x_getI fl_X10_290 rfl rfl dX10_setKerning_102 ?_
                refine x_topi (y := ((V 49 10) - 0) + 1) (by rw [eU17, uM_hit]) ?_
                refine x_iret dX10_setKerning_105 rfl ?_
                rw [hQ]
                refine ⟨?_, ?_⟩
                · subst_vars; unfold skV skS skO; grind
                · unfold skZ skS skO; congr 2; grind
            · refine x_ldc ct_X10_98 dX10_setKerning_74 ?_
              refine x_iret dX10_setKerning_76 rfl ?_
              rw [hQ]
              refine ⟨?_, ?_⟩
              · subst_vars; unfold skV skS skO; grind
              · unfold skZ skS skO; congr 2; grind
        · refine x_iconst (v := 1) dX10_setKerning_55 (by decide) ?_
          refine x_goto 60 dX10_setKerning_56 (by decide) ?_
          refine x_isub dX10_setKerning_60 ?_
          refine x_istore 5 [(5, .int ((V 49 10) - 1)), (4, .int ((26 * l) + r)), (0, .ref (g.2.1 49)), (1, .int l), (2, .int r), (3, .int a)] dX10_setKerning_61 (by decide) rfl ?_
          refine x_iload dX10_setKerning_63 0 rfl ?_
          refine x_bipush (v := 20) dX10_setKerning_65 (by decide) ?_
          refine x_icmp_ne 77 dX10_setKerning_67 (by decide) (fun c18 => ?_) (fun c18 => ?_)
          · refine x_aload_n dX10_setKerning_77 2 rfl ?_
            refine x_getR fl_X10_29 rfl rfl dX10_setKerning_78 ?_
            refine x_iload dX10_setKerning_81 1 rfl ?_
            refine x_iload_n dX10_setKerning_83 5 rfl ?_
            have b19 : vp_in ((26 * l) + r) 676 := by exact vp_lit (N := 676) 676 (by decide) rfl (by grind) (by grind)
            refine x_iast rfl b19 dX10_setKerning_84 ?_
            obtain ⟨U20, eU20⟩ : ∃ v_v : vM, v_v = uM V 56 ((26 * l) + r).toNatClampNeg a := ⟨_, rfl⟩
            refine YY.V eU20.symm ?_
            refine x_aload_n dX10_setKerning_85 2 rfl ?_
            refine x_iload dX10_setKerning_86 0 rfl ?_
            refine x_iload_n dX10_setKerning_88 5 rfl ?_
            refine x_if_eq 96 dX10_setKerning_89 (by decide) (fun c21 => ?_) (fun c21 => ?_)
            · refine x_iconst (v := 0) dX10_setKerning_96 (by decide) ?_
              refine x_iadd dX10_setKerning_97 ?_
              refine x_putI fp_X10_290 rfl rfl dX10_setKerning_98 ?_
              obtain ⟨U22, eU22⟩ : ∃ v_v : vM, v_v = uM U20 49 10 (((V 49 10) - 1) + 0) := ⟨_, rfl⟩
              refine YY.V eU22.symm ?_
              refine x_aload_n dX10_setKerning_101 2 rfl ?_
              refine x_getI fl_X10_290 rfl rfl dX10_setKerning_102 ?_
              refine x_topi (y := ((V 49 10) - 1) + 0) (by rw [eU22, uM_hit]) ?_
              refine x_iret dX10_setKerning_105 rfl ?_
              rw [hQ]
              refine ⟨?_, ?_⟩
              · subst_vars; unfold skV skS skO; grind
              · unfold skZ skS skO; congr 2; grind
            · refine x_iconst (v := 1) dX10_setKerning_92 (by decide) ?_
              refine x_goto 97 dX10_setKerning_93 (by decide) ?_
              refine x_iadd dX10_setKerning_97 ?_
              refine x_putI fp_X10_290 rfl rfl dX10_setKerning_98 ?_
              obtain ⟨U23, eU23⟩ : ∃ v_v : vM, v_v = uM U20 49 10 (((V 49 10) - 1) + 1) := ⟨_, rfl⟩
              refine YY.V eU23.symm ?_
              refine x_aload_n dX10_setKerning_101 2 rfl ?_
              refine x_getI fl_X10_290 rfl rfl dX10_setKerning_102 ?_
              refine x_topi (y := ((V 49 10) - 1) + 1) (by rw [eU23, uM_hit]) ?_
              refine x_iret dX10_setKerning_105 rfl ?_
              rw [hQ]
              refine ⟨?_, ?_⟩
              · subst_vars; unfold skV skS skO; grind
              · unfold skZ skS skO; congr 2; grind
          · refine x_iload_n dX10_setKerning_70 5 rfl ?_
            refine x_if_eq 77 dX10_setKerning_71 (by decide) (fun c24 => ?_) (fun c24 => ?_)
            · refine x_aload_n dX10_setKerning_77 2 rfl ?_
              refine x_getR fl_X10_29 rfl rfl dX10_setKerning_78 ?_
              refine x_iload dX10_setKerning_81 1 rfl ?_
              refine x_iload_n dX10_setKerning_83 5 rfl ?_
              have b25 : vp_in ((26 * l) + r) 676 := by exact vp_lit (N := 676) 676 (by decide) rfl (by grind) (by grind)
              refine x_iast rfl b25 dX10_setKerning_84 ?_
              obtain ⟨U26, eU26⟩ : ∃ v_v : vM, v_v = uM V 56 ((26 * l) + r).toNatClampNeg a := ⟨_, rfl⟩
              refine YY.V eU26.symm ?_
              refine x_aload_n dX10_setKerning_85 2 rfl ?_
              refine x_iload dX10_setKerning_86 0 rfl ?_
              refine x_iload_n dX10_setKerning_88 5 rfl ?_
              refine x_if_eq 96 dX10_setKerning_89 (by decide) (fun c27 => ?_) (fun c27 => ?_)
              · refine x_iconst (v := 0) dX10_setKerning_96 (by decide) ?_
                refine x_iadd dX10_setKerning_97 ?_
                refine x_putI fp_X10_290 rfl rfl dX10_setKerning_98 ?_
                obtain ⟨U28, eU28⟩ : ∃ v_v : vM, v_v = uM U26 49 10 (((V 49 10) - 1) + 0) := ⟨_, rfl⟩
                refine YY.V eU28.symm ?_
                refine x_aload_n dX10_setKerning_101 2 rfl ?_
                refine x_getI fl_X10_290 rfl rfl dX10_setKerning_102 ?_
                refine x_topi (y := ((V 49 10) - 1) + 0) (by rw [eU28, uM_hit]) ?_
                refine x_iret dX10_setKerning_105 rfl ?_
                rw [hQ]
                refine ⟨?_, ?_⟩
                · subst_vars; unfold skV skS skO; grind
                · unfold skZ skS skO; congr 2; grind
              · refine x_iconst (v := 1) dX10_setKerning_92 (by decide) ?_
                refine x_goto 97 dX10_setKerning_93 (by decide) ?_
                refine x_iadd dX10_setKerning_97 ?_
                refine x_putI fp_X10_290 rfl rfl dX10_setKerning_98 ?_
                obtain ⟨U29, eU29⟩ : ∃ v_v : vM, v_v = uM U26 49 10 (((V 49 10) - 1) + 1) := ⟨_, rfl⟩
                refine YY.V eU29.symm ?_
                refine x_aload_n dX10_setKerning_101 2 rfl ?_
                refine x_getI fl_X10_290 rfl rfl dX10_setKerning_102 ?_
                refine x_topi (y := ((V 49 10) - 1) + 1) (by rw [eU29, uM_hit]) ?_
                refine x_iret dX10_setKerning_105 rfl ?_
                rw [hQ]
                refine ⟨?_, ?_⟩
                · subst_vars; unfold skV skS skO; grind
                · unfold skZ skS skO; congr 2; grind
            · refine x_ldc ct_X10_98 dX10_setKerning_74 ?_
              refine x_iret dX10_setKerning_76 rfl ?_
              rw [hQ]
              refine ⟨?_, ?_⟩
              · subst_vars; unfold skV skS skO; grind
              · unfold skZ skS skO; congr 2; grind
      · have c3n : ¬ ((-500) ≤ a ∧ a ≤ 500) := iB_0.mp c3
        refine x_ldc ct_X10_88 dX10_setKerning_30 ?_
        refine x_iret dX10_setKerning_32 rfl ?_
        rw [hQ]
        refine ⟨?_, ?_⟩
        · subst_vars; unfold skV skS skO; grind
        · unfold skZ skS skO; congr 2; grind
    · have c2n : ¬ (0 ≤ r ∧ r ≤ 25) := iB_0.mp c2
      refine x_ldc ct_X10_107 dX10_setKerning_14 ?_
      refine x_iret dX10_setKerning_16 rfl ?_
      rw [hQ]
      refine ⟨?_, ?_⟩
      · subst_vars; unfold skV skS skO; grind
      · unfold skZ skS skO; congr 2; grind
set_option maxHeartbeats 1000000 in
set_option maxRecDepth 100000 in
theorem mX10_write {g : gX} (V : vM) (l : Int32) (hd : 0 ≤ V 49 12 ∧ V 49 12 ≤ 24) : MM g jX10_write V [.ref (g.2.1 49), .int l] (dI (if (0 ≤ l ∧ l ≤ 25) ∧ ¬ V 49 12 = 24 then uM (uM V 57 (V 49 12).toNatClampNeg l) 49 12 (V 49 12 + 1) else V) (if ¬ (0 ≤ l ∧ l ≤ 25) then -1000001 else if V 49 12 = 24 then -1000004 else V 49 12 + 1)) := by
  refine MM.of plX10_write (Nat.le_of_ble_eq_true rfl) ?_
  obtain ⟨Q, hQ⟩ : ∃ Q : Option Value → vM → Prop, Q = (dI (if (0 ≤ l ∧ l ≤ 25) ∧ ¬ V 49 12 = 24 then uM (uM V 57 (V 49 12).toNatClampNeg l) 49 12 (V 49 12 + 1) else V) (if ¬ (0 ≤ l ∧ l ≤ 25) then -1000001 else if V 49 12 = 24 then -1000004 else V 49 12 + 1)) := ⟨_, rfl⟩
  rw [← hQ]
  show XX g jX10_write Q V 0 [(0, .ref (g.2.1 49)), (1, .int l)] []
  refine x_iload_n dX10_write_0 1 rfl ?_
  refine x_callS (K := jX10_isLetter) [.int l] lk_X10_287 ⟨⟨rfl, rfl⟩, Nat.le_of_ble_eq_true rfl, Nat.le_of_ble_eq_true rfl⟩ (mX10_isLetter V l) rfl (Nat.le_of_ble_eq_true rfl) rfl dX10_write_1 (kpI ?_)
  refine x_if_ne 10 dX10_write_4 (by decide) (fun c1 => ?_) (fun c1 => ?_)
  · have c1n : (0 ≤ l ∧ l ≤ 25) := Classical.not_not.mp (fun q => c1 (iB_0.mpr q))
    refine x_aload_n dX10_write_10 0 rfl ?_
    refine x_getI fl_X10_293 rfl rfl dX10_write_11 ?_
    refine x_bipush (v := 24) dX10_write_14 (by decide) ?_
    refine x_icmp_ne 22 dX10_write_16 (by decide) (fun c2 => ?_) (fun c2 => ?_)
    · refine x_aload_n dX10_write_22 0 rfl ?_
      refine x_getR fl_X10_32 rfl rfl dX10_write_23 ?_
      refine x_aload_n dX10_write_26 0 rfl ?_
      refine x_getI fl_X10_293 rfl rfl dX10_write_27 ?_
      refine x_iload_n dX10_write_30 1 rfl ?_
      have b3 : vp_in (V 49 12) 24 := by exact vp_lit (N := 24) 24 (by decide) rfl (by grind) (by grind)
      refine x_iast rfl b3 dX10_write_31 ?_
      obtain ⟨U4, eU4⟩ : ∃ v_v : vM, v_v = uM V 57 (V 49 12).toNatClampNeg l := ⟨_, rfl⟩
      refine YY.V eU4.symm ?_
      refine x_aload_n dX10_write_32 0 rfl ?_
      refine x_dup dX10_write_33 rfl ?_
      refine x_getI fl_X10_293 rfl rfl dX10_write_34 ?_
      refine x_topi (y := V 49 12) (by rw [eU4, uM_na (by decide)]) ?_
      refine x_iconst (v := 1) dX10_write_37 (by decide) ?_
      refine x_iadd dX10_write_38 ?_
      refine x_putI fp_X10_293 rfl rfl dX10_write_39 ?_
      obtain ⟨U5, eU5⟩ : ∃ v_v : vM, v_v = uM U4 49 12 ((V 49 12) + 1) := ⟨_, rfl⟩
      refine YY.V eU5.symm ?_
      refine x_aload_n dX10_write_42 0 rfl ?_
      refine x_getI fl_X10_293 rfl rfl dX10_write_43 ?_
      refine x_topi (y := (V 49 12) + 1) (by rw [eU5, uM_hit]) ?_
      refine x_iret dX10_write_46 rfl ?_
      rw [hQ]
      refine ⟨?_, ?_⟩
      · subst_vars; first | rfl | grind
      · congr 2; first | rfl | grind
    · refine x_ldc ct_X10_98 dX10_write_19 ?_
      refine x_iret dX10_write_21 rfl ?_
      rw [hQ]
      refine ⟨?_, ?_⟩
      · subst_vars; first | rfl | grind
      · congr 2; first | rfl | grind
  · have c1n : ¬ (0 ≤ l ∧ l ≤ 25) := iB_0.mp c1
    refine x_ldc ct_X10_107 dX10_write_7 ?_
    refine x_iret dX10_write_9 rfl ?_
    rw [hQ]
    refine ⟨?_, ?_⟩
    · subst_vars; first | rfl | grind
    · congr 2; first | rfl | grind
set_option maxHeartbeats 1000000 in
set_option maxRecDepth 100000 in
theorem mX10_erase {g : gX} (V : vM) : MM g jX10_erase V [.ref (g.2.1 49)] (dI (uM V 49 12 0) (V 49 12)) := by
  refine MM.of plX10_erase (Nat.le_of_ble_eq_true rfl) ?_
  obtain ⟨Q, hQ⟩ : ∃ Q : Option Value → vM → Prop, Q = (dI (uM V 49 12 0) (V 49 12)) := ⟨_, rfl⟩
  rw [← hQ]
  show XX g jX10_erase Q V 0 [(0, .ref (g.2.1 49))] []
  refine x_aload_n dX10_erase_0 0 rfl ?_
  refine x_getI fl_X10_293 rfl rfl dX10_erase_1 ?_
  refine x_istore_n 1 [(1, .int (V 49 12)), (0, .ref (g.2.1 49))] dX10_erase_4 rfl (by decide) rfl ?_
  refine x_aload_n dX10_erase_5 1 rfl ?_
  refine x_iconst (v := 0) dX10_erase_6 (by decide) ?_
  refine x_putI fp_X10_293 rfl rfl dX10_erase_7 ?_
  obtain ⟨U1, eU1⟩ : ∃ v_v : vM, v_v = uM V 49 12 0 := ⟨_, rfl⟩
  refine YY.V eU1.symm ?_
  refine x_iload_n dX10_erase_10 0 rfl ?_
  refine x_iret dX10_erase_11 rfl ?_
  rw [hQ]
  subst_vars
  exact ⟨rfl, rfl⟩
set_option maxHeartbeats 1000000 in
set_option maxRecDepth 100000 in
theorem mX10_arrange {g : gX} (V : vM) (o s md : Int32) : MM g jX10_arrange V [.ref (g.2.1 49), .int o, .int s, .int md] (dI (if (-20000 ≤ o ∧ o ≤ 100000) ∧ (-100 ≤ s ∧ s ≤ 1000) ∧ (0 ≤ md ∧ md ≤ 3) then uM (uM (uM V 49 13 o) 49 14 s) 49 15 md else V) (if (-20000 ≤ o ∧ o ≤ 100000) ∧ (-100 ≤ s ∧ s ≤ 1000) ∧ (0 ≤ md ∧ md ≤ 3) then V 49 12 else -1000002)) := by
  refine MM.of plX10_arrange (Nat.le_of_ble_eq_true rfl) ?_
  obtain ⟨Q, hQ⟩ : ∃ Q : Option Value → vM → Prop, Q = (dI (if (-20000 ≤ o ∧ o ≤ 100000) ∧ (-100 ≤ s ∧ s ≤ 1000) ∧ (0 ≤ md ∧ md ≤ 3) then uM (uM (uM V 49 13 o) 49 14 s) 49 15 md else V) (if (-20000 ≤ o ∧ o ≤ 100000) ∧ (-100 ≤ s ∧ s ≤ 1000) ∧ (0 ≤ md ∧ md ≤ 3) then V 49 12 else -1000002)) := ⟨_, rfl⟩
  rw [← hQ]
  show XX g jX10_arrange Q V 0 [(0, .ref (g.2.1 49)), (1, .int o), (2, .int s), (3, .int md)] []
  refine x_iload_n dX10_arrange_0 1 rfl ?_
  refine x_sipush (v := -20000) dX10_arrange_1 (by decide) ?_
  refine x_ldcw ct_X10_277 dX10_arrange_4 ?_
  refine x_callS (K := jX10_in) [.int o, .int (-20000), .int 100000] lk_X10_80 ⟨⟨rfl, rfl⟩, Nat.le_of_ble_eq_true rfl, Nat.le_of_ble_eq_true rfl⟩ (mX10_in V o (-20000) 100000) rfl (Nat.le_of_ble_eq_true rfl) rfl dX10_arrange_7 (kpI ?_)
  refine x_if_eq 34 dX10_arrange_10 (by decide) (fun c1 => ?_) (fun c1 => ?_)
  · have c1n : ¬ ((-20000) ≤ o ∧ o ≤ 100000) := iB_0.mp c1
    refine x_ldc ct_X10_88 dX10_arrange_34 ?_
    refine x_iret dX10_arrange_36 rfl ?_
    rw [hQ]
    refine ⟨?_, ?_⟩
    · subst_vars; first | rfl | grind
    · congr 2; first | rfl | grind
  · have c1n : ((-20000) ≤ o ∧ o ≤ 100000) := Classical.not_not.mp (fun q => c1 (iB_0.mpr q))
    refine x_iload_n dX10_arrange_13 2 rfl ?_
    refine x_bipush (v := -100) dX10_arrange_14 (by decide) ?_
    refine x_sipush (v := 1000) dX10_arrange_16 (by decide) ?_
    refine x_callS (K := jX10_in) [.int s, .int (-100), .int 1000] lk_X10_80 ⟨⟨rfl, rfl⟩, Nat.le_of_ble_eq_true rfl, Nat.le_of_ble_eq_true rfl⟩ (mX10_in V s (-100) 1000) rfl (Nat.le_of_ble_eq_true rfl) rfl dX10_arrange_19 (kpI ?_)
    refine x_if_eq 34 dX10_arrange_22 (by decide) (fun c2 => ?_) (fun c2 => ?_)
    · have c2n : ¬ ((-100) ≤ s ∧ s ≤ 1000) := iB_0.mp c2
      refine x_ldc ct_X10_88 dX10_arrange_34 ?_
      refine x_iret dX10_arrange_36 rfl ?_
      rw [hQ]
      refine ⟨?_, ?_⟩
      · subst_vars; first | rfl | grind
      · congr 2; first | rfl | grind
    · have c2n : ((-100) ≤ s ∧ s ≤ 1000) := Classical.not_not.mp (fun q => c2 (iB_0.mpr q))
      refine x_iload_n dX10_arrange_25 3 rfl ?_
      refine x_iconst (v := 0) dX10_arrange_26 (by decide) ?_
      refine x_iconst (v := 3) dX10_arrange_27 (by decide) ?_
      refine x_callS (K := jX10_in) [.int md, .int 0, .int 3] lk_X10_80 ⟨⟨rfl, rfl⟩, Nat.le_of_ble_eq_true rfl, Nat.le_of_ble_eq_true rfl⟩ (mX10_in V md 0 3) rfl (Nat.le_of_ble_eq_true rfl) rfl dX10_arrange_28 (kpI ?_)
      refine x_if_ne 37 dX10_arrange_31 (by decide) (fun c3 => ?_) (fun c3 => ?_)
      · have c3n : (0 ≤ md ∧ md ≤ 3) := Classical.not_not.mp (fun q => c3 (iB_0.mpr q))
        refine x_aload_n dX10_arrange_37 0 rfl ?_
        refine x_iload_n dX10_arrange_38 1 rfl ?_
        refine x_putI fp_X10_296 rfl rfl dX10_arrange_39 ?_
        obtain ⟨U4, eU4⟩ : ∃ v_v : vM, v_v = uM V 49 13 o := ⟨_, rfl⟩
        refine YY.V eU4.symm ?_
        refine x_aload_n dX10_arrange_42 0 rfl ?_
        refine x_iload_n dX10_arrange_43 2 rfl ?_
        refine x_putI fp_X10_299 rfl rfl dX10_arrange_44 ?_
        obtain ⟨U5, eU5⟩ : ∃ v_v : vM, v_v = uM U4 49 14 s := ⟨_, rfl⟩
        refine YY.V eU5.symm ?_
        refine x_aload_n dX10_arrange_47 0 rfl ?_
        refine x_iload_n dX10_arrange_48 3 rfl ?_
        refine x_putI fp_X10_302 rfl rfl dX10_arrange_49 ?_
        obtain ⟨U6, eU6⟩ : ∃ v_v : vM, v_v = uM U5 49 15 md := ⟨_, rfl⟩
        refine YY.V eU6.symm ?_
        refine x_aload_n dX10_arrange_52 0 rfl ?_
        refine x_getI fl_X10_293 rfl rfl dX10_arrange_53 ?_
        refine x_topi (y := V 49 12) (by rw [eU6, uM_ni (by decide), eU5, uM_ni (by decide), eU4, uM_ni (by decide)]) ?_
        refine x_iret dX10_arrange_56 rfl ?_
        rw [hQ]
        refine ⟨?_, ?_⟩
        · subst_vars; first | rfl | grind
        · congr 2; first | rfl | grind
      · have c3n : ¬ (0 ≤ md ∧ md ≤ 3) := iB_0.mp c3
        refine x_ldc ct_X10_88 dX10_arrange_34 ?_
        refine x_iret dX10_arrange_36 rfl ?_
        rw [hQ]
        refine ⟨?_, ?_⟩
        · subst_vars; first | rfl | grind
        · congr 2; first | rfl | grind
set_option maxHeartbeats 1000000 in
set_option maxRecDepth 100000 in
theorem mX10_say {g : gX} (V : vM) (c : Int32) (hd : 0 ≤ V 49 4 ∧ V 49 4 ≤ 120) : MM g jX10_say V [.ref (g.2.1 49), .int c] (dI (if (33 ≤ c ∧ c ≤ 126) ∧ ¬ V 49 4 = 120 then uM (uM V 53 (V 49 4).toNatClampNeg c) 49 4 (V 49 4 + 1) else V) (if ¬ (33 ≤ c ∧ c ≤ 126) then -1000002 else if V 49 4 = 120 then -1000004 else V 49 4 + 1)) := by
  refine MM.of plX10_say (Nat.le_of_ble_eq_true rfl) ?_
  obtain ⟨Q, hQ⟩ : ∃ Q : Option Value → vM → Prop, Q = (dI (if (33 ≤ c ∧ c ≤ 126) ∧ ¬ V 49 4 = 120 then uM (uM V 53 (V 49 4).toNatClampNeg c) 49 4 (V 49 4 + 1) else V) (if ¬ (33 ≤ c ∧ c ≤ 126) then -1000002 else if V 49 4 = 120 then -1000004 else V 49 4 + 1)) := ⟨_, rfl⟩
  rw [← hQ]
  show XX g jX10_say Q V 0 [(0, .ref (g.2.1 49)), (1, .int c)] []
  refine x_iload_n dX10_say_0 1 rfl ?_
  refine x_bipush (v := 33) dX10_say_1 (by decide) ?_
  refine x_bipush (v := 126) dX10_say_3 (by decide) ?_
  refine x_callS (K := jX10_in) [.int c, .int 33, .int 126] lk_X10_80 ⟨⟨rfl, rfl⟩, Nat.le_of_ble_eq_true rfl, Nat.le_of_ble_eq_true rfl⟩ (mX10_in V c 33 126) rfl (Nat.le_of_ble_eq_true rfl) rfl dX10_say_5 (kpI ?_)
  refine x_if_ne 14 dX10_say_8 (by decide) (fun c1 => ?_) (fun c1 => ?_)
  · have c1n : (33 ≤ c ∧ c ≤ 126) := Classical.not_not.mp (fun q => c1 (iB_0.mpr q))
    refine x_aload_n dX10_say_14 0 rfl ?_
    refine x_getI fl_X10_133 rfl rfl dX10_say_15 ?_
    refine x_bipush (v := 120) dX10_say_18 (by decide) ?_
    refine x_icmp_ne 26 dX10_say_20 (by decide) (fun c2 => ?_) (fun c2 => ?_)
    · refine x_aload_n dX10_say_26 0 rfl ?_
      refine x_getR fl_X10_20 rfl rfl dX10_say_27 ?_
      refine x_aload_n dX10_say_30 0 rfl ?_
      refine x_getI fl_X10_133 rfl rfl dX10_say_31 ?_
      refine x_iload_n dX10_say_34 1 rfl ?_
      have b3 : vp_in (V 49 4) 120 := by exact vp_lit (N := 120) 120 (by decide) rfl (by grind) (by grind)
      refine x_iast rfl b3 dX10_say_35 ?_
      obtain ⟨U4, eU4⟩ : ∃ v_v : vM, v_v = uM V 53 (V 49 4).toNatClampNeg c := ⟨_, rfl⟩
      refine YY.V eU4.symm ?_
      refine x_aload_n dX10_say_36 0 rfl ?_
      refine x_dup dX10_say_37 rfl ?_
      refine x_getI fl_X10_133 rfl rfl dX10_say_38 ?_
      refine x_topi (y := V 49 4) (by rw [eU4, uM_na (by decide)]) ?_
      refine x_iconst (v := 1) dX10_say_41 (by decide) ?_
      refine x_iadd dX10_say_42 ?_
      refine x_putI fp_X10_133 rfl rfl dX10_say_43 ?_
      obtain ⟨U5, eU5⟩ : ∃ v_v : vM, v_v = uM U4 49 4 ((V 49 4) + 1) := ⟨_, rfl⟩
      refine YY.V eU5.symm ?_
      refine x_aload_n dX10_say_46 0 rfl ?_
      refine x_getI fl_X10_133 rfl rfl dX10_say_47 ?_
      refine x_topi (y := (V 49 4) + 1) (by rw [eU5, uM_hit]) ?_
      refine x_iret dX10_say_50 rfl ?_
      rw [hQ]
      refine ⟨?_, ?_⟩
      · subst_vars; first | rfl | grind
      · congr 2; first | rfl | grind
    · refine x_ldc ct_X10_98 dX10_say_23 ?_
      refine x_iret dX10_say_25 rfl ?_
      rw [hQ]
      refine ⟨?_, ?_⟩
      · subst_vars; first | rfl | grind
      · congr 2; first | rfl | grind
  · have c1n : ¬ (33 ≤ c ∧ c ≤ 126) := iB_0.mp c1
    refine x_ldc ct_X10_88 dX10_say_11 ?_
    refine x_iret dX10_say_13 rfl ?_
    rw [hQ]
    refine ⟨?_, ?_⟩
    · subst_vars; first | rfl | grind
    · congr 2; first | rfl | grind
set_option maxHeartbeats 1000000 in
set_option maxRecDepth 100000 in
theorem mX10_wipe {g : gX} (V : vM) : MM g jX10_wipe V [.ref (g.2.1 49)] (dI (uM V 49 4 0) (V 49 4)) := by
  refine MM.of plX10_wipe (Nat.le_of_ble_eq_true rfl) ?_
  obtain ⟨Q, hQ⟩ : ∃ Q : Option Value → vM → Prop, Q = (dI (uM V 49 4 0) (V 49 4)) := ⟨_, rfl⟩
  rw [← hQ]
  show XX g jX10_wipe Q V 0 [(0, .ref (g.2.1 49))] []
  refine x_aload_n dX10_wipe_0 0 rfl ?_
  refine x_getI fl_X10_133 rfl rfl dX10_wipe_1 ?_
  refine x_istore_n 1 [(1, .int (V 49 4)), (0, .ref (g.2.1 49))] dX10_wipe_4 rfl (by decide) rfl ?_
  refine x_aload_n dX10_wipe_5 1 rfl ?_
  refine x_iconst (v := 0) dX10_wipe_6 (by decide) ?_
  refine x_putI fp_X10_133 rfl rfl dX10_wipe_7 ?_
  obtain ⟨U1, eU1⟩ : ∃ v_v : vM, v_v = uM V 49 4 0 := ⟨_, rfl⟩
  refine YY.V eU1.symm ?_
  refine x_iload_n dX10_wipe_10 0 rfl ?_
  refine x_iret dX10_wipe_11 rfl ?_
  rw [hQ]
  subst_vars
  exact ⟨rfl, rfl⟩
set_option maxHeartbeats 1000000 in
set_option maxRecDepth 100000 in
theorem mX10_count {g : gX} (V : vM) (N : Nat) (hN : N ≤ 24) (hm : V 50 168 = nI N) (hw : WF (V 50) N) (w : Int32) : MM g jX10_count V [.ref (g.2.1 49), .int w] (pI V (if w = 0 then nI N else if w = 1 then nI (cntM (kd7 (V 50)) N) else if w = 2 then V 50 169 else if w = 3 then V 49 4 else if w = 4 then V 49 12 else if w = 5 then V 49 6 else if w = 6 then V 49 10 else -1000002)) := by
  refine MM.of plX10_count (Nat.le_of_ble_eq_true rfl) ?_
  obtain ⟨Q, hQ⟩ : ∃ Q : Option Value → vM → Prop, Q = (pI V (if w = 0 then nI N else if w = 1 then nI (cntM (kd7 (V 50)) N) else if w = 2 then V 50 169 else if w = 3 then V 49 4 else if w = 4 then V 49 12 else if w = 5 then V 49 6 else if w = 6 then V 49 10 else -1000002)) := ⟨_, rfl⟩
  rw [← hQ]
  show XX g jX10_count Q V 0 [(0, .ref (g.2.1 49)), (1, .int w)] []
  refine x_iload_n dX10_count_0 1 rfl ?_
  by_cases c1 : w = 0
  · refine x_tableIn 44 dX10_count_1 (by rw [c1]; decide) (by rw [c1]; decide) (by rw [c1]; rfl) (by decide) ?_
    refine x_aload_n dX10_count_44 0 rfl ?_
    refine x_callV (K := jX10_many) [] lk_X10_89 ⟨⟨rfl, rfl⟩, Nat.le_of_ble_eq_true rfl, Nat.le_of_ble_eq_true rfl⟩ rfl rfl (mX10_many V) rfl (Nat.le_of_ble_eq_true rfl) rfl dX10_count_45 (kpI ?_)
    refine x_topi (hm) ?_
    refine x_iret dX10_count_48 rfl ?_
    rw [hQ]
    refine ⟨rfl, ?_⟩
    simp [*]
  by_cases c2 : w = 1
  · refine x_tableIn 49 dX10_count_1 (by rw [c2]; decide) (by rw [c2]; decide) (by rw [c2]; rfl) (by decide) ?_
    refine x_aload_n dX10_count_49 0 rfl ?_
    refine x_callV (K := jX10_contours) [] lk_X10_120 ⟨⟨rfl, rfl⟩, Nat.le_of_ble_eq_true rfl, Nat.le_of_ble_eq_true rfl⟩ rfl rfl (mX10_contours V N hN hm hw) rfl (Nat.le_of_ble_eq_true rfl) rfl dX10_count_50 (kpI ?_)
    refine x_iret dX10_count_53 rfl ?_
    rw [hQ]
    refine ⟨rfl, ?_⟩
    simp [*]
  by_cases c3 : w = 2
  · refine x_tableIn 54 dX10_count_1 (by rw [c3]; decide) (by rw [c3]; decide) (by rw [c3]; rfl) (by decide) ?_
    refine x_aload_n dX10_count_54 0 rfl ?_
    refine x_getR fl_X10_9 rfl rfl dX10_count_55 ?_
    refine x_sipush (v := 169) dX10_count_58 (by decide) ?_
    have q4 : (169 : Int32) = nI 169 := rfl
    refine YY.S (st' := [.int (nI 169), .ref (g.2.1 50)]) (by rw [q4]) ?_
    have b5 : vp_in (nI 169) 170 := by exact vp_in_nI (by omega) (by decide)
    refine x_iald rfl b5 dX10_count_61 ?_
    refine x_topi (y := V 50 169) (by rw [nI_clamp (by omega)]) ?_
    refine x_iret dX10_count_62 rfl ?_
    rw [hQ]
    refine ⟨rfl, ?_⟩
    simp [*]
  by_cases c6 : w = 3
  · refine x_tableIn 63 dX10_count_1 (by rw [c6]; decide) (by rw [c6]; decide) (by rw [c6]; rfl) (by decide) ?_
    refine x_aload_n dX10_count_63 0 rfl ?_
    refine x_getI fl_X10_133 rfl rfl dX10_count_64 ?_
    refine x_iret dX10_count_67 rfl ?_
    rw [hQ]
    refine ⟨rfl, ?_⟩
    simp [*]
  by_cases c7 : w = 4
  · refine x_tableIn 68 dX10_count_1 (by rw [c7]; decide) (by rw [c7]; decide) (by rw [c7]; rfl) (by decide) ?_
    refine x_aload_n dX10_count_68 0 rfl ?_
    refine x_getI fl_X10_293 rfl rfl dX10_count_69 ?_
    refine x_iret dX10_count_72 rfl ?_
    rw [hQ]
    refine ⟨rfl, ?_⟩
    simp [*]
  by_cases c8 : w = 5
  · refine x_tableIn 73 dX10_count_1 (by rw [c8]; decide) (by rw [c8]; decide) (by rw [c8]; rfl) (by decide) ?_
    refine x_aload_n dX10_count_73 0 rfl ?_
    refine x_getI fl_X10_278 rfl rfl dX10_count_74 ?_
    refine x_iret dX10_count_77 rfl ?_
    rw [hQ]
    refine ⟨rfl, ?_⟩
    simp [*]
  by_cases c9 : w = 6
  · refine x_tableIn 78 dX10_count_1 (by rw [c9]; decide) (by rw [c9]; decide) (by rw [c9]; rfl) (by decide) ?_
    refine x_aload_n dX10_count_78 0 rfl ?_
    refine x_getI fl_X10_290 rfl rfl dX10_count_79 ?_
    refine x_iret dX10_count_82 rfl ?_
    rw [hQ]
    refine ⟨rfl, ?_⟩
    simp [*]
  refine x_tableOut 83 dX10_count_1 (by have q0 : ¬ w.toInt = 0 := fun q => c1 (Int32.toInt_inj.mp (q.trans (by decide))); have q1 : ¬ w.toInt = 1 := fun q => c2 (Int32.toInt_inj.mp (q.trans (by decide))); have q2 : ¬ w.toInt = 2 := fun q => c3 (Int32.toInt_inj.mp (q.trans (by decide))); have q3 : ¬ w.toInt = 3 := fun q => c6 (Int32.toInt_inj.mp (q.trans (by decide))); have q4 : ¬ w.toInt = 4 := fun q => c7 (Int32.toInt_inj.mp (q.trans (by decide))); have q5 : ¬ w.toInt = 5 := fun q => c8 (Int32.toInt_inj.mp (q.trans (by decide))); have q6 : ¬ w.toInt = 6 := fun q => c9 (Int32.toInt_inj.mp (q.trans (by decide))); omega) (by decide) ?_
  refine x_ldc ct_X10_88 dX10_count_83 ?_
  refine x_iret dX10_count_85 rfl ?_
  rw [hQ]
  refine ⟨rfl, ?_⟩
  simp [*]
def svF (V : vM) (sl k : Nat) : Nat → Int32 := fun j => if 170 * sl ≤ j ∧ j < 170 * sl + k then V 50 (j - 170 * sl) else V 51 j
def rsF (V : vM) (sl k : Nat) : Nat → Int32 := fun j => if j < k then V 51 (170 * sl + j) else V 50 j
set_option maxHeartbeats 1000000 in
set_option maxRecDepth 100000 in
theorem mX10_save {g : gX} (V : vM) (N : Nat) (hN : N ≤ 24) (hm : V 50 168 = nI N) (sl : Int32) : MM g jX10_save V [.ref (g.2.1 49), .int sl] (dI (if 0 ≤ sl ∧ sl ≤ 1 then uM (cM V 51 (svF V sl.toNatClampNeg 170)) 52 sl.toNatClampNeg 1 else V) (if 0 ≤ sl ∧ sl ≤ 1 then nI N else -1000002)) := by
  refine MM.of plX10_save (Nat.le_of_ble_eq_true rfl) ?_
  obtain ⟨Q, hQ⟩ : ∃ Q : Option Value → vM → Prop, Q = (dI (if 0 ≤ sl ∧ sl ≤ 1 then uM (cM V 51 (svF V sl.toNatClampNeg 170)) 52 sl.toNatClampNeg 1 else V) (if 0 ≤ sl ∧ sl ≤ 1 then nI N else -1000002)) := ⟨_, rfl⟩
  rw [← hQ]
  show XX g jX10_save Q V 0 [(0, .ref (g.2.1 49)), (1, .int sl)] []
  refine x_iload_n dX10_save_0 1 rfl ?_
  refine x_iconst (v := 0) dX10_save_1 (by decide) ?_
  refine x_iconst (v := 1) dX10_save_2 (by decide) ?_
  refine x_callS (K := jX10_in) [.int sl, .int 0, .int 1] lk_X10_80 ⟨⟨rfl, rfl⟩, Nat.le_of_ble_eq_true rfl, Nat.le_of_ble_eq_true rfl⟩ (mX10_in V sl 0 1) rfl (Nat.le_of_ble_eq_true rfl) rfl dX10_save_3 (kpI ?_)
  refine x_if_ne 12 dX10_save_6 (by decide) (fun c1 => ?_) (fun c1 => ?_)
  · have c1n : (0 ≤ sl ∧ sl ≤ 1) := Classical.not_not.mp (fun q => c1 (iB_0.mpr q))
    obtain ⟨sn, hsn, esn⟩ : ∃ j : Nat, j < 2 ∧ sl = nI j := vp_in_of (vp_lit (N := 2) 2 (by decide) rfl (by grind) (by grind)) (by decide)
    subst esn
    refine x_iconst (v := 0) dX10_save_12 (by decide) ?_
    refine x_istore_n 2 [(2, .int 0), (0, .ref (g.2.1 49)), (1, .int (nI sn))] dX10_save_13 rfl (by decide) rfl ?_
    have lp2 : ∀ (fu : Nat) (k : Nat) (U : vM), (k ≤ 170) → (U = cM V 51 (svF V sn k)) → (170 - k) < fu → XX g jX10_save Q U 14 [(2, .int (nI k)), (0, .ref (g.2.1 49)), (1, .int (nI sn))] [] := by
      intro fu
      induction fu with
      | zero => intro _ _ _ _ hmz; exact absurd hmz (Nat.not_lt_zero _)
      | succ fu ih =>
        intro k U hk hU hmz
        have hUm : U 50 168 = nI N := by rw [hU, cM_at, if_neg (by decide)]; exact hm
        have hU50 : U 50 k = V 50 k := by rw [hU, cM_at, if_neg (by decide)]
        refine x_iload_n dX10_save_14 0 rfl ?_
        refine x_sipush (v := 170) dX10_save_15 (by decide) ?_
        refine x_icmp_ge 45 dX10_save_18 (by decide) (fun c3 => ?_) (fun c3 => ?_)
        · have c3n : 170 ≤ k := (nl_le (a := 170) (b := k) (rfl) (rfl) (by omega) (by omega)).mp c3
          refine x_aload_n dX10_save_45 1 rfl ?_
          refine x_getR fl_X10_16 rfl rfl dX10_save_46 ?_
          refine x_iload_n dX10_save_49 2 rfl ?_
          refine x_iconst (v := 1) dX10_save_50 (by decide) ?_
          have b4 : vp_in (nI sn) 2 := by exact vp_in_nI (by omega) (by decide)
          refine x_zast rfl b4 dX10_save_51 ?_
          refine YY.V (V' := uM U 52 sn (vp_nar .boolean 1)) (by rw [nI_clamp (by omega)]) ?_
          obtain ⟨U5, eU5⟩ : ∃ v_v : vM, v_v = uM U 52 sn (vp_nar .boolean 1) := ⟨_, rfl⟩
          refine YY.V eU5.symm ?_
          refine x_aload_n dX10_save_52 1 rfl ?_
          refine x_callV (K := jX10_many) [] lk_X10_89 ⟨⟨rfl, rfl⟩, Nat.le_of_ble_eq_true rfl, Nat.le_of_ble_eq_true rfl⟩ rfl rfl (mX10_many U5) rfl (Nat.le_of_ble_eq_true rfl) rfl dX10_save_53 (kpI ?_)
          refine x_topi (y := U 50 168) (by rw [eU5, uM_na (by decide)]) ?_
          refine x_iret dX10_save_56 rfl ?_
          rw [hQ, hUm, if_pos (by assumption), if_pos (by assumption), nI_clamp (by omega)]
          refine ⟨?_, rfl⟩
          rw [eU5, hU, show k = 170 by omega]
          rfl
        · have c3n : k < 170 := Nat.not_le.mp (fun q => c3 ((nl_le (a := 170) (b := k) (rfl) (rfl) (by omega) (by omega)).mpr q))
          refine x_aload_n dX10_save_21 1 rfl ?_
          refine x_getR fl_X10_13 rfl rfl dX10_save_22 ?_
          refine x_sipush (v := 170) dX10_save_25 (by decide) ?_
          refine x_iload_n dX10_save_28 2 rfl ?_
          refine x_imul dX10_save_29 ?_
          refine x_iload_n dX10_save_30 0 rfl ?_
          refine x_iadd dX10_save_31 ?_
          refine x_aload_n dX10_save_32 1 rfl ?_
          refine x_getR fl_X10_9 rfl rfl dX10_save_33 ?_
          refine x_iload_n dX10_save_36 0 rfl ?_
          have b6 : vp_in (nI k) 170 := by exact vp_in_nI (by omega) (by decide)
          refine x_iald rfl b6 dX10_save_37 ?_
          refine x_topi (y := U 50 k) (by rw [nI_clamp (by omega)]) ?_
          have q7 : ((170 * (nI sn)) + (nI k) : Int32) = nI ((170 * sn) + k) := nadd (nmul (rfl) (rfl)) (rfl)
          refine YY.S (st' := [.int (U 50 k), .int (nI ((170 * sn) + k)), .ref (g.2.1 51)]) (by rw [q7]) ?_
          have b8 : vp_in (nI ((170 * sn) + k)) 340 := by exact vp_in_nI (by omega) (by decide)
          refine x_iast rfl b8 dX10_save_38 ?_
          refine YY.V (V' := uM U 51 ((170 * sn) + k) (U 50 k)) (by rw [nI_clamp (by omega)]) ?_
          obtain ⟨U9, eU9⟩ : ∃ v_v : vM, v_v = uM U 51 ((170 * sn) + k) (U 50 k) := ⟨_, rfl⟩
          refine YY.V eU9.symm ?_
          refine x_iinc 2 (v := (nI k) + 1) 0 [(2, .int ((nI k) + 1)), (0, .ref (g.2.1 49)), (1, .int (nI sn))] dX10_save_39 rfl (by rfl) (by decide) rfl ?_
          refine x_goto 14 dX10_save_42 (by decide) ?_
          refine YY.L (lv' := [(2, .int (nI (k + 1))), (0, .ref (g.2.1 49)), (1, .int (nI sn))]) (by first | rfl | (simp only [nI_1]; done) | (simp only [← nI_add]; rfl)) ?_
          exact ih (k + 1) U9 (by omega) (by subst_vars; funext q j; simp only [uM_at, cM_at, svF] at *; grind) (by omega)
    refine YY.L (lv' := [(2, .int (nI 0)), (0, .ref (g.2.1 49)), (1, .int (nI sn))]) (by first | rfl | simp) ?_
    exact lp2 _ 0 V (by omega) (by funext q j; simp only [cM_at, svF]; grind) (Nat.lt_succ_self _)
  · have c1n : ¬ (0 ≤ sl ∧ sl ≤ 1) := iB_0.mp c1
    refine x_ldc ct_X10_88 dX10_save_9 ?_
    refine x_iret dX10_save_11 rfl ?_
    rw [hQ]
    exact ⟨by rw [if_neg (by assumption)], by rw [if_neg (by assumption)]⟩
set_option maxHeartbeats 1000000 in
set_option maxRecDepth 100000 in
theorem mX10_restore {g : gX} (V : vM) (N : Nat) (hN : N ≤ 24) (hm : V 50 168 = nI N) (sl : Int32) (hsv : ∀ sn, sn < 2 → ¬ V 52 sn = 0 → ∃ N2, N2 ≤ 24 ∧ V 51 (170 * sn + 168) = nI N2) : MM g jX10_restore V [.ref (g.2.1 49), .int sl] (dI (if (0 ≤ sl ∧ sl ≤ 1) ∧ ¬ V 52 sl.toNatClampNeg = 0 then cM V 50 (rsF V sl.toNatClampNeg 170) else V) (if ¬ (0 ≤ sl ∧ sl ≤ 1) then -1000002 else if V 52 sl.toNatClampNeg = 0 then -1000005 else V 51 (170 * sl.toNatClampNeg + 168))) := by
  refine MM.of plX10_restore (Nat.le_of_ble_eq_true rfl) ?_
  obtain ⟨Q, hQ⟩ : ∃ Q : Option Value → vM → Prop, Q = (dI (if (0 ≤ sl ∧ sl ≤ 1) ∧ ¬ V 52 sl.toNatClampNeg = 0 then cM V 50 (rsF V sl.toNatClampNeg 170) else V) (if ¬ (0 ≤ sl ∧ sl ≤ 1) then -1000002 else if V 52 sl.toNatClampNeg = 0 then -1000005 else V 51 (170 * sl.toNatClampNeg + 168))) := ⟨_, rfl⟩
  rw [← hQ]
  show XX g jX10_restore Q V 0 [(0, .ref (g.2.1 49)), (1, .int sl)] []
  refine x_iload_n dX10_restore_0 1 rfl ?_
  refine x_iconst (v := 0) dX10_restore_1 (by decide) ?_
  refine x_iconst (v := 1) dX10_restore_2 (by decide) ?_
  refine x_callS (K := jX10_in) [.int sl, .int 0, .int 1] lk_X10_80 ⟨⟨rfl, rfl⟩, Nat.le_of_ble_eq_true rfl, Nat.le_of_ble_eq_true rfl⟩ (mX10_in V sl 0 1) rfl (Nat.le_of_ble_eq_true rfl) rfl dX10_restore_3 (kpI ?_)
  refine x_if_ne 12 dX10_restore_6 (by decide) (fun c1 => ?_) (fun c1 => ?_)
  · have c1n : (0 ≤ sl ∧ sl ≤ 1) := Classical.not_not.mp (fun q => c1 (iB_0.mpr q))
    obtain ⟨sn, hsn, esn⟩ : ∃ j : Nat, j < 2 ∧ sl = nI j := vp_in_of (vp_lit (N := 2) 2 (by decide) rfl (by grind) (by grind)) (by decide)
    subst esn
    refine x_aload_n dX10_restore_12 0 rfl ?_
    refine x_getR fl_X10_16 rfl rfl dX10_restore_13 ?_
    refine x_iload_n dX10_restore_16 1 rfl ?_
    have b2 : vp_in (nI sn) 2 := by exact vp_in_nI (by omega) (by decide)
    refine x_zald rfl b2 dX10_restore_17 ?_
    refine x_topi (y := V 52 sn) (by rw [nI_clamp (by omega)]) ?_
    refine x_if_ne 24 dX10_restore_18 (by decide) (fun c3 => ?_) (fun c3 => ?_)
    · refine x_iconst (v := 0) dX10_restore_24 (by decide) ?_
      refine x_istore_n 2 [(2, .int 0), (0, .ref (g.2.1 49)), (1, .int (nI sn))] dX10_restore_25 rfl (by decide) rfl ?_
      have lp4 : ∀ (fu : Nat) (k : Nat) (U : vM), (k ≤ 170) → (U = cM V 50 (rsF V sn k)) → (170 - k) < fu → XX g jX10_restore Q U 26 [(2, .int (nI k)), (0, .ref (g.2.1 49)), (1, .int (nI sn))] [] := by
        intro fu
        induction fu with
        | zero => intro _ _ _ _ hmz; exact absurd hmz (Nat.not_lt_zero _)
        | succ fu ih =>
          intro k U hk hU hmz
          have hU51 : ∀ j, U 51 j = V 51 j := fun j => by rw [hU, cM_at, if_neg (by decide)]
          have hUend : 170 ≤ k → U 50 168 = V 51 (170 * sn + 168) := fun q => by rw [hU, cM_at, if_pos rfl]; unfold rsF; rw [if_pos (by omega)]
          refine x_iload_n dX10_restore_26 0 rfl ?_
          refine x_sipush (v := 170) dX10_restore_27 (by decide) ?_
          refine x_icmp_ge 57 dX10_restore_30 (by decide) (fun c5 => ?_) (fun c5 => ?_)
          · have c5n : 170 ≤ k := (nl_le (a := 170) (b := k) (rfl) (rfl) (by omega) (by omega)).mp c5
            refine x_aload_n dX10_restore_57 1 rfl ?_
            refine x_callV (K := jX10_many) [] lk_X10_89 ⟨⟨rfl, rfl⟩, Nat.le_of_ble_eq_true rfl, Nat.le_of_ble_eq_true rfl⟩ rfl rfl (mX10_many U) rfl (Nat.le_of_ble_eq_true rfl) rfl dX10_restore_58 (kpI ?_)
            refine x_iret dX10_restore_61 rfl ?_
            rw [hQ, hUend (by assumption), nI_clamp (by omega), if_pos ⟨by assumption, by assumption⟩, if_neg (fun q => q (by assumption)), if_neg (by assumption)]
            refine ⟨?_, rfl⟩
            rw [hU, show k = 170 by omega]
          · have c5n : k < 170 := Nat.not_le.mp (fun q => c5 ((nl_le (a := 170) (b := k) (rfl) (rfl) (by omega) (by omega)).mpr q))
            refine x_aload_n dX10_restore_33 1 rfl ?_
            refine x_getR fl_X10_9 rfl rfl dX10_restore_34 ?_
            refine x_iload_n dX10_restore_37 0 rfl ?_
            refine x_aload_n dX10_restore_38 1 rfl ?_
            refine x_getR fl_X10_13 rfl rfl dX10_restore_39 ?_
            refine x_sipush (v := 170) dX10_restore_42 (by decide) ?_
            refine x_iload_n dX10_restore_45 2 rfl ?_
            refine x_imul dX10_restore_46 ?_
            refine x_iload_n dX10_restore_47 0 rfl ?_
            refine x_iadd dX10_restore_48 ?_
            have q6 : ((170 * (nI sn)) + (nI k) : Int32) = nI ((170 * sn) + k) := nadd (nmul (rfl) (rfl)) (rfl)
            refine YY.S (st' := [.int (nI ((170 * sn) + k)), .ref (g.2.1 51), .int (nI k), .ref (g.2.1 50)]) (by rw [q6]) ?_
            have b7 : vp_in (nI ((170 * sn) + k)) 340 := by exact vp_in_nI (by omega) (by decide)
            refine x_iald rfl b7 dX10_restore_49 ?_
            refine x_topi (y := U 51 ((170 * sn) + k)) (by rw [nI_clamp (by omega)]) ?_
            have b8 : vp_in (nI k) 170 := by exact vp_in_nI (by omega) (by decide)
            refine x_iast rfl b8 dX10_restore_50 ?_
            refine YY.V (V' := uM U 50 k (U 51 ((170 * sn) + k))) (by rw [nI_clamp (by omega)]) ?_
            obtain ⟨U9, eU9⟩ : ∃ v_v : vM, v_v = uM U 50 k (U 51 ((170 * sn) + k)) := ⟨_, rfl⟩
            refine YY.V eU9.symm ?_
            refine x_iinc 2 (v := (nI k) + 1) 0 [(2, .int ((nI k) + 1)), (0, .ref (g.2.1 49)), (1, .int (nI sn))] dX10_restore_51 rfl (by rfl) (by decide) rfl ?_
            refine x_goto 26 dX10_restore_54 (by decide) ?_
            refine YY.L (lv' := [(2, .int (nI (k + 1))), (0, .ref (g.2.1 49)), (1, .int (nI sn))]) (by first | rfl | (simp only [nI_1]; done) | (simp only [← nI_add]; rfl)) ?_
            exact ih (k + 1) U9 (by omega) (by subst_vars; funext q j; simp only [uM_at, cM_at, rsF] at *; grind) (by omega)
      refine YY.L (lv' := [(2, .int (nI 0)), (0, .ref (g.2.1 49)), (1, .int (nI sn))]) (by first | rfl | simp) ?_
      exact lp4 _ 0 V (by omega) (by funext q j; simp only [cM_at, rsF]; grind) (Nat.lt_succ_self _)
    · refine x_ldc ct_X10_97 dX10_restore_21 ?_
      refine x_iret dX10_restore_23 rfl ?_
      rw [hQ]
      rw [nI_clamp (by omega), if_neg (fun q => q.2 (by assumption)), if_neg (fun q => q (by assumption)), if_pos (by assumption)]
      exact ⟨rfl, rfl⟩
  · have c1n : ¬ (0 ≤ sl ∧ sl ≤ 1) := iB_0.mp c1
    refine x_ldc ct_X10_88 dX10_restore_9 ?_
    refine x_iret dX10_restore_11 rfl ?_
    rw [hQ]
    exact ⟨by rw [if_neg (fun q => absurd q.1 (by assumption))], by rw [if_pos (by assumption)]⟩
set_option maxHeartbeats 1000000 in
set_option maxRecDepth 100000 in
theorem mX10_widthOf {g : gX} (V : vM) (i : Nat) (hi : i < 24) (hl : 0 ≤ V 57 i ∧ V 57 i ≤ 25) : MM g jX10_widthOf V [.ref (g.2.1 49), .int (nI i)] (pI V (V 55 (V 57 i).toNatClampNeg)) := by
  refine MM.of plX10_widthOf (Nat.le_of_ble_eq_true rfl) ?_
  obtain ⟨Q, hQ⟩ : ∃ Q : Option Value → vM → Prop, Q = (pI V (V 55 (V 57 i).toNatClampNeg)) := ⟨_, rfl⟩
  rw [← hQ]
  show XX g jX10_widthOf Q V 0 [(0, .ref (g.2.1 49)), (1, .int (nI i))] []
  refine x_aload_n dX10_widthOf_0 0 rfl ?_
  refine x_getR fl_X10_26 rfl rfl dX10_widthOf_1 ?_
  refine x_aload_n dX10_widthOf_4 0 rfl ?_
  refine x_getR fl_X10_32 rfl rfl dX10_widthOf_5 ?_
  refine x_iload_n dX10_widthOf_8 1 rfl ?_
  have b1 : vp_in (nI i) 24 := by exact vp_in_nI (by omega) (by decide)
  refine x_iald rfl b1 dX10_widthOf_9 ?_
  refine x_topi (y := V 57 i) (by rw [nI_clamp (by omega)]) ?_
  have b2 : vp_in (V 57 i) 26 := by exact vp_lit (N := 26) 26 (by decide) rfl (by grind) (by grind)
  refine x_iald rfl b2 dX10_widthOf_10 ?_
  refine x_iret dX10_widthOf_11 rfl ?_
  rw [hQ]
  exact ⟨rfl, rfl⟩
set_option maxHeartbeats 1000000 in
set_option maxRecDepth 100000 in
theorem mX10_advance {g : gX} (V : vM) (i n : Nat) (hi : i < n) (hn : n ≤ 24) (hm : V 49 12 = nI n) (hl : ∀ j, j < n → 0 ≤ V 57 j ∧ V 57 j ≤ 25) : MM g jX10_advance V [.ref (g.2.1 49), .int (nI i)] (pI V (V 55 (V 57 i).toNatClampNeg + V 49 14 + if i + 1 < n then V 56 (26 * V 57 i + V 57 (i + 1)).toNatClampNeg else 0)) := by
  refine MM.of plX10_advance (Nat.le_of_ble_eq_true rfl) ?_
  obtain ⟨Q, hQ⟩ : ∃ Q : Option Value → vM → Prop, Q = (pI V (V 55 (V 57 i).toNatClampNeg + V 49 14 + if i + 1 < n then V 56 (26 * V 57 i + V 57 (i + 1)).toNatClampNeg else 0)) := ⟨_, rfl⟩
  rw [← hQ]
  show XX g jX10_advance Q V 0 [(0, .ref (g.2.1 49)), (1, .int (nI i))] []
  refine x_aload_n dX10_advance_0 0 rfl ?_
  refine x_iload_n dX10_advance_1 1 rfl ?_
  refine x_callV (K := jX10_widthOf) [.int (nI i)] lk_X10_305 ⟨⟨rfl, rfl⟩, Nat.le_of_ble_eq_true rfl, Nat.le_of_ble_eq_true rfl⟩ rfl rfl (mX10_widthOf V i (by omega) (hl i (by omega))) rfl (Nat.le_of_ble_eq_true rfl) rfl dX10_advance_2 (kpI ?_)
  refine x_aload_n dX10_advance_5 0 rfl ?_
  refine x_getI fl_X10_299 rfl rfl dX10_advance_6 ?_
  refine x_iadd dX10_advance_9 ?_
  refine x_iload_n dX10_advance_10 1 rfl ?_
  refine x_iconst (v := 1) dX10_advance_11 (by decide) ?_
  refine x_iadd dX10_advance_12 ?_
  refine x_aload_n dX10_advance_13 0 rfl ?_
  refine x_getI fl_X10_293 rfl rfl dX10_advance_14 ?_
  refine x_topi (hm) ?_
  refine x_icmp_ge 46 dX10_advance_17 (by decide) (fun c1 => ?_) (fun c1 => ?_)
  · have c1n : n ≤ i + 1 := (nl_le (a := n) (b := i + 1) (rfl) (nadd (rfl) (rfl)) (by omega) (by omega)).mp c1
    refine x_iconst (v := 0) dX10_advance_46 (by decide) ?_
    refine x_iadd dX10_advance_47 ?_
    refine x_iret dX10_advance_48 rfl ?_
    rw [hQ]
    refine ⟨rfl, ?_⟩
    first | rw [if_pos (by omega)] | rw [if_neg (by omega)]
  · have c1n : i + 1 < n := Nat.not_le.mp (fun q => c1 ((nl_le (a := n) (b := i + 1) (rfl) (nadd (rfl) (rfl)) (by omega) (by omega)).mpr q))
    refine x_aload_n dX10_advance_20 0 rfl ?_
    refine x_getR fl_X10_29 rfl rfl dX10_advance_21 ?_
    refine x_bipush (v := 26) dX10_advance_24 (by decide) ?_
    refine x_aload_n dX10_advance_26 0 rfl ?_
    refine x_getR fl_X10_32 rfl rfl dX10_advance_27 ?_
    refine x_iload_n dX10_advance_30 1 rfl ?_
    have b2 : vp_in (nI i) 24 := by exact vp_in_nI (by omega) (by decide)
    refine x_iald rfl b2 dX10_advance_31 ?_
    refine x_topi (y := V 57 i) (by rw [nI_clamp (by omega)]) ?_
    refine x_imul dX10_advance_32 ?_
    refine x_aload_n dX10_advance_33 0 rfl ?_
    refine x_getR fl_X10_32 rfl rfl dX10_advance_34 ?_
    refine x_iload_n dX10_advance_37 1 rfl ?_
    refine x_iconst (v := 1) dX10_advance_38 (by decide) ?_
    refine x_iadd dX10_advance_39 ?_
    have q3 : ((nI i) + 1 : Int32) = nI (i + 1) := nadd (rfl) (rfl)
    refine YY.S (st' := [.int (nI (i + 1)), .ref (g.2.1 57), .int (26 * (V 57 i)), .ref (g.2.1 56), .int ((V 55 (V 57 i).toNatClampNeg) + (V 49 14))]) (by rw [q3]) ?_
    have b4 : vp_in (nI (i + 1)) 24 := by exact vp_in_nI (by omega) (by decide)
    refine x_iald rfl b4 dX10_advance_40 ?_
    refine x_topi (y := V 57 (i + 1)) (by rw [nI_clamp (by omega)]) ?_
    refine x_iadd dX10_advance_41 ?_
    have b5 : vp_in ((26 * (V 57 i)) + (V 57 (i + 1))) 676 := by exact vp_lit (N := 676) 676 (by decide) rfl (by grind) (by grind)
    refine x_iald rfl b5 dX10_advance_42 ?_
    refine x_goto 47 dX10_advance_43 (by decide) ?_
    refine x_iadd dX10_advance_47 ?_
    refine x_iret dX10_advance_48 rfl ?_
    rw [hQ]
    refine ⟨rfl, ?_⟩
    first | rw [if_pos (by omega)] | rw [if_neg (by omega)]
set_option maxHeartbeats 1000000 in
set_option maxRecDepth 100000 in
theorem mX10_spellSign {g : gX} (V : vM) (n : Nat) (hn : n < 1200) (hm : V 49 28 = nI n) (c : Int32) : MM g jX10_spellSign V [.ref (g.2.1 49), .int c] (dV (uM (uM V 61 n c) 49 28 (nI (n + 1)))) := by
  refine MM.of plX10_spellSign (Nat.le_of_ble_eq_true rfl) ?_
  obtain ⟨Q, hQ⟩ : ∃ Q : Option Value → vM → Prop, Q = (dV (uM (uM V 61 n c) 49 28 (nI (n + 1)))) := ⟨_, rfl⟩
  rw [← hQ]
  show XX g jX10_spellSign Q V 0 [(0, .ref (g.2.1 49)), (1, .int c)] []
  refine x_aload_n dX10_spellSign_0 0 rfl ?_
  refine x_getR fl_X10_44 rfl rfl dX10_spellSign_1 ?_
  refine x_aload_n dX10_spellSign_4 0 rfl ?_
  refine x_getI fl_X10_188 rfl rfl dX10_spellSign_5 ?_
  refine x_topi (hm) ?_
  refine x_iload_n dX10_spellSign_8 1 rfl ?_
  have b1 : vp_in (nI n) 1200 := by exact vp_in_nI (by omega) (by decide)
  refine x_iast rfl b1 dX10_spellSign_9 ?_
  refine YY.V (V' := uM V 61 n c) (by rw [nI_clamp (by omega)]) ?_
  obtain ⟨U2, eU2⟩ : ∃ v_v : vM, v_v = uM V 61 n c := ⟨_, rfl⟩
  refine YY.V eU2.symm ?_
  refine x_aload_n dX10_spellSign_10 0 rfl ?_
  refine x_dup dX10_spellSign_11 rfl ?_
  refine x_getI fl_X10_188 rfl rfl dX10_spellSign_12 ?_
  refine x_topi (y := V 49 28) (by rw [eU2, uM_na (by decide)]) ?_
  refine x_topi (hm) ?_
  refine x_iconst (v := 1) dX10_spellSign_15 (by decide) ?_
  refine x_iadd dX10_spellSign_16 ?_
  refine x_putI fp_X10_188 rfl rfl dX10_spellSign_17 ?_
  obtain ⟨U3, eU3⟩ : ∃ v_v : vM, v_v = uM U2 49 28 ((nI n) + 1) := ⟨_, rfl⟩
  refine YY.V eU3.symm ?_
  refine x_vret dX10_spellSign_20 rfl ?_
  rw [hQ]
  subst_vars
  exact ⟨by rw [nI_1], rfl⟩
set_option maxHeartbeats 1000000 in
set_option maxRecDepth 100000 in
theorem mX10_sign {g : gX} (V : vM) (i n : Nat) (hn : n ≤ 120) (hi : i ≤ n) (ha : V 49 18 = nI i) (hp : V 49 4 = nI n) : MM g jX10_sign V [.ref (g.2.1 49)] (pI V (if i < n then V 53 i else 0)) := by
  refine MM.of plX10_sign (Nat.le_of_ble_eq_true rfl) ?_
  obtain ⟨Q, hQ⟩ : ∃ Q : Option Value → vM → Prop, Q = (pI V (if i < n then V 53 i else 0)) := ⟨_, rfl⟩
  rw [← hQ]
  show XX g jX10_sign Q V 0 [(0, .ref (g.2.1 49))] []
  refine x_aload_n dX10_sign_0 0 rfl ?_
  refine x_getI fl_X10_137 rfl rfl dX10_sign_1 ?_
  refine x_topi (ha) ?_
  refine x_aload_n dX10_sign_4 0 rfl ?_
  refine x_getI fl_X10_133 rfl rfl dX10_sign_5 ?_
  refine x_topi (hp) ?_
  refine x_icmp_ge 23 dX10_sign_8 (by decide) (fun c1 => ?_) (fun c1 => ?_)
  · have c1n : n ≤ i := (nl_le (a := n) (b := i) (rfl) (rfl) (by omega) (by omega)).mp c1
    refine x_iconst (v := 0) dX10_sign_23 (by decide) ?_
    refine x_iret dX10_sign_24 rfl ?_
    rw [hQ]
    refine ⟨rfl, ?_⟩
    first | rw [if_pos (by omega)] | rw [if_neg (by omega)]
  · have c1n : i < n := Nat.not_le.mp (fun q => c1 ((nl_le (a := n) (b := i) (rfl) (rfl) (by omega) (by omega)).mpr q))
    refine x_aload_n dX10_sign_11 0 rfl ?_
    refine x_getR fl_X10_20 rfl rfl dX10_sign_12 ?_
    refine x_aload_n dX10_sign_15 0 rfl ?_
    refine x_getI fl_X10_137 rfl rfl dX10_sign_16 ?_
    refine x_topi (ha) ?_
    have b2 : vp_in (nI i) 120 := by exact vp_in_nI (by omega) (by decide)
    refine x_iald rfl b2 dX10_sign_19 ?_
    refine x_topi (y := V 53 i) (by rw [nI_clamp (by omega)]) ?_
    refine x_goto 24 dX10_sign_20 (by decide) ?_
    refine x_iret dX10_sign_24 rfl ?_
    rw [hQ]
    refine ⟨rfl, ?_⟩
    first | rw [if_pos (by omega)] | rw [if_neg (by omega)]
