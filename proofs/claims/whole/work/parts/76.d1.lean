set_option maxHeartbeats 1000000 in
set_option maxRecDepth 100000 in
theorem mX0_has {g : gX} (V : vM) (i : Int32) : MM g jX0_has V [.ref (g.2.1 8), .int i] (pI V (iB (0 ≤ i ∧ i < V 8 3 ∧ i < 1000))) := by
  refine MM.of plX0_has (Nat.le_of_ble_eq_true rfl) ?_
  obtain ⟨Q, hQ⟩ : ∃ Q : Option Value → vM → Prop, Q = (pI V (iB (0 ≤ i ∧ i < V 8 3 ∧ i < 1000))) := ⟨_, rfl⟩
  rw [← hQ]
  show XX g jX0_has Q V 0 [(0, .ref (g.2.1 8)), (1, .int i)] []
  refine x_iload_n dX0_has_0 1 rfl ?_
  have jn3 : ∀ (z2 : Int32), ((i < 0 ∧ z2 = 0) ∨ (¬ i < 0 ∧ (V 8 3) ≤ i ∧ z2 = 0) ∨ (¬ i < 0 ∧ ¬ (V 8 3) ≤ i ∧ 1000 ≤ i ∧ z2 = 0) ∨ (¬ i < 0 ∧ ¬ (V 8 3) ≤ i ∧ ¬ 1000 ≤ i ∧ z2 = 1)) → XX g jX0_has Q V 24 [(0, .ref (g.2.1 8)), (1, .int i)] [.int z2] := by
    intro z2 hj4
    refine x_zret dX0_has_24 rfl (by exact nar01 (by first | exact Or.inl rfl | exact Or.inr rfl | grind)) ?_
    rw [hQ]
    refine ⟨rfl, ?_⟩
    congr 2
    unfold iB
    grind
  refine x_if_lt 23 dX0_has_1 (by decide) (fun c1 => ?_) (fun c1 => ?_)
  · refine x_iconst (v := 0) dX0_has_23 (by decide) ?_
    exact jn3 _ (Or.inl ⟨c1, rfl⟩)
  · refine x_iload_n dX0_has_4 1 rfl ?_
    refine x_aload_n dX0_has_5 0 rfl ?_
    refine x_getI fl_X0_21 rfl rfl dX0_has_6 ?_
    refine x_icmp_ge 23 dX0_has_9 (by decide) (fun c6 => ?_) (fun c6 => ?_)
    · refine x_iconst (v := 0) dX0_has_23 (by decide) ?_
      exact jn3 _ (Or.inr (Or.inl ⟨c1, c6, rfl⟩))
    · refine x_iload_n dX0_has_12 1 rfl ?_
      refine x_sipush (v := 1000) dX0_has_13 (by decide) ?_
      refine x_icmp_ge 23 dX0_has_16 (by decide) (fun c7 => ?_) (fun c7 => ?_)
      · refine x_iconst (v := 0) dX0_has_23 (by decide) ?_
        exact jn3 _ (Or.inr (Or.inr (Or.inl ⟨c1, c6, c7, rfl⟩)))
      · refine x_iconst (v := 1) dX0_has_19 (by decide) ?_
        refine x_goto 24 dX0_has_20 (by decide) ?_
        exact jn3 _ (Or.inr (Or.inr (Or.inr ⟨c1, c6, c7, rfl⟩)))
set_option maxHeartbeats 1000000 in
set_option maxRecDepth 100000 in
theorem mX0_beginOf {g : gX} (V : vM) (i : Int32) : MM g jX0_beginOf V [.ref (g.2.1 8), .int i] (pI V (if 0 ≤ i ∧ i < V 8 3 ∧ i < 1000 then V 29 i.toNatClampNeg else -1000006)) := by
  refine MM.of plX0_beginOf (Nat.le_of_ble_eq_true rfl) ?_
  obtain ⟨Q, hQ⟩ : ∃ Q : Option Value → vM → Prop, Q = (pI V (if 0 ≤ i ∧ i < V 8 3 ∧ i < 1000 then V 29 i.toNatClampNeg else -1000006)) := ⟨_, rfl⟩
  rw [← hQ]
  show XX g jX0_beginOf Q V 0 [(0, .ref (g.2.1 8)), (1, .int i)] []
  refine x_aload_n dX0_beginOf_0 0 rfl ?_
  refine x_iload_n dX0_beginOf_1 1 rfl ?_
  refine x_callV (K := jX0_has) [.int i] lk_X0_47 ⟨⟨rfl, rfl⟩, Nat.le_of_ble_eq_true rfl, Nat.le_of_ble_eq_true rfl⟩ rfl rfl (mX0_has V i) rfl (Nat.le_of_ble_eq_true rfl) rfl dX0_beginOf_2 (kpI ?_)
  refine x_if_eq 17 dX0_beginOf_5 (by decide) (fun c1 => ?_) (fun c1 => ?_)
  · have c1n : ¬ (0 ≤ i ∧ i < V 8 3 ∧ i < 1000) := iB_0.mp c1
    refine x_ldc ct_X0_51 dX0_beginOf_17 ?_
    refine x_iret dX0_beginOf_19 rfl ?_
    rw [hQ]
    refine ⟨rfl, ?_⟩
    first | rw [if_pos (by assumption)] | rw [if_neg (by assumption)]
  · have c1n : (0 ≤ i ∧ i < V 8 3 ∧ i < 1000) := Classical.not_not.mp (fun q => c1 (iB_0.mpr q))
    refine x_aload_n dX0_beginOf_8 0 rfl ?_
    refine x_getR fl_X0_15 rfl rfl dX0_beginOf_9 ?_
    refine x_iload_n dX0_beginOf_12 1 rfl ?_
    have b2 : vp_in i 1000 := by exact vp_lit (N := 1000) 1000 (by decide) rfl (by grind) (by grind)
    refine x_iald rfl b2 dX0_beginOf_13 ?_
    refine x_goto 19 dX0_beginOf_14 (by decide) ?_
    refine x_iret dX0_beginOf_19 rfl ?_
    rw [hQ]
    refine ⟨rfl, ?_⟩
    first | rw [if_pos (by assumption)] | rw [if_neg (by assumption)]
set_option maxHeartbeats 1000000 in
set_option maxRecDepth 100000 in
theorem mX0_endOf {g : gX} (V : vM) (i : Int32) : MM g jX0_endOf V [.ref (g.2.1 8), .int i] (pI V (if 0 ≤ i ∧ i < V 8 3 ∧ i < 1000 then V 30 i.toNatClampNeg else -1000006)) := by
  refine MM.of plX0_endOf (Nat.le_of_ble_eq_true rfl) ?_
  obtain ⟨Q, hQ⟩ : ∃ Q : Option Value → vM → Prop, Q = (pI V (if 0 ≤ i ∧ i < V 8 3 ∧ i < 1000 then V 30 i.toNatClampNeg else -1000006)) := ⟨_, rfl⟩
  rw [← hQ]
  show XX g jX0_endOf Q V 0 [(0, .ref (g.2.1 8)), (1, .int i)] []
  refine x_aload_n dX0_endOf_0 0 rfl ?_
  refine x_iload_n dX0_endOf_1 1 rfl ?_
  refine x_callV (K := jX0_has) [.int i] lk_X0_47 ⟨⟨rfl, rfl⟩, Nat.le_of_ble_eq_true rfl, Nat.le_of_ble_eq_true rfl⟩ rfl rfl (mX0_has V i) rfl (Nat.le_of_ble_eq_true rfl) rfl dX0_endOf_2 (kpI ?_)
  refine x_if_eq 17 dX0_endOf_5 (by decide) (fun c1 => ?_) (fun c1 => ?_)
  · have c1n : ¬ (0 ≤ i ∧ i < V 8 3 ∧ i < 1000) := iB_0.mp c1
    refine x_ldc ct_X0_51 dX0_endOf_17 ?_
    refine x_iret dX0_endOf_19 rfl ?_
    rw [hQ]
    refine ⟨rfl, ?_⟩
    first | rw [if_pos (by assumption)] | rw [if_neg (by assumption)]
  · have c1n : (0 ≤ i ∧ i < V 8 3 ∧ i < 1000) := Classical.not_not.mp (fun q => c1 (iB_0.mpr q))
    refine x_aload_n dX0_endOf_8 0 rfl ?_
    refine x_getR fl_X0_18 rfl rfl dX0_endOf_9 ?_
    refine x_iload_n dX0_endOf_12 1 rfl ?_
    have b2 : vp_in i 1000 := by exact vp_lit (N := 1000) 1000 (by decide) rfl (by grind) (by grind)
    refine x_iald rfl b2 dX0_endOf_13 ?_
    refine x_goto 19 dX0_endOf_14 (by decide) ?_
    refine x_iret dX0_endOf_19 rfl ?_
    rw [hQ]
    refine ⟨rfl, ?_⟩
    first | rw [if_pos (by assumption)] | rw [if_neg (by assumption)]
def kpV (V : vM) (f : Nat) (b e : Int32) : vM := if b < e ∧ f ≤ 1000 then uM (if f < 1000 then uM (uM V 29 f b) 30 f e else V) 8 3 (nI (f + 1)) else V
set_option maxHeartbeats 1000000 in
set_option maxRecDepth 100000 in
theorem mX0_keep {g : gX} (V : vM) (f : Nat) (hf : V 8 3 = nI f) (h31 : f < 2 ^ 30) (b e : Int32) : MM g jX0_keep V [.ref (g.2.1 8), .int b, .int e] (dV (kpV V f b e)) := by
  refine MM.of plX0_keep (Nat.le_of_ble_eq_true rfl) ?_
  obtain ⟨Q, hQ⟩ : ∃ Q : Option Value → vM → Prop, Q = (dV (kpV V f b e)) := ⟨_, rfl⟩
  rw [← hQ]
  show XX g jX0_keep Q V 0 [(0, .ref (g.2.1 8)), (1, .int b), (2, .int e)] []
  refine x_iload_n dX0_keep_0 1 rfl ?_
  refine x_iload_n dX0_keep_1 2 rfl ?_
  refine x_icmp_ge 15 dX0_keep_2 (by decide) (fun c1 => ?_) (fun c1 => ?_)
  · refine x_vret dX0_keep_15 rfl ?_
    rw [hQ]
    refine ⟨?_, rfl⟩
    subst_vars
    unfold kpV
    first
      | rw [if_neg (by first | (intro q; exact absurd q.1 (Int32.not_lt.mpr (by assumption))) | (intro q; have := q.2; omega))]
      | (rw [if_pos ⟨Int32.not_le.mp (by assumption), by omega⟩, nI_1]; first | rw [if_pos (by omega)] | rw [if_neg (by omega)])
  · refine x_aload_n dX0_keep_5 0 rfl ?_
    refine x_getI fl_X0_21 rfl rfl dX0_keep_6 ?_
    refine x_topi (hf) ?_
    refine x_sipush (v := 1000) dX0_keep_9 (by decide) ?_
    refine x_icmp_le 16 dX0_keep_12 (by decide) (fun c2 => ?_) (fun c2 => ?_)
    · have c2n : f ≤ 1000 := (nl_le (a := f) (b := 1000) (rfl) (rfl) (by omega) (by omega)).mp c2
      refine x_aload_n dX0_keep_16 0 rfl ?_
      refine x_getI fl_X0_21 rfl rfl dX0_keep_17 ?_
      refine x_topi (hf) ?_
      refine x_sipush (v := 1000) dX0_keep_20 (by decide) ?_
      refine x_icmp_ge 46 dX0_keep_23 (by decide) (fun c3 => ?_) (fun c3 => ?_)
      · have c3n : 1000 ≤ f := (nl_le (a := 1000) (b := f) (rfl) (rfl) (by omega) (by omega)).mp c3
        refine x_aload_n dX0_keep_46 0 rfl ?_
        refine x_dup dX0_keep_47 rfl ?_
        refine x_getI fl_X0_21 rfl rfl dX0_keep_48 ?_
        refine x_topi (hf) ?_
        refine x_iconst (v := 1) dX0_keep_51 (by decide) ?_
        refine x_iadd dX0_keep_52 ?_
        refine x_putI fp_X0_21 rfl rfl dX0_keep_53 ?_
        obtain ⟨U4, eU4⟩ : ∃ v_v : vM, v_v = uM V 8 3 ((nI f) + 1) := ⟨_, rfl⟩
        refine YY.V eU4.symm ?_
        refine x_vret dX0_keep_56 rfl ?_
        rw [hQ]
        refine ⟨?_, rfl⟩
        subst_vars
        unfold kpV
        first
          | rw [if_neg (by first | (intro q; exact absurd q.1 (Int32.not_lt.mpr (by assumption))) | (intro q; have := q.2; omega))]
          | (rw [if_pos ⟨Int32.not_le.mp (by assumption), by omega⟩, nI_1]; first | rw [if_pos (by omega)] | rw [if_neg (by omega)])
      · have c3n : f < 1000 := Nat.not_le.mp (fun q => c3 ((nl_le (a := 1000) (b := f) (rfl) (rfl) (by omega) (by omega)).mpr q))
        refine x_aload_n dX0_keep_26 0 rfl ?_
        refine x_getR fl_X0_15 rfl rfl dX0_keep_27 ?_
        refine x_aload_n dX0_keep_30 0 rfl ?_
        refine x_getI fl_X0_21 rfl rfl dX0_keep_31 ?_
        refine x_topi (hf) ?_
        refine x_iload_n dX0_keep_34 1 rfl ?_
        have b5 : vp_in (nI f) 1000 := by exact vp_in_nI (by omega) (by decide)
        refine x_iast rfl b5 dX0_keep_35 ?_
        refine YY.V (V' := uM V 29 f b) (by rw [nI_clamp (by omega)]) ?_
        obtain ⟨U6, eU6⟩ : ∃ v_v : vM, v_v = uM V 29 f b := ⟨_, rfl⟩
        refine YY.V eU6.symm ?_
        refine x_aload_n dX0_keep_36 0 rfl ?_
        refine x_getR fl_X0_18 rfl rfl dX0_keep_37 ?_
        refine x_aload_n dX0_keep_40 0 rfl ?_
        refine x_getI fl_X0_21 rfl rfl dX0_keep_41 ?_
        refine x_topi (y := V 8 3) (by rw [eU6, uM_na (by decide)]) ?_
        refine x_topi (hf) ?_
        refine x_iload_n dX0_keep_44 2 rfl ?_
        have b7 : vp_in (nI f) 1000 := by exact vp_in_nI (by omega) (by decide)
        refine x_iast rfl b7 dX0_keep_45 ?_
        refine YY.V (V' := uM U6 30 f e) (by rw [nI_clamp (by omega)]) ?_
        obtain ⟨U8, eU8⟩ : ∃ v_v : vM, v_v = uM U6 30 f e := ⟨_, rfl⟩
        refine YY.V eU8.symm ?_
        refine x_aload_n dX0_keep_46 0 rfl ?_
        refine x_dup dX0_keep_47 rfl ?_
        refine x_getI fl_X0_21 rfl rfl dX0_keep_48 ?_
        refine x_topi (y := V 8 3) (by rw [eU8, uM_na (by decide), eU6, uM_na (by decide)]) ?_
        refine x_topi (hf) ?_
        refine x_iconst (v := 1) dX0_keep_51 (by decide) ?_
        refine x_iadd dX0_keep_52 ?_
        refine x_putI fp_X0_21 rfl rfl dX0_keep_53 ?_
        obtain ⟨U9, eU9⟩ : ∃ v_v : vM, v_v = uM U8 8 3 ((nI f) + 1) := ⟨_, rfl⟩
        refine YY.V eU9.symm ?_
        refine x_vret dX0_keep_56 rfl ?_
        rw [hQ]
        refine ⟨?_, rfl⟩
        subst_vars
        unfold kpV
        first
          | rw [if_neg (by first | (intro q; exact absurd q.1 (Int32.not_lt.mpr (by assumption))) | (intro q; have := q.2; omega))]
          | (rw [if_pos ⟨Int32.not_le.mp (by assumption), by omega⟩, nI_1]; first | rw [if_pos (by omega)] | rw [if_neg (by omega)])
    · have c2n : 1000 < f := Nat.not_le.mp (fun q => c2 ((nl_le (a := f) (b := 1000) (rfl) (rfl) (by omega) (by omega)).mpr q))
      refine x_vret dX0_keep_15 rfl ?_
      rw [hQ]
      refine ⟨?_, rfl⟩
      subst_vars
      unfold kpV
      first
        | rw [if_neg (by first | (intro q; exact absurd q.1 (Int32.not_lt.mpr (by assumption))) | (intro q; have := q.2; omega))]
        | (rw [if_pos ⟨Int32.not_le.mp (by assumption), by omega⟩, nI_1]; first | rw [if_pos (by omega)] | rw [if_neg (by omega)])
/-- the letter at a place, or -1 -/
def ltA (V : vM) (n i : Nat) : Int32 := if i < n then V 31 i else -1
theorem ltA_y {V : vM} {n i : Nat} (h : i < n) : ltA V n i = V 31 i := if_pos h
theorem ltA_n {V : vM} {n i : Nat} (h : ¬ i < n) : ltA V n i = -1 := if_neg h
theorem keO_ltA {V : vM} {n i : Nat} {l : Int32} : keO V l (ltA V n i) = if i < n then keO V l (V 31 i) else 0 := by
  by_cases q : i < n
  · rw [ltA_y q, if_pos q]
  · rw [ltA_n q, if_neg q]
    unfold keO
    exact if_neg (fun z => absurd z.2.1 (by decide))
set_option maxHeartbeats 1000000 in
set_option maxRecDepth 100000 in
theorem mX3_letterAt {g : gX} (V : vM) (i n : Nat) (hi : i ≤ n) (hn : n ≤ 24) (hm : V 9 5 = nI n) : MM g jX3_letterAt V [.ref (g.2.1 9), .int (nI i)] (pI V (ltA V n i)) := by
  refine MM.of plX3_letterAt (Nat.le_of_ble_eq_true rfl) ?_
  obtain ⟨Q, hQ⟩ : ∃ Q : Option Value → vM → Prop, Q = (pI V (ltA V n i)) := ⟨_, rfl⟩
  rw [← hQ]
  show XX g jX3_letterAt Q V 0 [(0, .ref (g.2.1 9)), (1, .int (nI i))] []
  refine x_iload_n dX3_letterAt_0 1 rfl ?_
  refine x_if_lt 21 dX3_letterAt_1 (by decide) (fun c1 => by exfalso; exact absurd c1 (nI_pos (by omega))) (fun c1 => ?_)
  refine x_iload_n dX3_letterAt_4 1 rfl ?_
  refine x_aload_n dX3_letterAt_5 0 rfl ?_
  refine x_getI fl_X3_27 rfl rfl dX3_letterAt_6 ?_
  refine x_topi (hm) ?_
  refine x_icmp_ge 21 dX3_letterAt_9 (by decide) (fun c2 => ?_) (fun c2 => ?_)
  · have c2n : n ≤ i := (nl_le (a := n) (b := i) (rfl) (rfl) (by omega) (by omega)).mp c2
    refine x_iconst (v := -1) dX3_letterAt_21 (by decide) ?_
    refine x_iret dX3_letterAt_22 rfl ?_
    rw [hQ]
    refine ⟨rfl, ?_⟩
    first | rw [ltA_y (by omega)] | rw [ltA_n (by omega)]
  · have c2n : i < n := Nat.not_le.mp (fun q => c2 ((nl_le (a := n) (b := i) (rfl) (rfl) (by omega) (by omega)).mpr q))
    refine x_aload_n dX3_letterAt_12 0 rfl ?_
    refine x_getR fl_X3_9 rfl rfl dX3_letterAt_13 ?_
    refine x_iload_n dX3_letterAt_16 1 rfl ?_
    have b3 : vp_in (nI i) 24 := by exact vp_in_nI (by omega) (by decide)
    refine x_iald rfl b3 dX3_letterAt_17 ?_
    refine x_topi (y := V 31 i) (by rw [nI_clamp (by omega)]) ?_
    refine x_goto 22 dX3_letterAt_18 (by decide) ?_
    refine x_iret dX3_letterAt_22 rfl ?_
    rw [hQ]
    refine ⟨rfl, ?_⟩
    first | rw [ltA_y (by omega)] | rw [ltA_n (by omega)]
set_option maxHeartbeats 1000000 in
set_option maxRecDepth 100000 in
theorem mX3_widthAt {g : gX} (V : vM) (i n : Nat) (hi : i < n) (hn : n ≤ 24) (hm : V 9 5 = nI n) (hl : ∀ j, j < n → 0 ≤ V 31 j ∧ V 31 j ≤ 25) : MM g jX3_widthAt V [.ref (g.2.1 9), .int (nI i)] (pI V (V 32 (V 31 i).toNatClampNeg)) := by
  refine MM.of plX3_widthAt (Nat.le_of_ble_eq_true rfl) ?_
  obtain ⟨Q, hQ⟩ : ∃ Q : Option Value → vM → Prop, Q = (pI V (V 32 (V 31 i).toNatClampNeg)) := ⟨_, rfl⟩
  rw [← hQ]
  show XX g jX3_widthAt Q V 0 [(0, .ref (g.2.1 9)), (1, .int (nI i))] []
  have hli := hl i hi
  refine x_aload_n dX3_widthAt_0 0 rfl ?_
  refine x_iload_n dX3_widthAt_1 1 rfl ?_
  refine x_callV (K := jX3_letterAt) [.int (nI i)] lk_X3_55 ⟨⟨rfl, rfl⟩, Nat.le_of_ble_eq_true rfl, Nat.le_of_ble_eq_true rfl⟩ rfl rfl (by have := mX3_letterAt (g := g) V i n (by omega) hn hm; rw [ltA_y (by omega)] at this; exact this) rfl (Nat.le_of_ble_eq_true rfl) rfl dX3_widthAt_2 (kpI ?_)
  refine x_istore_n 2 [(2, .int (V 31 i)), (0, .ref (g.2.1 9)), (1, .int (nI i))] dX3_widthAt_5 rfl (by decide) rfl ?_
  refine x_iload_n dX3_widthAt_6 0 rfl ?_
  refine x_callSN (K := jX9_isLetter) [.int (V 31 i)] kbX9_isLetter st_isLetter (nwr2 (g := g)) ⟨⟨rfl, rfl⟩, Nat.le_of_ble_eq_true rfl, Nat.le_of_ble_eq_true rfl⟩ (mX9_isLetter V (V 31 i)) rfl (Nat.le_of_ble_eq_true rfl) rfl dX3_widthAt_7 (kpI ?_)
  refine x_if_eq 22 dX3_widthAt_10 (by decide) (fun c1 => by exfalso; exact absurd (iB_0.mp c1) (fun q => q hli)) (fun c1 => ?_)
  refine x_aload_n dX3_widthAt_13 1 rfl ?_
  refine x_getR fl_X3_15 rfl rfl dX3_widthAt_14 ?_
  refine x_iload_n dX3_widthAt_17 0 rfl ?_
  have b2 : vp_in (V 31 i) 26 := by exact vp_lit (N := 26) 26 (by decide) rfl (by grind) (by grind)
  refine x_iald rfl b2 dX3_widthAt_18 ?_
  refine x_goto 23 dX3_widthAt_19 (by decide) ?_
  refine x_iret dX3_widthAt_23 rfl ?_
  rw [hQ]
  exact ⟨rfl, rfl⟩
set_option maxHeartbeats 1000000 in
set_option maxRecDepth 100000 in
theorem mX3_stepAfter {g : gX} (V : vM) (i n : Nat) (hi : i < n) (hn : n ≤ 24) (hm : V 9 5 = nI n) (hl : ∀ j, j < n → 0 ≤ V 31 j ∧ V 31 j ≤ 25) : MM g jX3_stepAfter V [.ref (g.2.1 9), .int (nI i)] (pI V (V 32 (V 31 i).toNatClampNeg + V 9 8 + if i + 1 < n then keO V (V 31 i) (V 31 (i + 1)) else 0)) := by
  refine MM.of plX3_stepAfter (Nat.le_of_ble_eq_true rfl) ?_
  obtain ⟨Q, hQ⟩ : ∃ Q : Option Value → vM → Prop, Q = (pI V (V 32 (V 31 i).toNatClampNeg + V 9 8 + if i + 1 < n then keO V (V 31 i) (V 31 (i + 1)) else 0)) := ⟨_, rfl⟩
  rw [← hQ]
  show XX g jX3_stepAfter Q V 0 [(0, .ref (g.2.1 9)), (1, .int (nI i))] []
  refine x_aload_n dX3_stepAfter_0 0 rfl ?_
  refine x_iload_n dX3_stepAfter_1 1 rfl ?_
  refine x_callV (K := jX3_widthAt) [.int (nI i)] lk_X3_59 ⟨⟨rfl, rfl⟩, Nat.le_of_ble_eq_true rfl, Nat.le_of_ble_eq_true rfl⟩ rfl rfl (mX3_widthAt V i n (by omega) hn hm hl) rfl (Nat.le_of_ble_eq_true rfl) rfl dX3_stepAfter_2 (kpI ?_)
  refine x_aload_n dX3_stepAfter_5 0 rfl ?_
  refine x_getI fl_X3_37 rfl rfl dX3_stepAfter_6 ?_
  refine x_iadd dX3_stepAfter_9 ?_
  refine x_aload_n dX3_stepAfter_10 0 rfl ?_
  refine x_aload_n dX3_stepAfter_11 0 rfl ?_
  refine x_iload_n dX3_stepAfter_12 1 rfl ?_
  refine x_callV (K := jX3_letterAt) [.int (nI i)] lk_X3_55 ⟨⟨rfl, rfl⟩, Nat.le_of_ble_eq_true rfl, Nat.le_of_ble_eq_true rfl⟩ rfl rfl (by have := mX3_letterAt (g := g) V i n (by omega) hn hm; rw [ltA_y (by omega)] at this; exact this) rfl (Nat.le_of_ble_eq_true rfl) rfl dX3_stepAfter_13 (kpI ?_)
  refine x_aload_n dX3_stepAfter_16 0 rfl ?_
  refine x_iload_n dX3_stepAfter_17 1 rfl ?_
  refine x_iconst (v := 1) dX3_stepAfter_18 (by decide) ?_
  refine x_iadd dX3_stepAfter_19 ?_
  have q1 : ((nI i) + 1 : Int32) = nI (i + 1) := nadd (rfl) (rfl)
  refine YY.S (st' := [.int (nI (i + 1)), .ref (g.2.1 9), .int (V 31 i), .ref (g.2.1 9), .int ((V 32 (V 31 i).toNatClampNeg) + (V 9 8))]) (by rw [q1]) ?_
  refine x_callV (K := jX3_letterAt) [.int (nI (i + 1))] lk_X3_55 ⟨⟨rfl, rfl⟩, Nat.le_of_ble_eq_true rfl, Nat.le_of_ble_eq_true rfl⟩ rfl rfl (mX3_letterAt V (i + 1) n (by omega) hn hm) rfl (Nat.le_of_ble_eq_true rfl) rfl dX3_stepAfter_20 (kpI ?_)
  refine x_callV (K := jX3_kerningOf) [.int (V 31 i), .int (ltA V n (i + 1))] lk_X3_48 ⟨⟨rfl, rfl⟩, Nat.le_of_ble_eq_true rfl, Nat.le_of_ble_eq_true rfl⟩ rfl rfl (mX3_kerningOf V (V 31 i) (ltA V n (i + 1))) rfl (Nat.le_of_ble_eq_true rfl) rfl dX3_stepAfter_23 (kpI ?_)
  refine x_iadd dX3_stepAfter_26 ?_
  refine x_iret dX3_stepAfter_27 rfl ?_
  rw [hQ]
  refine ⟨rfl, ?_⟩
  rw [keO_ltA]
