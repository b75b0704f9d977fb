def stpA (V : vM) (n i : Nat) : Int32 := V 32 (V 31 i).toNatClampNeg + V 9 8 + if i + 1 < n then keO V (V 31 i) (V 31 (i + 1)) else 0
/-- where the letter i begins, behind the offset -/
def lbg (V : vM) (n : Nat) : Nat → Int32
  | 0 => V 9 7
  | i + 1 => lbg V n i + stpA V n i
def cntH (V : vM) : Nat → Int32
  | 0 => 0
  | i + 1 => cntH V i + (if V 35 i = -1 then 0 else 1)
theorem cntH_t {V : vM} {i : Nat} (h : V 35 i = -1) : cntH V i = cntH V (i + 1) := by
  rw [cntH, if_pos h]; exact (Int32.add_zero _).symm
theorem cntH_f {V : vM} {i : Nat} (h : ¬ V 35 i = -1) : cntH V i + 1 = cntH V (i + 1) := by
  rw [cntH, if_neg h]
set_option maxHeartbeats 1000000 in
set_option maxRecDepth 100000 in
theorem mX3_endOfAll {g : gX} (V : vM) (n : Nat) (hn : n ≤ 24) (hm : V 9 5 = nI n) (hl : ∀ j, j < n → 0 ≤ V 31 j ∧ V 31 j ≤ 25) : MM g jX3_endOfAll V [.ref (g.2.1 9)] (pI V (if n = 0 then V 9 7 else lbg V n (n - 1) + V 32 (V 31 (n - 1)).toNatClampNeg)) := by
  refine MM.of plX3_endOfAll (Nat.le_of_ble_eq_true rfl) ?_
  obtain ⟨Q, hQ⟩ : ∃ Q : Option Value → vM → Prop, Q = (pI V (if n = 0 then V 9 7 else lbg V n (n - 1) + V 32 (V 31 (n - 1)).toNatClampNeg)) := ⟨_, rfl⟩
  rw [← hQ]
  show XX g jX3_endOfAll Q V 0 [(0, .ref (g.2.1 9))] []
  refine x_aload_n dX3_endOfAll_0 0 rfl ?_
  refine x_getI fl_X3_34 rfl rfl dX3_endOfAll_1 ?_
  refine x_istore_n 1 [(1, .int (V 9 7)), (0, .ref (g.2.1 9))] dX3_endOfAll_4 rfl (by decide) rfl ?_
  refine x_iconst (v := 0) dX3_endOfAll_5 (by decide) ?_
  refine x_istore_n 2 [(2, .int 0), (1, .int (V 9 7)), (0, .ref (g.2.1 9))] dX3_endOfAll_6 rfl (by decide) rfl ?_
  have lp1 : ∀ (fu : Nat) (i : Nat), (i + 1 ≤ n ∨ i = 0) → (n - i) < fu → XX g jX3_endOfAll Q V 7 [(2, .int (nI i)), (1, .int (lbg V n i)), (0, .ref (g.2.1 9))] [] := by
    intro fu
    induction fu with
    | zero => intro _ _ hmz; exact absurd hmz (Nat.not_lt_zero _)
    | succ fu ih =>
      intro i hi hmz
      refine x_iload_n dX3_endOfAll_7 0 rfl ?_
      refine x_iconst (v := 1) dX3_endOfAll_8 (by decide) ?_
      refine x_iadd dX3_endOfAll_9 ?_
      refine x_aload_n dX3_endOfAll_10 2 rfl ?_
      refine x_getI fl_X3_27 rfl rfl dX3_endOfAll_11 ?_
      refine x_topi (hm) ?_
      refine x_icmp_ge 31 dX3_endOfAll_14 (by decide) (fun c2 => ?_) (fun c2 => ?_)
      · have c2n : n ≤ i + 1 := (nl_le (a := n) (b := i + 1) (rfl) (nadd (rfl) (rfl)) (by omega) (by omega)).mp c2
        refine x_aload_n dX3_endOfAll_31 2 rfl ?_
        refine x_getI fl_X3_27 rfl rfl dX3_endOfAll_32 ?_
        refine x_topi (hm) ?_
        refine x_if_ne 42 dX3_endOfAll_35 (by decide) (fun c3 => ?_) (fun c3 => ?_)
        · have c3n : ¬ n = 0 := fun q => c3 ((nl_eq (a := n) (b := 0) (rfl) (rfl) (by omega) (by omega)).mpr q)
          refine x_iload_n dX3_endOfAll_42 1 rfl ?_
          refine x_aload_n dX3_endOfAll_43 2 rfl ?_
          refine x_aload_n dX3_endOfAll_44 2 rfl ?_
          refine x_getI fl_X3_27 rfl rfl dX3_endOfAll_45 ?_
          refine x_topi (hm) ?_
          refine x_iconst (v := 1) dX3_endOfAll_48 (by decide) ?_
          refine x_isub dX3_endOfAll_49 ?_
          have q4 : ((nI n) - 1 : Int32) = nI (n - 1) := nsub (by omega) (rfl) (rfl)
          refine YY.S (st' := [.int (nI (n - 1)), .ref (g.2.1 9), .int (lbg V n i)]) (by rw [q4]) ?_
          refine x_callV (K := jX3_widthAt) [.int (nI (n - 1))] lk_X3_59 ⟨⟨rfl, rfl⟩, Nat.le_of_ble_eq_true rfl, Nat.le_of_ble_eq_true rfl⟩ rfl rfl (mX3_widthAt V (n - 1) n (by omega) hn hm hl) rfl (Nat.le_of_ble_eq_true rfl) rfl dX3_endOfAll_50 (kpI ?_)
          refine x_iadd dX3_endOfAll_53 ?_
          refine x_iret dX3_endOfAll_54 rfl ?_
          rw [hQ]
          refine ⟨rfl, ?_⟩
          first | (rw [if_pos (by omega), show i = 0 by omega]; rfl) | rw [if_neg (by omega), show i = n - 1 by omega]
        · have c3n : n = 0 := (nl_eq (a := n) (b := 0) (rfl) (rfl) (by omega) (by omega)).mp c3
          refine x_iload_n dX3_endOfAll_38 1 rfl ?_
          refine x_goto 54 dX3_endOfAll_39 (by decide) ?_
          refine x_iret dX3_endOfAll_54 rfl ?_
          rw [hQ]
          refine ⟨rfl, ?_⟩
          first | (rw [if_pos (by omega), show i = 0 by omega]; rfl) | rw [if_neg (by omega), show i = n - 1 by omega]
      · have c2n : i + 1 < n := Nat.not_le.mp (fun q => c2 ((nl_le (a := n) (b := i + 1) (rfl) (nadd (rfl) (rfl)) (by omega) (by omega)).mpr q))
        refine x_iload_n dX3_endOfAll_17 1 rfl ?_
        refine x_aload_n dX3_endOfAll_18 2 rfl ?_
        refine x_iload_n dX3_endOfAll_19 0 rfl ?_
        refine x_callV (K := jX3_stepAfter) [.int (nI i)] lk_X3_97 ⟨⟨rfl, rfl⟩, Nat.le_of_ble_eq_true rfl, Nat.le_of_ble_eq_true rfl⟩ rfl rfl (mX3_stepAfter V i n (by omega) hn hm hl) rfl (Nat.le_of_ble_eq_true rfl) rfl dX3_endOfAll_20 (kpI ?_)
        refine x_iadd dX3_endOfAll_23 ?_
        refine x_istore_n 1 [(1, .int ((lbg V n i) + (stpA V n i))), (2, .int (nI i)), (0, .ref (g.2.1 9))] dX3_endOfAll_24 rfl (by decide) rfl ?_
        refine x_iinc 2 (v := (nI i) + 1) 1 [(2, .int ((nI i) + 1)), (1, .int ((lbg V n i) + (stpA V n i))), (0, .ref (g.2.1 9))] dX3_endOfAll_25 rfl (by rfl) (by decide) rfl ?_
        refine x_goto 7 dX3_endOfAll_28 (by decide) ?_
        refine YY.L (lv' := [(2, .int (nI (i + 1))), (1, .int (lbg V n (i + 1))), (0, .ref (g.2.1 9))]) (by rw [nI_1]; rfl) ?_
        exact ih (i + 1) (by omega) (by omega)
  refine YY.L (lv' := [(2, .int (nI 0)), (1, .int (lbg V n 0)), (0, .ref (g.2.1 9))]) (by rfl) ?_
  exact lp1 _ 0 (by omega) (Nat.lt_succ_self _)
set_option maxHeartbeats 1000000 in
set_option maxRecDepth 100000 in
theorem mX3_squeeze {g : gX} (V : vM) (c len e : Int32) : MM g jX3_squeeze V [.ref (g.2.1 9), .int c, .int len, .int e] (pI V (if 0 < e - V 9 7 then V 9 7 + ((c - V 9 7).toInt64 * (len - V 9 7).toInt64 / (e - V 9 7).toInt64).toInt32 else c)) := by
  refine MM.of plX3_squeeze (Nat.le_of_ble_eq_true rfl) ?_
  obtain ⟨Q, hQ⟩ : ∃ Q : Option Value → vM → Prop, Q = (pI V (if 0 < e - V 9 7 then V 9 7 + ((c - V 9 7).toInt64 * (len - V 9 7).toInt64 / (e - V 9 7).toInt64).toInt32 else c)) := ⟨_, rfl⟩
  rw [← hQ]
  show XX g jX3_squeeze Q V 0 [(0, .ref (g.2.1 9)), (1, .int c), (2, .int len), (3, .int e)] []
  refine x_iload_n dX3_squeeze_0 3 rfl ?_
  refine x_aload_n dX3_squeeze_1 0 rfl ?_
  refine x_getI fl_X3_34 rfl rfl dX3_squeeze_2 ?_
  refine x_isub dX3_squeeze_5 ?_
  refine x_istore 4 [(4, .int (e - (V 9 7))), (0, .ref (g.2.1 9)), (1, .int c), (2, .int len), (3, .int e)] dX3_squeeze_6 (by decide) rfl ?_
  refine x_iload dX3_squeeze_8 0 rfl ?_
  refine x_if_gt 15 dX3_squeeze_10 (by decide) (fun c1 => ?_) (fun c1 => ?_)
  · refine x_aload_n dX3_squeeze_15 1 rfl ?_
    refine x_getI fl_X3_34 rfl rfl dX3_squeeze_16 ?_
    refine x_iload_n dX3_squeeze_19 2 rfl ?_
    refine x_aload_n dX3_squeeze_20 1 rfl ?_
    refine x_getI fl_X3_34 rfl rfl dX3_squeeze_21 ?_
    refine x_isub dX3_squeeze_24 ?_
    refine x_i2l dX3_squeeze_25 ?_
    refine x_iload_n dX3_squeeze_26 3 rfl ?_
    refine x_aload_n dX3_squeeze_27 1 rfl ?_
    refine x_getI fl_X3_34 rfl rfl dX3_squeeze_28 ?_
    refine x_isub dX3_squeeze_31 ?_
    refine x_i2l dX3_squeeze_32 ?_
    refine x_lmul dX3_squeeze_33 ?_
    refine x_iload dX3_squeeze_34 0 rfl ?_
    refine x_i2l dX3_squeeze_36 ?_
    have nz2 : ¬ ((e - (V 9 7)).toInt64 : Int64) = 0 := by intro z; have q := i64z z; have p : 0 < e - V 9 7 := (by assumption); rw [q] at p; exact absurd p (by decide)
    refine x_ldiv dX3_squeeze_37 nz2 ?_
    refine x_l2i dX3_squeeze_38 ?_
    refine x_iadd dX3_squeeze_39 ?_
    refine x_iret dX3_squeeze_40 rfl ?_
    rw [hQ]
    refine ⟨rfl, ?_⟩
    first | rw [if_pos (by assumption)] | rw [if_neg (by first | assumption | exact Int32.not_lt.mpr (by assumption))]
  · refine x_iload_n dX3_squeeze_13 2 rfl ?_
    refine x_iret dX3_squeeze_14 rfl ?_
    rw [hQ]
    refine ⟨rfl, ?_⟩
    first | rw [if_pos (by assumption)] | rw [if_neg (by first | assumption | exact Int32.not_lt.mpr (by assumption))]
set_option maxHeartbeats 1000000 in
set_option maxRecDepth 100000 in
theorem mX3_lettersPlaced {g : gX} (V : vM) (n : Nat) (hn : n ≤ 24) (hm : V 9 5 = nI n) : MM g jX3_lettersPlaced V [.ref (g.2.1 9)] (pI V (cntH V n)) := by
  refine MM.of plX3_lettersPlaced (Nat.le_of_ble_eq_true rfl) ?_
  obtain ⟨Q, hQ⟩ : ∃ Q : Option Value → vM → Prop, Q = (pI V (cntH V n)) := ⟨_, rfl⟩
  rw [← hQ]
  show XX g jX3_lettersPlaced Q V 0 [(0, .ref (g.2.1 9))] []
  refine x_iconst (v := 0) dX3_lettersPlaced_0 (by decide) ?_
  refine x_istore_n 1 [(1, .int 0), (0, .ref (g.2.1 9))] dX3_lettersPlaced_1 rfl (by decide) rfl ?_
  refine x_iconst (v := 0) dX3_lettersPlaced_2 (by decide) ?_
  refine x_istore_n 2 [(2, .int 0), (1, .int 0), (0, .ref (g.2.1 9))] dX3_lettersPlaced_3 rfl (by decide) rfl ?_
  have lp1 : ∀ (fu : Nat) (i : Nat), (i ≤ n) → (n - i) < fu → XX g jX3_lettersPlaced Q V 4 [(2, .int (nI i)), (1, .int (cntH V i)), (0, .ref (g.2.1 9))] [] := by
    intro fu
    induction fu with
    | zero => intro _ _ hmz; exact absurd hmz (Nat.not_lt_zero _)
    | succ fu ih =>
      intro i hi hmz
      refine x_iload_n dX3_lettersPlaced_4 0 rfl ?_
      refine x_aload_n dX3_lettersPlaced_5 2 rfl ?_
      refine x_getI fl_X3_27 rfl rfl dX3_lettersPlaced_6 ?_
      refine x_topi (hm) ?_
      refine x_icmp_ge 31 dX3_lettersPlaced_9 (by decide) (fun c2 => ?_) (fun c2 => ?_)
      · have c2n : n ≤ i := (nl_le (a := n) (b := i) (rfl) (rfl) (by omega) (by omega)).mp c2
        refine x_iload_n dX3_lettersPlaced_31 1 rfl ?_
        refine x_iret dX3_lettersPlaced_32 rfl ?_
        rw [hQ]
        refine ⟨rfl, ?_⟩
        rw [show i = n by omega]
      · have c2n : i < n := Nat.not_le.mp (fun q => c2 ((nl_le (a := n) (b := i) (rfl) (rfl) (by omega) (by omega)).mpr q))
        refine x_aload_n dX3_lettersPlaced_12 2 rfl ?_
        refine x_getR fl_X3_24 rfl rfl dX3_lettersPlaced_13 ?_
        refine x_iload_n dX3_lettersPlaced_16 0 rfl ?_
        have b3 : vp_in (nI i) 24 := by exact vp_in_nI (by omega) (by decide)
        refine x_iald rfl b3 dX3_lettersPlaced_17 ?_
        refine x_topi (y := V 35 i) (by rw [nI_clamp (by omega)]) ?_
        refine x_iconst (v := -1) dX3_lettersPlaced_18 (by decide) ?_
        refine x_icmp_eq 25 dX3_lettersPlaced_19 (by decide) (fun c4 => ?_) (fun c4 => ?_)
        · refine x_iinc 2 (v := (nI i) + 1) 0 [(2, .int ((nI i) + 1)), (1, .int (cntH V i)), (0, .ref (g.2.1 9))] dX3_lettersPlaced_25 rfl (by rfl) (by decide) rfl ?_
          refine x_goto 4 dX3_lettersPlaced_28 (by decide) ?_
          refine YY.L (lv' := [(2, .int (nI (i + 1))), (1, .int (cntH V (i + 1))), (0, .ref (g.2.1 9))]) (by first | rw [cntH_t (by assumption), nI_1] | rw [cntH_f (by assumption), nI_1]) ?_
          exact ih (i + 1) (by omega) (by omega)
        · refine x_iinc 1 (v := (cntH V i) + 1) 1 [(1, .int ((cntH V i) + 1)), (2, .int (nI i)), (0, .ref (g.2.1 9))] dX3_lettersPlaced_22 rfl (by rfl) (by decide) rfl ?_
          refine x_iinc 2 (v := (nI i) + 1) 1 [(2, .int ((nI i) + 1)), (1, .int ((cntH V i) + 1)), (0, .ref (g.2.1 9))] dX3_lettersPlaced_25 rfl (by rfl) (by decide) rfl ?_
          refine x_goto 4 dX3_lettersPlaced_28 (by decide) ?_
          refine YY.L (lv' := [(2, .int (nI (i + 1))), (1, .int (cntH V (i + 1))), (0, .ref (g.2.1 9))]) (by first | rw [cntH_t (by assumption), nI_1] | rw [cntH_f (by assumption), nI_1]) ?_
          exact ih (i + 1) (by omega) (by omega)
  refine YY.L (lv' := [(2, .int (nI 0)), (1, .int (cntH V 0)), (0, .ref (g.2.1 9))]) (by rfl) ?_
  exact lp1 _ 0 (by omega) (Nat.lt_succ_self _)
