set_option maxHeartbeats 1000000 in
set_option maxRecDepth 100000 in
theorem mX1_segmentLength {g : gX} (V : vM) (dx dy : Int32) (hx : dx.toInt.natAbs ≤ 8000) (hy : dy.toInt.natAbs ≤ 8000) : MM g jX1_segmentLength V [.int dx, .int dy] (pI V (nI (isq (nsq dx dy)))) := by
  refine MM.of plX1_segmentLength (Nat.le_of_ble_eq_true rfl) ?_
  obtain ⟨Q, hQ⟩ : ∃ Q : Option Value → vM → Prop, Q = (pI V (nI (isq (nsq dx dy)))) := ⟨_, rfl⟩
  rw [← hQ]
  show XX g jX1_segmentLength Q V 0 [(0, .int dx), (1, .int dy)] []
  obtain ⟨hn, hnb⟩ := sq64 hx hy
  obtain ⟨n, en⟩ : ∃ n, n = nsq dx dy := ⟨_, rfl⟩
  rw [← en] at hn hnb
  refine x_ldc2 ct_X1_99 dX1_segmentLength_0 ?_
  refine x_iload_n dX1_segmentLength_3 0 rfl ?_
  refine x_i2l dX1_segmentLength_4 ?_
  refine x_iload_n dX1_segmentLength_5 0 rfl ?_
  refine x_i2l dX1_segmentLength_6 ?_
  refine x_lmul dX1_segmentLength_7 ?_
  refine x_iload_n dX1_segmentLength_8 1 rfl ?_
  refine x_i2l dX1_segmentLength_9 ?_
  refine x_iload_n dX1_segmentLength_10 1 rfl ?_
  refine x_i2l dX1_segmentLength_11 ?_
  refine x_lmul dX1_segmentLength_12 ?_
  refine x_ladd dX1_segmentLength_13 ?_
  refine x_lmul dX1_segmentLength_14 ?_
  refine x_topl (y := lN n) (hn) ?_
  refine x_lstore_n 2 [(2, .long (lN n)), (0, .int dx), (1, .int dy)] dX1_segmentLength_15 rfl (by decide) rfl ?_
  refine x_lconst (v := 0) dX1_segmentLength_16 (by decide) ?_
  refine x_lstore 4 [(4, .long 0), (2, .long (lN n)), (0, .int dx), (1, .int dy)] dX1_segmentLength_17 (by decide) rfl ?_
  refine x_bipush (v := 17) dX1_segmentLength_19 (by decide) ?_
  refine x_istore 6 [(6, .int 17), (4, .long 0), (2, .long (lN n)), (0, .int dx), (1, .int dy)] dX1_segmentLength_21 (by decide) rfl ?_
  have lp1 : ∀ (fu : Nat) (b : Nat) (z : Int32) (r : Nat), (b ≤ 18) → (z = nI b + (-1)) → (r * r ≤ n) → (n < (r + 2 ^ b) * (r + 2 ^ b)) → (r + 2 ^ b ≤ 262144) → (b) < fu → XX g jX1_segmentLength Q V 23 [(6, .int z), (4, .long (lN r)), (2, .long (lN n)), (0, .int dx), (1, .int dy)] [] := by
    intro fu
    induction fu with
    | zero => intro _ _ _ _ _ _ _ _ hmz; exact absurd hmz (Nat.not_lt_zero _)
    | succ fu ih =>
      intro b z r hb hz h1 h2 h3 hmz
      refine x_iload dX1_segmentLength_23 0 rfl ?_
      refine x_if_lt 57 dX1_segmentLength_25 (by decide) (fun c2 => ?_) (fun c2 => ?_)
      · refine x_lload dX1_segmentLength_57 1 rfl ?_
        refine x_l2i dX1_segmentLength_59 ?_
        refine x_iret dX1_segmentLength_60 rfl ?_
        rw [hQ]
        refine ⟨rfl, ?_⟩
        have hb0 : b = 0 := (zneg hz (by omega)).mp (by assumption)
        subst hb0
        rw [Nat.pow_zero] at h2
        rw [lN_i, ← en, isq_at h1 h2]
      · have hb0 : 0 < b := Nat.pos_of_ne_zero (fun q => absurd ((zneg hz (by omega)).mpr q) (by assumption))
        obtain ⟨b1, rfl⟩ : ∃ j, b = j + 1 := ⟨b - 1, by omega⟩
        have hz2 : z = nI b1 := by rw [hz, pk_m1]
        have hp2 : 2 ^ (b1 + 1) = 2 ^ b1 + 2 ^ b1 := by rw [Nat.pow_succ]; omega
        have hpp : 0 < 2 ^ b1 := Nat.two_pow_pos b1
        have htt : (r + 2 ^ b1) * (r + 2 ^ b1) ≤ 262144 * 262144 := Nat.mul_le_mul (by omega) (by omega)
        refine x_lload dX1_segmentLength_28 1 rfl ?_
        refine x_lconst (v := 1) dX1_segmentLength_30 (by decide) ?_
        refine x_iload dX1_segmentLength_31 0 rfl ?_
        refine x_lshl dX1_segmentLength_33 ?_
        refine x_ladd dX1_segmentLength_34 ?_
        refine x_topl (y := lN (r + 2 ^ b1)) (by rw [hz2, shl1 b1 (by omega), lN_add]) ?_
        refine x_lstore 7 [(7, .long (lN (r + 2 ^ b1))), (6, .int z), (4, .long (lN r)), (2, .long (lN n)), (0, .int dx), (1, .int dy)] dX1_segmentLength_35 (by decide) rfl ?_
        refine x_lload dX1_segmentLength_37 0 rfl ?_
        refine x_lload dX1_segmentLength_39 0 rfl ?_
        refine x_lmul dX1_segmentLength_41 ?_
        refine x_lload_n dX1_segmentLength_42 3 rfl ?_
        refine YY.S (st' := [.long (lN n), .long (lN ((r + 2 ^ b1) * (r + 2 ^ b1)))]) (by rw [lN_mul]) ?_
        refine x_lcmp dX1_segmentLength_43 ?_
        refine x_if_gt 51 dX1_segmentLength_44 (by decide) (fun c3 => ?_) (fun c3 => ?_)
        · have c3n : (lN n) < (lN ((r + 2 ^ b1) * (r + 2 ^ b1))) := lgc_gt.mp c3
          refine x_iinc 6 (v := z + (-1)) 1 [(6, .int (z + (-1))), (7, .long (lN (r + 2 ^ b1))), (4, .long (lN r)), (2, .long (lN n)), (0, .int dx), (1, .int dy)] dX1_segmentLength_51 rfl (by rfl) (by decide) rfl ?_
          refine x_goto 23 dX1_segmentLength_54 (by decide) ?_
          refine x_lv [0, 2, 3, 4, 5] rfl ?_
          refine YY.L (lv' := [(6, .int (z + (-1))), (4, .long (lN r)), (2, .long (lN n)), (0, .int dx), (1, .int dy)]) (by first | rfl | (simp only [nI_1]; done) | (simp only [← nI_add]; rfl)) ?_
          exact ih b1 (z + (-1)) r (by omega) (by rw [hz2]) (by first | exact h1 | exact Nat.not_lt.mp (fun q => absurd ((pk_lLT (by omega) (by omega)).mpr q) (by assumption))) (by first | exact (pk_lLT (by omega) (by omega)).mp (by assumption) | (rw [Nat.add_assoc, ← hp2]; exact h2)) (by omega) (by omega)
        · have c3n : ¬ ((lN n) < (lN ((r + 2 ^ b1) * (r + 2 ^ b1)))) := fun q => c3 (lgc_gt.mpr q)
          refine x_lload dX1_segmentLength_47 0 rfl ?_
          refine x_lstore 4 [(4, .long (lN (r + 2 ^ b1))), (7, .long (lN (r + 2 ^ b1))), (6, .int z), (2, .long (lN n)), (0, .int dx), (1, .int dy)] dX1_segmentLength_49 (by decide) rfl ?_
          refine x_iinc 6 (v := z + (-1)) 2 [(6, .int (z + (-1))), (4, .long (lN (r + 2 ^ b1))), (7, .long (lN (r + 2 ^ b1))), (2, .long (lN n)), (0, .int dx), (1, .int dy)] dX1_segmentLength_51 rfl (by rfl) (by decide) rfl ?_
          refine x_goto 23 dX1_segmentLength_54 (by decide) ?_
          refine x_lv [0, 1, 3, 4, 5] rfl ?_
          refine YY.L (lv' := [(6, .int (z + (-1))), (4, .long (lN (r + 2 ^ b1))), (2, .long (lN n)), (0, .int dx), (1, .int dy)]) (by first | rfl | (simp only [nI_1]; done) | (simp only [← nI_add]; rfl)) ?_
          exact ih b1 (z + (-1)) (r + 2 ^ b1) (by omega) (by rw [hz2]) (by first | exact h1 | exact Nat.not_lt.mp (fun q => absurd ((pk_lLT (by omega) (by omega)).mpr q) (by assumption))) (by first | exact (pk_lLT (by omega) (by omega)).mp (by assumption) | (rw [Nat.add_assoc, ← hp2]; exact h2)) (by omega) (by omega)
  refine YY.L (lv' := [(6, .int 17), (4, .long (lN 0)), (2, .long (lN n)), (0, .int dx), (1, .int dy)]) (by rfl) ?_
  exact lp1 _ 18 17 0 (by omega) (by decide) (by omega) (by omega) (by decide) (Nat.lt_succ_self _)
set_option maxHeartbeats 1000000 in
set_option maxRecDepth 100000 in
theorem mX10_root {g : gX} (V : vM) (n : Nat) (hnb : n ≤ 32768000000) : MM g jX10_root V [.long (lN n)] (pI V (nI (isq n))) := by
  refine MM.of plX10_root (Nat.le_of_ble_eq_true rfl) ?_
  obtain ⟨Q, hQ⟩ : ∃ Q : Option Value → vM → Prop, Q = (pI V (nI (isq n))) := ⟨_, rfl⟩
  rw [← hQ]
  show XX g jX10_root Q V 0 [(0, .long (lN n))] []
  refine x_lconst (v := 0) dX10_root_0 (by decide) ?_
  refine x_lstore_n 2 [(2, .long 0), (0, .long (lN n))] dX10_root_1 rfl (by decide) rfl ?_
  refine x_ldc2 ct_X10_204 dX10_root_2 ?_
  refine x_lstore 4 [(4, .long 200000), (2, .long 0), (0, .long (lN n))] dX10_root_5 (by decide) rfl ?_
  have lp1 : ∀ (fu : Nat) (lo : Nat) (hi : Nat), (lo ≤ hi) → (lo * lo ≤ n) → (n < (hi + 1) * (hi + 1)) → (hi ≤ 200000) → (hi - lo) < fu → XX g jX10_root Q V 7 [(4, .long (lN hi)), (2, .long (lN lo)), (0, .long (lN n))] [] := by
    intro fu
    induction fu with
    | zero => intro _ _ _ _ _ _ hmz; exact absurd hmz (Nat.not_lt_zero _)
    | succ fu ih =>
      intro lo hi h0 h1 h2 h3 hmz
      refine x_lload_n dX10_root_7 1 rfl ?_
      refine x_lload dX10_root_8 0 rfl ?_
      refine x_lcmp dX10_root_10 ?_
      refine x_if_ge 51 dX10_root_11 (by decide) (fun c2 => ?_) (fun c2 => ?_)
      · have c2n : (lN hi) ≤ (lN lo) := lgc_ge.mp c2
        refine x_lload_n dX10_root_51 1 rfl ?_
        refine x_l2i dX10_root_52 ?_
        refine x_iret dX10_root_53 rfl ?_
        rw [hQ]
        refine ⟨rfl, ?_⟩
        have he : lo = hi := by have q := (pk_lLE (a := hi) (b := lo) (by omega) (by omega)).mp (by assumption); omega
        subst he
        rw [lN_i, isq_at h1 h2]
      · have c2n : ¬ ((lN hi) ≤ (lN lo)) := fun q => c2 (lgc_ge.mpr q)
        have hlt : lo < hi := Nat.not_le.mp (fun q => absurd ((pk_lLE (by omega) (by omega)).mpr q) (by assumption))
        refine x_lload_n dX10_root_14 1 rfl ?_
        refine x_lload dX10_root_15 0 rfl ?_
        refine x_ladd dX10_root_17 ?_
        refine x_lconst (v := 1) dX10_root_18 (by decide) ?_
        refine x_ladd dX10_root_19 ?_
        refine x_ldc2 ct_X10_206 dX10_root_20 ?_
        have nz3 : ¬ (2 : Int64) = 0 := by decide
        refine x_ldiv dX10_root_23 nz3 ?_
        refine x_topl (y := lN ((lo + hi + 1) / 2)) (by rw [lN_add, lN_1, show (2 : Int64) = lN 2 from rfl, pk_lDiv (by omega) (by decide) (by decide)]) ?_
        have hmm : ((lo + hi + 1) / 2) * ((lo + hi + 1) / 2) ≤ 200000 * 200000 := Nat.mul_le_mul (by omega) (by omega)
        refine x_lstore 6 [(6, .long (lN ((lo + hi + 1) / 2))), (4, .long (lN hi)), (2, .long (lN lo)), (0, .long (lN n))] dX10_root_24 (by decide) rfl ?_
        refine x_lload dX10_root_26 0 rfl ?_
        refine x_lload dX10_root_28 0 rfl ?_
        refine x_lmul dX10_root_30 ?_
        refine x_lload_n dX10_root_31 3 rfl ?_
        refine YY.S (st' := [.long (lN n), .long (lN (((lo + hi + 1) / 2) * ((lo + hi + 1) / 2)))]) (by rw [lN_mul]) ?_
        refine x_lcmp dX10_root_32 ?_
        refine x_if_gt 42 dX10_root_33 (by decide) (fun c4 => ?_) (fun c4 => ?_)
        · have c4n : (lN n) < (lN (((lo + hi + 1) / 2) * ((lo + hi + 1) / 2))) := lgc_gt.mp c4
          refine x_lload dX10_root_42 0 rfl ?_
          refine x_lconst (v := 1) dX10_root_44 (by decide) ?_
          refine x_lsub dX10_root_45 ?_
          have hm1 : 1 ≤ (lo + hi + 1) / 2 := by omega
          refine x_topl (y := lN ((lo + hi + 1) / 2 - 1)) (by rw [show (1 : Int64) = lN 1 from rfl, lN_sub hm1]) ?_
          refine x_lstore 4 [(4, .long (lN ((lo + hi + 1) / 2 - 1))), (6, .long (lN ((lo + hi + 1) / 2))), (2, .long (lN lo)), (0, .long (lN n))] dX10_root_46 (by decide) rfl ?_
          refine x_goto 7 dX10_root_48 (by decide) ?_
          refine x_lv [0, 2, 3] rfl ?_
          exact ih lo ((lo + hi + 1) / 2 - 1) (by omega) (by first | exact h1 | exact Nat.not_lt.mp (fun q => absurd ((pk_lLT (by omega) (by omega)).mpr q) (by assumption))) (by first | exact h2 | (rw [Nat.sub_add_cancel hm1]; exact (pk_lLT (by omega) (by omega)).mp (by assumption))) (by omega) (by omega)
        · have c4n : ¬ ((lN n) < (lN (((lo + hi + 1) / 2) * ((lo + hi + 1) / 2)))) := fun q => c4 (lgc_gt.mpr q)
          refine x_lload dX10_root_36 0 rfl ?_
          refine x_lstore_n 2 [(2, .long (lN ((lo + hi + 1) / 2))), (6, .long (lN ((lo + hi + 1) / 2))), (4, .long (lN hi)), (0, .long (lN n))] dX10_root_38 rfl (by decide) rfl ?_
          refine x_goto 48 dX10_root_39 (by decide) ?_
          refine x_goto 7 dX10_root_48 (by decide) ?_
          refine x_lv [2, 0, 3] rfl ?_
          exact ih ((lo + hi + 1) / 2) hi (by omega) (by first | exact h1 | exact Nat.not_lt.mp (fun q => absurd ((pk_lLT (by omega) (by omega)).mpr q) (by assumption))) (by first | exact h2 | (rw [Nat.sub_add_cancel hm1]; exact (pk_lLT (by omega) (by omega)).mp (by assumption))) (by omega) (by omega)
  refine YY.L (lv' := [(4, .long (lN 200000)), (2, .long (lN 0)), (0, .long (lN n))]) (by rfl) ?_
  exact lp1 _ 0 200000 (by omega) (by omega) (by omega) (by omega) (Nat.lt_succ_self _)
