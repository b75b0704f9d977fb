theorem fb_subI2 {x : Int32} {n : Nat} (h : x.toInt = n) (hn : n ≤ 24) : (x - 1).toInt = (n : Int) - 1 := by
  have e : x = nI n := Int32.toInt_inj.mp (by rw [h, nI_toInt (by omega)])
  subst e
  cases n with
  | zero => decide
  | succ k => rw [nI_pred, nI_toInt (by omega)]; omega
theorem cont_no {K : Nat → Int32} {i : Nat} {z : Int32} (hz : z = if cntM K i = 0 then -1000006 else nI (cntM K i - 1)) (h : ¬ K i = 0) : z = if cntM K (i + 1) = 0 then -1000006 else nI (cntM K (i + 1) - 1) := by
  rw [cntM, if_neg h]
  exact hz
theorem cont_0 {K : Nat → Int32} {i : Nat} {z : Int32} (hz : z = if cntM K i = 0 then -1000006 else nI (cntM K i - 1)) (h : K i = 0) (hn : ¬ 0 ≤ z) (hi : i < 24) : (0 : Int32) = if cntM K (i + 1) = 0 then -1000006 else nI (cntM K (i + 1) - 1) := by
  have hl := cntM_le K i
  rw [cntM, if_pos h, if_neg (by omega)]
  by_cases c0 : cntM K i = 0
  · rw [c0]; rfl
  · rw [if_neg c0] at hz
    exact absurd (by rw [hz]; exact nI_pos' (by omega)) hn
theorem cont_1 {K : Nat → Int32} {i : Nat} {z : Int32} (hz : z = if cntM K i = 0 then -1000006 else nI (cntM K i - 1)) (h : K i = 0) (hn : 0 ≤ z) (hi : i < 24) : z + 1 = if cntM K (i + 1) = 0 then -1000006 else nI (cntM K (i + 1) - 1) := by
  have hl := cntM_le K i
  rw [cntM, if_pos h, if_neg (by omega)]
  by_cases c0 : cntM K i = 0
  · rw [if_pos c0] at hz
    rw [hz] at hn
    exact absurd hn (by decide)
  · rw [if_neg c0] at hz
    rw [hz, nI_1, show cntM K i - 1 + 1 = cntM K i + 1 - 1 by omega]
theorem WF.first {m : Nat → Int32} {N : Nat} (h : WF m N) (h0 : 0 < N) : m 0 = 0 := by
  by_cases c : m (0 * 7) = 0
  · simpa using c
  · obtain ⟨j, hj, -⟩ := (h.2 0 h0).2.1 c
    omega
theorem cntM_pos {K : Nat → Int32} (h : K 0 = 0) : ∀ j, 0 < cntM K (j + 1)
  | 0 => by simp [cntM, h]
  | j + 1 => by
    have := cntM_pos h j
    rw [cntM]
    split
    · omega
    · exact this
set_option maxHeartbeats 1000000 in
set_option maxRecDepth 100000 in
theorem mX10_move {g : gX} (V : vM) (N : Nat) (hN : N ≤ 24) (hm : V 50 168 = nI N) (x y : Int32) : MM g jX10_move V [.ref (g.2.1 49), .int x, .int y] (dI (mapV V N 0 0 0 0 0 x y) (mapZ V N 0 0 0 0 0 x y)) := by
  refine MM.of plX10_move (Nat.le_of_ble_eq_true rfl) ?_
  obtain ⟨Q, hQ⟩ : ∃ Q : Option Value → vM → Prop, Q = (dI (mapV V N 0 0 0 0 0 x y) (mapZ V N 0 0 0 0 0 x y)) := ⟨_, rfl⟩
  rw [← hQ]
  show XX g jX10_move Q V 0 [(0, .ref (g.2.1 49)), (1, .int x), (2, .int y)] []
  refine x_aload_n dX10_move_0 0 rfl ?_
  refine x_iconst (v := 0) dX10_move_1 (by decide) ?_
  refine x_iconst (v := 0) dX10_move_2 (by decide) ?_
  refine x_iconst (v := 0) dX10_move_3 (by decide) ?_
  refine x_iconst (v := 0) dX10_move_4 (by decide) ?_
  refine x_iconst (v := 0) dX10_move_5 (by decide) ?_
  refine x_iload_n dX10_move_6 1 rfl ?_
  refine x_iload_n dX10_move_7 2 rfl ?_
  refine x_callV (K := jX10_append) [.int 0, .int 0, .int 0, .int 0, .int 0, .int x, .int y] lk_X10_99 ⟨⟨rfl, rfl⟩, Nat.le_of_ble_eq_true rfl, Nat.le_of_ble_eq_true rfl⟩ rfl rfl (mX10_append V N hN hm 0 0 0 0 0 x y) rfl (Nat.le_of_ble_eq_true rfl) rfl dX10_move_8 (kdI ?_)
  obtain ⟨U1, eU1⟩ : ∃ v_v : vM, v_v = mapV V N 0 0 0 0 0 x y := ⟨_, rfl⟩
  refine YY.V eU1.symm ?_
  refine x_iret dX10_move_11 rfl ?_
  rw [hQ, ← eU1]
  exact ⟨rfl, rfl⟩
set_option maxHeartbeats 1000000 in
set_option maxRecDepth 100000 in
theorem mX10_line {g : gX} (V : vM) (N : Nat) (hN : N ≤ 24) (hm : V 50 168 = nI N) (x y : Int32) : MM g jX10_line V [.ref (g.2.1 49), .int x, .int y] (dI (mapV V N 1 0 0 0 0 x y) (mapZ V N 1 0 0 0 0 x y)) := by
  refine MM.of plX10_line (Nat.le_of_ble_eq_true rfl) ?_
  obtain ⟨Q, hQ⟩ : ∃ Q : Option Value → vM → Prop, Q = (dI (mapV V N 1 0 0 0 0 x y) (mapZ V N 1 0 0 0 0 x y)) := ⟨_, rfl⟩
  rw [← hQ]
  show XX g jX10_line Q V 0 [(0, .ref (g.2.1 49)), (1, .int x), (2, .int y)] []
  refine x_aload_n dX10_line_0 0 rfl ?_
  refine x_iconst (v := 1) dX10_line_1 (by decide) ?_
  refine x_iconst (v := 0) dX10_line_2 (by decide) ?_
  refine x_iconst (v := 0) dX10_line_3 (by decide) ?_
  refine x_iconst (v := 0) dX10_line_4 (by decide) ?_
  refine x_iconst (v := 0) dX10_line_5 (by decide) ?_
  refine x_iload_n dX10_line_6 1 rfl ?_
  refine x_iload_n dX10_line_7 2 rfl ?_
  refine x_callV (K := jX10_append) [.int 1, .int 0, .int 0, .int 0, .int 0, .int x, .int y] lk_X10_99 ⟨⟨rfl, rfl⟩, Nat.le_of_ble_eq_true rfl, Nat.le_of_ble_eq_true rfl⟩ rfl rfl (mX10_append V N hN hm 1 0 0 0 0 x y) rfl (Nat.le_of_ble_eq_true rfl) rfl dX10_line_8 (kdI ?_)
  obtain ⟨U1, eU1⟩ : ∃ v_v : vM, v_v = mapV V N 1 0 0 0 0 x y := ⟨_, rfl⟩
  refine YY.V eU1.symm ?_
  refine x_iret dX10_line_11 rfl ?_
  rw [hQ, ← eU1]
  exact ⟨rfl, rfl⟩
set_option maxHeartbeats 1000000 in
set_option maxRecDepth 100000 in
theorem mX10_quad {g : gX} (V : vM) (N : Nat) (hN : N ≤ 24) (hm : V 50 168 = nI N) (cx cy x y : Int32) : MM g jX10_quad V [.ref (g.2.1 49), .int cx, .int cy, .int x, .int y] (dI (mapV V N 2 cx cy 0 0 x y) (mapZ V N 2 cx cy 0 0 x y)) := by
  refine MM.of plX10_quad (Nat.le_of_ble_eq_true rfl) ?_
  obtain ⟨Q, hQ⟩ : ∃ Q : Option Value → vM → Prop, Q = (dI (mapV V N 2 cx cy 0 0 x y) (mapZ V N 2 cx cy 0 0 x y)) := ⟨_, rfl⟩
  rw [← hQ]
  show XX g jX10_quad Q V 0 [(0, .ref (g.2.1 49)), (1, .int cx), (2, .int cy), (3, .int x), (4, .int y)] []
  refine x_aload_n dX10_quad_0 0 rfl ?_
  refine x_iconst (v := 2) dX10_quad_1 (by decide) ?_
  refine x_iload_n dX10_quad_2 1 rfl ?_
  refine x_iload_n dX10_quad_3 2 rfl ?_
  refine x_iconst (v := 0) dX10_quad_4 (by decide) ?_
  refine x_iconst (v := 0) dX10_quad_5 (by decide) ?_
  refine x_iload_n dX10_quad_6 3 rfl ?_
  refine x_iload dX10_quad_7 4 rfl ?_
  refine x_callV (K := jX10_append) [.int 2, .int cx, .int cy, .int 0, .int 0, .int x, .int y] lk_X10_99 ⟨⟨rfl, rfl⟩, Nat.le_of_ble_eq_true rfl, Nat.le_of_ble_eq_true rfl⟩ rfl rfl (mX10_append V N hN hm 2 cx cy 0 0 x y) rfl (Nat.le_of_ble_eq_true rfl) rfl dX10_quad_9 (kdI ?_)
  obtain ⟨U1, eU1⟩ : ∃ v_v : vM, v_v = mapV V N 2 cx cy 0 0 x y := ⟨_, rfl⟩
  refine YY.V eU1.symm ?_
  refine x_iret dX10_quad_12 rfl ?_
  rw [hQ, ← eU1]
  exact ⟨rfl, rfl⟩
set_option maxHeartbeats 1000000 in
set_option maxRecDepth 100000 in
theorem mX10_cubic {g : gX} (V : vM) (N : Nat) (hN : N ≤ 24) (hm : V 50 168 = nI N) (ax ay bx by_ x y : Int32) : MM g jX10_cubic V [.ref (g.2.1 49), .int ax, .int ay, .int bx, .int by_, .int x, .int y] (dI (mapV V N 3 ax ay bx by_ x y) (mapZ V N 3 ax ay bx by_ x y)) := by
  refine MM.of plX10_cubic (Nat.le_of_ble_eq_true rfl) ?_
  obtain ⟨Q, hQ⟩ : ∃ Q : Option Value → vM → Prop, Q = (dI (mapV V N 3 ax ay bx by_ x y) (mapZ V N 3 ax ay bx by_ x y)) := ⟨_, rfl⟩
  rw [← hQ]
  show XX g jX10_cubic Q V 0 [(0, .ref (g.2.1 49)), (1, .int ax), (2, .int ay), (3, .int bx), (4, .int by_), (5, .int x), (6, .int y)] []
  refine x_aload_n dX10_cubic_0 0 rfl ?_
  refine x_iconst (v := 3) dX10_cubic_1 (by decide) ?_
  refine x_iload_n dX10_cubic_2 1 rfl ?_
  refine x_iload_n dX10_cubic_3 2 rfl ?_
  refine x_iload_n dX10_cubic_4 3 rfl ?_
  refine x_iload dX10_cubic_5 4 rfl ?_
  refine x_iload dX10_cubic_7 5 rfl ?_
  refine x_iload dX10_cubic_9 6 rfl ?_
  refine x_callV (K := jX10_append) [.int 3, .int ax, .int ay, .int bx, .int by_, .int x, .int y] lk_X10_99 ⟨⟨rfl, rfl⟩, Nat.le_of_ble_eq_true rfl, Nat.le_of_ble_eq_true rfl⟩ rfl rfl (mX10_append V N hN hm 3 ax ay bx by_ x y) rfl (Nat.le_of_ble_eq_true rfl) rfl dX10_cubic_11 (kdI ?_)
  obtain ⟨U1, eU1⟩ : ∃ v_v : vM, v_v = mapV V N 3 ax ay bx by_ x y := ⟨_, rfl⟩
  refine YY.V eU1.symm ?_
  refine x_iret dX10_cubic_14 rfl ?_
  rw [hQ, ← eU1]
  exact ⟨rfl, rfl⟩
set_option maxHeartbeats 1000000 in
set_option maxRecDepth 100000 in
theorem mX10_close {g : gX} (V : vM) (N : Nat) (hN : N ≤ 24) (hm : V 50 168 = nI N) : MM g jX10_close V [.ref (g.2.1 49)] (dI (mapV V N 4 0 0 0 0 0 0) (mapZ V N 4 0 0 0 0 0 0)) := by
  refine MM.of plX10_close (Nat.le_of_ble_eq_true rfl) ?_
  obtain ⟨Q, hQ⟩ : ∃ Q : Option Value → vM → Prop, Q = (dI (mapV V N 4 0 0 0 0 0 0) (mapZ V N 4 0 0 0 0 0 0)) := ⟨_, rfl⟩
  rw [← hQ]
  show XX g jX10_close Q V 0 [(0, .ref (g.2.1 49))] []
  refine x_aload_n dX10_close_0 0 rfl ?_
  refine x_iconst (v := 4) dX10_close_1 (by decide) ?_
  refine x_iconst (v := 0) dX10_close_2 (by decide) ?_
  refine x_iconst (v := 0) dX10_close_3 (by decide) ?_
  refine x_iconst (v := 0) dX10_close_4 (by decide) ?_
  refine x_iconst (v := 0) dX10_close_5 (by decide) ?_
  refine x_iconst (v := 0) dX10_close_6 (by decide) ?_
  refine x_iconst (v := 0) dX10_close_7 (by decide) ?_
  refine x_callV (K := jX10_append) [.int 4, .int 0, .int 0, .int 0, .int 0, .int 0, .int 0] lk_X10_99 ⟨⟨rfl, rfl⟩, Nat.le_of_ble_eq_true rfl, Nat.le_of_ble_eq_true rfl⟩ rfl rfl (mX10_append V N hN hm 4 0 0 0 0 0 0) rfl (Nat.le_of_ble_eq_true rfl) rfl dX10_close_8 (kdI ?_)
  obtain ⟨U1, eU1⟩ : ∃ v_v : vM, v_v = mapV V N 4 0 0 0 0 0 0 := ⟨_, rfl⟩
  refine YY.V eU1.symm ?_
  refine x_iret dX10_close_11 rfl ?_
  rw [hQ, ← eU1]
  exact ⟨rfl, rfl⟩
set_option maxHeartbeats 1000000 in
set_option maxRecDepth 100000 in
theorem mX10_removeLast {g : gX} (V : vM) (N : Nat) (hN : N ≤ 24) (hm : V 50 168 = nI N) : MM g jX10_removeLast V [.ref (g.2.1 49)] (dI (if N = 0 then V else uM V 50 168 (nI (N - 1))) (if N = 0 then -1000005 else nI (N - 1))) := by
  refine MM.of plX10_removeLast (Nat.le_of_ble_eq_true rfl) ?_
  obtain ⟨Q, hQ⟩ : ∃ Q : Option Value → vM → Prop, Q = (dI (if N = 0 then V else uM V 50 168 (nI (N - 1))) (if N = 0 then -1000005 else nI (N - 1))) := ⟨_, rfl⟩
  rw [← hQ]
  show XX g jX10_removeLast Q V 0 [(0, .ref (g.2.1 49))] []
  refine x_aload_n dX10_removeLast_0 0 rfl ?_
  refine x_callV (K := jX10_many) [] lk_X10_89 ⟨⟨rfl, rfl⟩, Nat.le_of_ble_eq_true rfl, Nat.le_of_ble_eq_true rfl⟩ rfl rfl (mX10_many V) rfl (Nat.le_of_ble_eq_true rfl) rfl dX10_removeLast_1 (kpI ?_)
  refine x_topi (hm) ?_
  refine x_if_ne 10 dX10_removeLast_4 (by decide) (fun c1 => ?_) (fun c1 => ?_)
  · have c1n : ¬ N = 0 := fun q => c1 ((nl_eq (a := N) (b := 0) (rfl) (rfl) (by omega) (by omega)).mpr q)
    refine x_aload_n dX10_removeLast_10 0 rfl ?_
    refine x_getR fl_X10_9 rfl rfl dX10_removeLast_11 ?_
    refine x_sipush (v := 168) dX10_removeLast_14 (by decide) ?_
    refine x_dup2 dX10_removeLast_17 rfl rfl ?_
    have q2 : (168 : Int32) = nI 168 := rfl
    refine YY.S (st' := [.int (nI 168), .ref (g.2.1 50), .int 168, .ref (g.2.1 50)]) (by rw [q2]) ?_
    have b3 : vp_in (nI 168) 170 := by exact vp_in_nI (by omega) (by decide)
    refine x_iald rfl b3 dX10_removeLast_18 ?_
    refine x_topi (y := V 50 168) (by rw [nI_clamp (by omega)]) ?_
    refine x_topi (hm) ?_
    refine x_iconst (v := 1) dX10_removeLast_19 (by decide) ?_
    refine x_isub dX10_removeLast_20 ?_
    have q4 : (168 : Int32) = nI 168 := rfl
    refine YY.S (st' := [.int ((nI N) - 1), .int (nI 168), .ref (g.2.1 50)]) (by rw [q4]) ?_
    have b5 : vp_in (nI 168) 170 := by exact vp_in_nI (by omega) (by decide)
    refine x_iast rfl b5 dX10_removeLast_21 ?_
    refine YY.V (V' := uM V 50 168 ((nI N) - 1)) (by rw [nI_clamp (by omega)]) ?_
    obtain ⟨U6, eU6⟩ : ∃ v_v : vM, v_v = uM V 50 168 ((nI N) - 1) := ⟨_, rfl⟩
    refine YY.V eU6.symm ?_
    refine x_aload_n dX10_removeLast_22 0 rfl ?_
    refine x_callV (K := jX10_many) [] lk_X10_89 ⟨⟨rfl, rfl⟩, Nat.le_of_ble_eq_true rfl, Nat.le_of_ble_eq_true rfl⟩ rfl rfl (mX10_many U6) rfl (Nat.le_of_ble_eq_true rfl) rfl dX10_removeLast_23 (kpI ?_)
    refine x_topi (y := (nI N) - 1) (by rw [eU6, uM_hit]) ?_
    refine x_iret dX10_removeLast_26 rfl ?_
    rw [hQ]
    subst_vars
    first | exact ⟨by rw [if_pos (by omega)], by rw [if_pos (by omega)]⟩ | (have e := (nsub (a := N) (b := 1) (by omega) rfl rfl : nI N - 1 = nI (N - 1)); exact ⟨by rw [if_neg (by omega), e], by rw [if_neg (by omega), e]⟩)
  · have c1n : N = 0 := (nl_eq (a := N) (b := 0) (rfl) (rfl) (by omega) (by omega)).mp c1
    refine x_ldc ct_X10_97 dX10_removeLast_7 ?_
    refine x_iret dX10_removeLast_9 rfl ?_
    rw [hQ]
    subst_vars
    first | exact ⟨by rw [if_pos (by omega)], by rw [if_pos (by omega)]⟩ | (have e := (nsub (a := N) (b := 1) (by omega) rfl rfl : nI N - 1 = nI (N - 1)); exact ⟨by rw [if_neg (by omega), e], by rw [if_neg (by omega), e]⟩)
set_option maxHeartbeats 1000000 in
set_option maxRecDepth 100000 in
theorem mX10_setTolerance {g : gX} (V : vM) (t : Int32) : MM g jX10_setTolerance V [.ref (g.2.1 49), .int t] (dI (if 1 ≤ t ∧ t ≤ 1000 then uM V 50 169 t else V) (if 1 ≤ t ∧ t ≤ 1000 then V 50 169 else -1000002)) := by
  refine MM.of plX10_setTolerance (Nat.le_of_ble_eq_true rfl) ?_
  obtain ⟨Q, hQ⟩ : ∃ Q : Option Value → vM → Prop, Q = (dI (if 1 ≤ t ∧ t ≤ 1000 then uM V 50 169 t else V) (if 1 ≤ t ∧ t ≤ 1000 then V 50 169 else -1000002)) := ⟨_, rfl⟩
  rw [← hQ]
  show XX g jX10_setTolerance Q V 0 [(0, .ref (g.2.1 49)), (1, .int t)] []
  refine x_iload_n dX10_setTolerance_0 1 rfl ?_
  refine x_iconst (v := 1) dX10_setTolerance_1 (by decide) ?_
  refine x_sipush (v := 1000) dX10_setTolerance_2 (by decide) ?_
  refine x_callS (K := jX10_in) [.int t, .int 1, .int 1000] lk_X10_80 ⟨⟨rfl, rfl⟩, Nat.le_of_ble_eq_true rfl, Nat.le_of_ble_eq_true rfl⟩ (mX10_in V t 1 1000) rfl (Nat.le_of_ble_eq_true rfl) rfl dX10_setTolerance_5 (kpI ?_)
  refine x_if_ne 14 dX10_setTolerance_8 (by decide) (fun c1 => ?_) (fun c1 => ?_)
  · have c1n : (1 ≤ t ∧ t ≤ 1000) := Classical.not_not.mp (fun q => c1 (iB_0.mpr q))
    refine x_aload_n dX10_setTolerance_14 0 rfl ?_
    refine x_getR fl_X10_9 rfl rfl dX10_setTolerance_15 ?_
    refine x_sipush (v := 169) dX10_setTolerance_18 (by decide) ?_
    have q2 : (169 : Int32) = nI 169 := rfl
    refine YY.S (st' := [.int (nI 169), .ref (g.2.1 50)]) (by rw [q2]) ?_
    have b3 : vp_in (nI 169) 170 := by exact vp_in_nI (by omega) (by decide)
    refine x_iald rfl b3 dX10_setTolerance_21 ?_
    refine x_topi (y := V 50 169) (by rw [nI_clamp (by omega)]) ?_
    refine x_istore_n 2 [(2, .int (V 50 169)), (0, .ref (g.2.1 49)), (1, .int t)] dX10_setTolerance_22 rfl (by decide) rfl ?_
    refine x_aload_n dX10_setTolerance_23 1 rfl ?_
    refine x_getR fl_X10_9 rfl rfl dX10_setTolerance_24 ?_
    refine x_sipush (v := 169) dX10_setTolerance_27 (by decide) ?_
    refine x_iload_n dX10_setTolerance_30 2 rfl ?_
    have q4 : (169 : Int32) = nI 169 := rfl
    refine YY.S (st' := [.int t, .int (nI 169), .ref (g.2.1 50)]) (by rw [q4]) ?_
    have b5 : vp_in (nI 169) 170 := by exact vp_in_nI (by omega) (by decide)
    refine x_iast rfl b5 dX10_setTolerance_31 ?_
    refine YY.V (V' := uM V 50 169 t) (by rw [nI_clamp (by omega)]) ?_
    obtain ⟨U6, eU6⟩ : ∃ v_v : vM, v_v = uM V 50 169 t := ⟨_, rfl⟩
    refine YY.V eU6.symm ?_
    refine x_iload_n dX10_setTolerance_32 0 rfl ?_
    refine x_iret dX10_setTolerance_33 rfl ?_
    rw [hQ]
    refine ⟨?_, ?_⟩
    · subst_vars; first | rfl | grind
    · congr 2; first | rfl | grind
  · have c1n : ¬ (1 ≤ t ∧ t ≤ 1000) := iB_0.mp c1
    refine x_ldc ct_X10_88 dX10_setTolerance_11 ?_
    refine x_iret dX10_setTolerance_13 rfl ?_
    rw [hQ]
    refine ⟨?_, ?_⟩
    · subst_vars; first | rfl | grind
    · congr 2; first | rfl | grind
set_option maxHeartbeats 1000000 in
set_option maxRecDepth 100000 in
theorem mX10_moveOf {g : gX} (V : vM) (N : Nat) (hN : N ≤ 24) (hm : V 50 168 = nI N) (hw : WF (V 50) N) (c : Nat) (hc : c < N) : MM g jX10_moveOf V [.ref (g.2.1 49), .int (nI c)] (pI V (nI (mv7 (V 50) c))) := by
  refine MM.of plX10_moveOf (Nat.le_of_ble_eq_true rfl) ?_
  obtain ⟨Q, hQ⟩ : ∃ Q : Option Value → vM → Prop, Q = (pI V (nI (mv7 (V 50) c))) := ⟨_, rfl⟩
  rw [← hQ]
  show XX g jX10_moveOf Q V 0 [(0, .ref (g.2.1 49)), (1, .int (nI c))] []
  refine x_iload_n dX10_moveOf_0 1 rfl ?_
  refine x_istore_n 2 [(2, .int (nI c)), (0, .ref (g.2.1 49)), (1, .int (nI c))] dX10_moveOf_1 rfl (by decide) rfl ?_
  have lp1 : ∀ (fu : Nat) (j : Nat), (j ≤ c) → (mv7 (V 50) j = mv7 (V 50) c) → (j) < fu → XX g jX10_moveOf Q V 2 [(2, .int (nI j)), (0, .ref (g.2.1 49)), (1, .int (nI c))] [] := by
    intro fu
    induction fu with
    | zero => intro _ _ _ hmz; exact absurd hmz (Nat.not_lt_zero _)
    | succ fu ih =>
      intro j hj hv hmz
      refine x_aload_n dX10_moveOf_2 1 rfl ?_
      refine x_iload_n dX10_moveOf_3 0 rfl ?_
      refine x_callV (K := jX10_kind) [.int (nI j)] lk_X10_93 ⟨⟨rfl, rfl⟩, Nat.le_of_ble_eq_true rfl, Nat.le_of_ble_eq_true rfl⟩ rfl rfl (mX10_kind V j (by omega)) rfl (Nat.le_of_ble_eq_true rfl) rfl dX10_moveOf_4 (kpI ?_)
      refine x_if_eq 16 dX10_moveOf_7 (by decide) (fun c2 => ?_) (fun c2 => ?_)
      · refine x_iload_n dX10_moveOf_16 0 rfl ?_
        refine x_iret dX10_moveOf_17 rfl ?_
        rw [hQ]
        refine ⟨rfl, ?_⟩
        rw [← hv]
        cases j with
        | zero => rfl
        | succ j => simp [mv7, *]
      · refine x_iinc 2 (v := (nI j) + (-1)) 0 [(2, .int ((nI j) + (-1))), (0, .ref (g.2.1 49)), (1, .int (nI c))] dX10_moveOf_10 rfl (by rfl) (by decide) rfl ?_
        refine x_goto 2 dX10_moveOf_13 (by decide) ?_
        refine YY.L (lv' := [(2, .int (nI (j - 1))), (0, .ref (g.2.1 49)), (1, .int (nI c))]) (by obtain ⟨j1, rfl⟩ : ∃ j1, j = j1 + 1 := ⟨j - 1, by have := hw.first (by omega); rcases Nat.eq_zero_or_pos j with q | q; (subst q; exact absurd this (by assumption)); omega⟩; rw [Nat.add_sub_cancel, pk_m1]) ?_
        exact ih (j - 1) (by omega) (by obtain ⟨j1, rfl⟩ : ∃ j1, j = j1 + 1 := ⟨j - 1, by have := hw.first (by omega); rcases Nat.eq_zero_or_pos j with q | q; (subst q; exact absurd this (by assumption)); omega⟩; rw [← hv, Nat.add_sub_cancel]; simp [mv7, *]) (by have := hw.first (by omega); rcases Nat.eq_zero_or_pos j with q | q; (subst q; exact absurd this (by assumption)); omega)
  exact lp1 _ c (by omega) (by rfl) (Nat.lt_succ_self _)
set_option maxHeartbeats 1000000 in
set_option maxRecDepth 100000 in
theorem mX10_endX {g : gX} (V : vM) (N : Nat) (hN : N ≤ 24) (hm : V 50 168 = nI N) (hw : WF (V 50) N) (c : Nat) (hc : c < N) : MM g jX10_endX V [.ref (g.2.1 49), .int (nI c)] (pI V (ex7 (V 50) c)) := by
  refine MM.of plX10_endX (Nat.le_of_ble_eq_true rfl) ?_
  obtain ⟨Q, hQ⟩ : ∃ Q : Option Value → vM → Prop, Q = (pI V (ex7 (V 50) c)) := ⟨_, rfl⟩
  rw [← hQ]
  show XX g jX10_endX Q V 0 [(0, .ref (g.2.1 49)), (1, .int (nI c))] []
  have hmv := mv7_le (V 50) c
  refine x_aload_n dX10_endX_0 0 rfl ?_
  refine x_getR fl_X10_9 rfl rfl dX10_endX_1 ?_
  refine x_bipush (v := 7) dX10_endX_4 (by decide) ?_
  refine x_aload_n dX10_endX_6 0 rfl ?_
  refine x_iload_n dX10_endX_7 1 rfl ?_
  refine x_callV (K := jX10_kind) [.int (nI c)] lk_X10_93 ⟨⟨rfl, rfl⟩, Nat.le_of_ble_eq_true rfl, Nat.le_of_ble_eq_true rfl⟩ rfl rfl (mX10_kind V c (by omega)) rfl (Nat.le_of_ble_eq_true rfl) rfl dX10_endX_8 (kpI ?_)
  refine x_iconst (v := 4) dX10_endX_11 (by decide) ?_
  refine x_icmp_ne 23 dX10_endX_12 (by decide) (fun c1 => ?_) (fun c1 => ?_)
  · refine x_iload_n dX10_endX_23 1 rfl ?_
    refine x_imul dX10_endX_24 ?_
    refine x_iconst (v := 5) dX10_endX_25 (by decide) ?_
    refine x_iadd dX10_endX_26 ?_
    have q2 : ((7 * (nI c)) + 5 : Int32) = nI ((7 * c) + 5) := nadd (nmul (rfl) (rfl)) (rfl)
    refine YY.S (st' := [.int (nI ((7 * c) + 5)), .ref (g.2.1 50)]) (by rw [q2]) ?_
    have b3 : vp_in (nI ((7 * c) + 5)) 170 := by exact vp_in_nI (by omega) (by decide)
    refine x_iald rfl b3 dX10_endX_27 ?_
    refine x_topi (y := V 50 ((7 * c) + 5)) (by rw [nI_clamp (by omega)]) ?_
    refine x_iret dX10_endX_28 rfl ?_
    rw [hQ]
    refine ⟨rfl, ?_⟩
    unfold ex7
    first | rw [if_pos (by assumption), Nat.mul_comm] | rw [if_neg (by assumption), Nat.mul_comm]
  · refine x_aload_n dX10_endX_15 0 rfl ?_
    refine x_iload_n dX10_endX_16 1 rfl ?_
    refine x_callV (K := jX10_moveOf) [.int (nI c)] lk_X10_104 ⟨⟨rfl, rfl⟩, Nat.le_of_ble_eq_true rfl, Nat.le_of_ble_eq_true rfl⟩ rfl rfl (mX10_moveOf V N hN hm hw c (by omega)) rfl (Nat.le_of_ble_eq_true rfl) rfl dX10_endX_17 (kpI ?_)
    refine x_goto 24 dX10_endX_20 (by decide) ?_
    refine x_imul dX10_endX_24 ?_
    refine x_iconst (v := 5) dX10_endX_25 (by decide) ?_
    refine x_iadd dX10_endX_26 ?_
    have q4 : ((7 * (nI (mv7 (V 50) c))) + 5 : Int32) = nI ((7 * (mv7 (V 50) c)) + 5) := nadd (nmul (rfl) (rfl)) (rfl)
    refine YY.S (st' := [.int (nI ((7 * (mv7 (V 50) c)) + 5)), .ref (g.2.1 50)]) (by rw [q4]) ?_
    have b5 : vp_in (nI ((7 * (mv7 (V 50) c)) + 5)) 170 := by exact vp_in_nI (by omega) (by decide)
    refine x_iald rfl b5 dX10_endX_27 ?_
    refine x_topi (y := V 50 ((7 * (mv7 (V 50) c)) + 5)) (by rw [nI_clamp (by omega)]) ?_
    refine x_iret dX10_endX_28 rfl ?_
    rw [hQ]
    refine ⟨rfl, ?_⟩
    unfold ex7
    first | rw [if_pos (by assumption), Nat.mul_comm] | rw [if_neg (by assumption), Nat.mul_comm]
set_option maxHeartbeats 1000000 in
set_option maxRecDepth 100000 in
theorem mX10_endY {g : gX} (V : vM) (N : Nat) (hN : N ≤ 24) (hm : V 50 168 = nI N) (hw : WF (V 50) N) (c : Nat) (hc : c < N) : MM g jX10_endY V [.ref (g.2.1 49), .int (nI c)] (pI V (ey7 (V 50) c)) := by
  refine MM.of plX10_endY (Nat.le_of_ble_eq_true rfl) ?_
  obtain ⟨Q, hQ⟩ : ∃ Q : Option Value → vM → Prop, Q = (pI V (ey7 (V 50) c)) := ⟨_, rfl⟩
  rw [← hQ]
  show XX g jX10_endY Q V 0 [(0, .ref (g.2.1 49)), (1, .int (nI c))] []
  have hmv := mv7_le (V 50) c
  refine x_aload_n dX10_endY_0 0 rfl ?_
  refine x_getR fl_X10_9 rfl rfl dX10_endY_1 ?_
  refine x_bipush (v := 7) dX10_endY_4 (by decide) ?_
  refine x_aload_n dX10_endY_6 0 rfl ?_
  refine x_iload_n dX10_endY_7 1 rfl ?_
  refine x_callV (K := jX10_kind) [.int (nI c)] lk_X10_93 ⟨⟨rfl, rfl⟩, Nat.le_of_ble_eq_true rfl, Nat.le_of_ble_eq_true rfl⟩ rfl rfl (mX10_kind V c (by omega)) rfl (Nat.le_of_ble_eq_true rfl) rfl dX10_endY_8 (kpI ?_)
  refine x_iconst (v := 4) dX10_endY_11 (by decide) ?_
  refine x_icmp_ne 23 dX10_endY_12 (by decide) (fun c1 => ?_) (fun c1 => ?_)
  · refine x_iload_n dX10_endY_23 1 rfl ?_
    refine x_imul dX10_endY_24 ?_
    refine x_bipush (v := 6) dX10_endY_25 (by decide) ?_
    refine x_iadd dX10_endY_27 ?_
    have q2 : ((7 * (nI c)) + 6 : Int32) = nI ((7 * c) + 6) := nadd (nmul (rfl) (rfl)) (rfl)
    refine YY.S (st' := [.int (nI ((7 * c) + 6)), .ref (g.2.1 50)]) (by rw [q2]) ?_
    have b3 : vp_in (nI ((7 * c) + 6)) 170 := by exact vp_in_nI (by omega) (by decide)
    refine x_iald rfl b3 dX10_endY_28 ?_
    refine x_topi (y := V 50 ((7 * c) + 6)) (by rw [nI_clamp (by omega)]) ?_
    refine x_iret dX10_endY_29 rfl ?_
    rw [hQ]
    refine ⟨rfl, ?_⟩
    unfold ey7
    first | rw [if_pos (by assumption), Nat.mul_comm] | rw [if_neg (by assumption), Nat.mul_comm]
  · refine x_aload_n dX10_endY_15 0 rfl ?_
    refine x_iload_n dX10_endY_16 1 rfl ?_
    refine x_callV (K := jX10_moveOf) [.int (nI c)] lk_X10_104 ⟨⟨rfl, rfl⟩, Nat.le_of_ble_eq_true rfl, Nat.le_of_ble_eq_true rfl⟩ rfl rfl (mX10_moveOf V N hN hm hw c (by omega)) rfl (Nat.le_of_ble_eq_true rfl) rfl dX10_endY_17 (kpI ?_)
    refine x_goto 24 dX10_endY_20 (by decide) ?_
    refine x_imul dX10_endY_24 ?_
    refine x_bipush (v := 6) dX10_endY_25 (by decide) ?_
    refine x_iadd dX10_endY_27 ?_
    have q4 : ((7 * (nI (mv7 (V 50) c))) + 6 : Int32) = nI ((7 * (mv7 (V 50) c)) + 6) := nadd (nmul (rfl) (rfl)) (rfl)
    refine YY.S (st' := [.int (nI ((7 * (mv7 (V 50) c)) + 6)), .ref (g.2.1 50)]) (by rw [q4]) ?_
    have b5 : vp_in (nI ((7 * (mv7 (V 50) c)) + 6)) 170 := by exact vp_in_nI (by omega) (by decide)
    refine x_iald rfl b5 dX10_endY_28 ?_
    refine x_topi (y := V 50 ((7 * (mv7 (V 50) c)) + 6)) (by rw [nI_clamp (by omega)]) ?_
    refine x_iret dX10_endY_29 rfl ?_
    rw [hQ]
    refine ⟨rfl, ?_⟩
    unfold ey7
    first | rw [if_pos (by assumption), Nat.mul_comm] | rw [if_neg (by assumption), Nat.mul_comm]
set_option maxHeartbeats 1000000 in
set_option maxRecDepth 100000 in
theorem mX10_contourOf {g : gX} (V : vM) (c : Nat) (hc : c < 24) : MM g jX10_contourOf V [.ref (g.2.1 49), .int (nI c)] (pI V (if cntM (kd7 (V 50)) (c + 1) = 0 then -1000006 else nI (cntM (kd7 (V 50)) (c + 1) - 1))) := by
  refine MM.of plX10_contourOf (Nat.le_of_ble_eq_true rfl) ?_
  obtain ⟨Q, hQ⟩ : ∃ Q : Option Value → vM → Prop, Q = (pI V (if cntM (kd7 (V 50)) (c + 1) = 0 then -1000006 else nI (cntM (kd7 (V 50)) (c + 1) - 1))) := ⟨_, rfl⟩
  rw [← hQ]
  show XX g jX10_contourOf Q V 0 [(0, .ref (g.2.1 49)), (1, .int (nI c))] []
  refine x_ldc ct_X10_103 dX10_contourOf_0 ?_
  refine x_istore_n 2 [(2, .int (-1000006)), (0, .ref (g.2.1 49)), (1, .int (nI c))] dX10_contourOf_2 rfl (by decide) rfl ?_
  refine x_iconst (v := 0) dX10_contourOf_3 (by decide) ?_
  refine x_istore_n 3 [(3, .int 0), (2, .int (-1000006)), (0, .ref (g.2.1 49)), (1, .int (nI c))] dX10_contourOf_4 rfl (by decide) rfl ?_
  have lp1 : ∀ (fu : Nat) (i : Nat) (z : Int32), (i ≤ c + 1) → (z = if cntM (kd7 (V 50)) i = 0 then -1000006 else nI (cntM (kd7 (V 50)) i - 1)) → (c + 1 - i) < fu → XX g jX10_contourOf Q V 5 [(3, .int (nI i)), (2, .int z), (0, .ref (g.2.1 49)), (1, .int (nI c))] [] := by
    intro fu
    induction fu with
    | zero => intro _ _ _ _ hmz; exact absurd hmz (Nat.not_lt_zero _)
    | succ fu ih =>
      intro i z hi hz hmz
      have hcl := cntM_le (kd7 (V 50)) i
      refine x_iload_n dX10_contourOf_5 0 rfl ?_
      refine x_iload_n dX10_contourOf_6 3 rfl ?_
      refine x_icmp_gt 40 dX10_contourOf_7 (by decide) (fun c2 => ?_) (fun c2 => ?_)
      · have c2n : c < i := (nl_lt (a := c) (b := i) (rfl) (rfl) (by omega) (by omega)).mp c2
        refine x_iload_n dX10_contourOf_40 1 rfl ?_
        refine x_iret dX10_contourOf_41 rfl ?_
        rw [hQ]
        refine ⟨rfl, ?_⟩
        rw [hz, show i = c + 1 by omega]
      · have c2n : i ≤ c := Nat.not_lt.mp (fun q => c2 ((nl_lt (a := c) (b := i) (rfl) (rfl) (by omega) (by omega)).mpr q))
        refine x_aload_n dX10_contourOf_10 2 rfl ?_
        refine x_iload_n dX10_contourOf_11 0 rfl ?_
        refine x_callV (K := jX10_kind) [.int (nI i)] lk_X10_93 ⟨⟨rfl, rfl⟩, Nat.le_of_ble_eq_true rfl, Nat.le_of_ble_eq_true rfl⟩ rfl rfl (mX10_kind V i (by omega)) rfl (Nat.le_of_ble_eq_true rfl) rfl dX10_contourOf_12 (kpI ?_)
        refine x_if_ne 32 dX10_contourOf_15 (by decide) (fun c3 => ?_) (fun c3 => ?_)
        · refine x_iload_n dX10_contourOf_32 1 rfl ?_
          refine x_istore_n 2 [(2, .int z), (3, .int (nI i)), (0, .ref (g.2.1 49)), (1, .int (nI c))] dX10_contourOf_33 rfl (by decide) rfl ?_
          refine x_iinc 3 (v := (nI i) + 1) 1 [(3, .int ((nI i) + 1)), (2, .int z), (0, .ref (g.2.1 49)), (1, .int (nI c))] dX10_contourOf_34 rfl (by rfl) (by decide) rfl ?_
          refine x_goto 5 dX10_contourOf_37 (by decide) ?_
          refine YY.L (lv' := [(3, .int (nI (i + 1))), (2, .int z), (0, .ref (g.2.1 49)), (1, .int (nI c))]) (by first | rfl | (simp only [nI_1]; done) | (simp only [← nI_add]; rfl)) ?_
          exact ih (i + 1) z (by omega) (by first | exact cont_no hz (by assumption) | exact cont_1 hz (by assumption) (by assumption) (by omega) | exact cont_0 hz (by assumption) (by assumption) (by omega)) (by omega)
        · refine x_iload_n dX10_contourOf_18 1 rfl ?_
          refine x_if_ge 26 dX10_contourOf_19 (by decide) (fun c4 => ?_) (fun c4 => ?_)
          · refine x_iload_n dX10_contourOf_26 1 rfl ?_
            refine x_iconst (v := 1) dX10_contourOf_27 (by decide) ?_
            refine x_iadd dX10_contourOf_28 ?_
            refine x_goto 33 dX10_contourOf_29 (by decide) ?_
            refine x_istore_n 2 [(2, .int (z + 1)), (3, .int (nI i)), (0, .ref (g.2.1 49)), (1, .int (nI c))] dX10_contourOf_33 rfl (by decide) rfl ?_
            refine x_iinc 3 (v := (nI i) + 1) 1 [(3, .int ((nI i) + 1)), (2, .int (z + 1)), (0, .ref (g.2.1 49)), (1, .int (nI c))] dX10_contourOf_34 rfl (by rfl) (by decide) rfl ?_
            refine x_goto 5 dX10_contourOf_37 (by decide) ?_
            refine YY.L (lv' := [(3, .int (nI (i + 1))), (2, .int (z + 1)), (0, .ref (g.2.1 49)), (1, .int (nI c))]) (by first | rfl | (simp only [nI_1]; done) | (simp only [← nI_add]; rfl)) ?_
            exact ih (i + 1) (z + 1) (by omega) (by first | exact cont_no hz (by assumption) | exact cont_1 hz (by assumption) (by assumption) (by omega) | exact cont_0 hz (by assumption) (by assumption) (by omega)) (by omega)
          · refine x_iconst (v := 0) dX10_contourOf_22 (by decide) ?_
            refine x_goto 33 dX10_contourOf_23 (by decide) ?_
            refine x_istore_n 2 [(2, .int 0), (3, .int (nI i)), (0, .ref (g.2.1 49)), (1, .int (nI c))] dX10_contourOf_33 rfl (by decide) rfl ?_
            refine x_iinc 3 (v := (nI i) + 1) 1 [(3, .int ((nI i) + 1)), (2, .int 0), (0, .ref (g.2.1 49)), (1, .int (nI c))] dX10_contourOf_34 rfl (by rfl) (by decide) rfl ?_
            refine x_goto 5 dX10_contourOf_37 (by decide) ?_
            refine YY.L (lv' := [(3, .int (nI (i + 1))), (2, .int 0), (0, .ref (g.2.1 49)), (1, .int (nI c))]) (by first | rfl | (simp only [nI_1]; done) | (simp only [← nI_add]; rfl)) ?_
            exact ih (i + 1) 0 (by omega) (by first | exact cont_no hz (by assumption) | exact cont_1 hz (by assumption) (by assumption) (by omega) | exact cont_0 hz (by assumption) (by assumption) (by omega)) (by omega)
  refine YY.L (lv' := [(3, .int (nI 0)), (2, .int (-1000006)), (0, .ref (g.2.1 49)), (1, .int (nI c))]) (by first | rfl | simp) ?_
  exact lp1 _ 0 (-1000006) (by omega) (by rfl) (Nat.lt_succ_self _)
set_option maxHeartbeats 1000000 in
set_option maxRecDepth 100000 in
theorem mX10_contours {g : gX} (V : vM) (N : Nat) (hN : N ≤ 24) (hm : V 50 168 = nI N) (hw : WF (V 50) N) : MM g jX10_contours V [.ref (g.2.1 49)] (pI V (nI (cntM (kd7 (V 50)) N))) := by
  refine MM.of plX10_contours (Nat.le_of_ble_eq_true rfl) ?_
  obtain ⟨Q, hQ⟩ : ∃ Q : Option Value → vM → Prop, Q = (pI V (nI (cntM (kd7 (V 50)) N))) := ⟨_, rfl⟩
  rw [← hQ]
  show XX g jX10_contours Q V 0 [(0, .ref (g.2.1 49))] []
  refine x_aload_n dX10_contours_0 0 rfl ?_
  refine x_callV (K := jX10_many) [] lk_X10_89 ⟨⟨rfl, rfl⟩, Nat.le_of_ble_eq_true rfl, Nat.le_of_ble_eq_true rfl⟩ rfl rfl (mX10_many V) rfl (Nat.le_of_ble_eq_true rfl) rfl dX10_contours_1 (kpI ?_)
  refine x_topi (hm) ?_
  refine x_if_ne 11 dX10_contours_4 (by decide) (fun c1 => ?_) (fun c1 => ?_)
  · have c1n : ¬ N = 0 := fun q => c1 ((nl_eq (a := N) (b := 0) (rfl) (rfl) (by omega) (by omega)).mpr q)
    refine x_aload_n dX10_contours_11 0 rfl ?_
    refine x_aload_n dX10_contours_12 0 rfl ?_
    refine x_callV (K := jX10_many) [] lk_X10_89 ⟨⟨rfl, rfl⟩, Nat.le_of_ble_eq_true rfl, Nat.le_of_ble_eq_true rfl⟩ rfl rfl (mX10_many V) rfl (Nat.le_of_ble_eq_true rfl) rfl dX10_contours_13 (kpI ?_)
    refine x_topi (hm) ?_
    refine x_iconst (v := 1) dX10_contours_16 (by decide) ?_
    refine x_isub dX10_contours_17 ?_
    have q2 : ((nI N) - 1 : Int32) = nI (N - 1) := nsub (by omega) (rfl) (rfl)
    refine YY.S (st' := [.int (nI (N - 1)), .ref (g.2.1 49)]) (by rw [q2]) ?_
    refine x_callV (K := jX10_contourOf) [.int (nI (N - 1))] lk_X10_108 ⟨⟨rfl, rfl⟩, Nat.le_of_ble_eq_true rfl, Nat.le_of_ble_eq_true rfl⟩ rfl rfl (mX10_contourOf V (N - 1) (by omega)) rfl (Nat.le_of_ble_eq_true rfl) rfl dX10_contours_18 (kpI ?_)
    refine x_iconst (v := 1) dX10_contours_21 (by decide) ?_
    refine x_iadd dX10_contours_22 ?_
    refine x_iret dX10_contours_23 rfl ?_
    rw [hQ]
    refine ⟨rfl, ?_⟩
    rcases Nat.eq_zero_or_pos N with q | q
    · subst q; first | rfl | (exfalso; omega)
    · have hp := cntM_pos (K := kd7 (V 50)) (by have := hw.first q; simpa [kd7] using this) (N - 1)
      first | (exfalso; omega) | (rw [if_neg (by omega), show N - 1 + 1 = N by omega] at *; congr 2; rw [show cntM (kd7 (V 50)) N = cntM (kd7 (V 50)) N - 1 + 1 by omega, nI_succ]; rfl)
  · have c1n : N = 0 := (nl_eq (a := N) (b := 0) (rfl) (rfl) (by omega) (by omega)).mp c1
    refine x_iconst (v := 0) dX10_contours_7 (by decide) ?_
    refine x_goto 23 dX10_contours_8 (by decide) ?_
    refine x_iret dX10_contours_23 rfl ?_
    rw [hQ]
    refine ⟨rfl, ?_⟩
    rcases Nat.eq_zero_or_pos N with q | q
    · subst q; first | rfl | (exfalso; omega)
    · have hp := cntM_pos (K := kd7 (V 50)) (by have := hw.first q; simpa [kd7] using this) (N - 1)
      first | (exfalso; omega) | (rw [if_neg (by omega), show N - 1 + 1 = N by omega] at *; congr 2; rw [show cntM (kd7 (V 50)) N = cntM (kd7 (V 50)) N - 1 + 1 by omega, nI_succ]; rfl)
set_option maxHeartbeats 1000000 in
set_option maxRecDepth 100000 in
theorem mX10_isContour {g : gX} (V : vM) (N : Nat) (hN : N ≤ 24) (hm : V 50 168 = nI N) (hw : WF (V 50) N) (c : Int32) : MM g jX10_isContour V [.ref (g.2.1 49), .int c] (pI V (iB (0 ≤ c ∧ c < nI (cntM (kd7 (V 50)) N)))) := by
  refine MM.of plX10_isContour (Nat.le_of_ble_eq_true rfl) ?_
  obtain ⟨Q, hQ⟩ : ∃ Q : Option Value → vM → Prop, Q = (pI V (iB (0 ≤ c ∧ c < nI (cntM (kd7 (V 50)) N)))) := ⟨_, rfl⟩
  rw [← hQ]
  show XX g jX10_isContour Q V 0 [(0, .ref (g.2.1 49)), (1, .int c)] []
  refine x_iload_n dX10_isContour_0 1 rfl ?_
  refine x_iconst (v := 0) dX10_isContour_1 (by decide) ?_
  refine x_aload_n dX10_isContour_2 0 rfl ?_
  refine x_callV (K := jX10_contours) [] lk_X10_120 ⟨⟨rfl, rfl⟩, Nat.le_of_ble_eq_true rfl, Nat.le_of_ble_eq_true rfl⟩ rfl rfl (mX10_contours V N hN hm hw) rfl (Nat.le_of_ble_eq_true rfl) rfl dX10_isContour_3 (kpI ?_)
  refine x_iconst (v := 1) dX10_isContour_6 (by decide) ?_
  refine x_isub dX10_isContour_7 ?_
  refine x_callS (K := jX10_in) [.int c, .int 0, .int ((nI (cntM (kd7 (V 50)) N)) - 1)] lk_X10_80 ⟨⟨rfl, rfl⟩, Nat.le_of_ble_eq_true rfl, Nat.le_of_ble_eq_true rfl⟩ (mX10_in V c 0 ((nI (cntM (kd7 (V 50)) N)) - 1)) rfl (Nat.le_of_ble_eq_true rfl) rfl dX10_isContour_8 (kpI ?_)
  refine x_zret dX10_isContour_11 rfl (by exact nar01 (by first | exact Or.inl rfl | exact Or.inr rfl | grind)) ?_
  rw [hQ]
  refine ⟨rfl, ?_⟩
  congr 2
  apply iB_iff
  have hc := cntM_le (kd7 (V 50)) N
  have e : (nI (cntM (kd7 (V 50)) N)).toInt = cntM (kd7 (V 50)) N := nI_toInt (by omega)
  rw [Int32.le_iff_toInt_le, Int32.le_iff_toInt_le, Int32.lt_iff_toInt_lt, fb_subI2 e (by omega)]
  omega
set_option maxHeartbeats 1000000 in
set_option maxRecDepth 100000 in
theorem mX10_firstOf {g : gX} (V : vM) (N : Nat) (hN : N ≤ 24) (hm : V 50 168 = nI N) (c : Int32) : MM g jX10_firstOf V [.ref (g.2.1 49), .int c] (pI V (nI (fo (kd7 (V 50)) N c))) := by
  refine MM.of plX10_firstOf (Nat.le_of_ble_eq_true rfl) ?_
  obtain ⟨Q, hQ⟩ : ∃ Q : Option Value → vM → Prop, Q = (pI V (nI (fo (kd7 (V 50)) N c))) := ⟨_, rfl⟩
  rw [← hQ]
  show XX g jX10_firstOf Q V 0 [(0, .ref (g.2.1 49)), (1, .int c)] []
  refine x_iconst (v := 0) dX10_firstOf_0 (by decide) ?_
  refine x_istore_n 2 [(2, .int 0), (0, .ref (g.2.1 49)), (1, .int c)] dX10_firstOf_1 rfl (by decide) rfl ?_
  refine x_iconst (v := 0) dX10_firstOf_2 (by decide) ?_
  refine x_istore_n 3 [(3, .int 0), (2, .int 0), (0, .ref (g.2.1 49)), (1, .int c)] dX10_firstOf_3 rfl (by decide) rfl ?_
  have lp1 : ∀ (fu : Nat) (i : Nat) (mv : Nat), (i ≤ N) → (mv ≤ i) → (foL (kd7 (V 50)) N c (N - i) i mv = fo (kd7 (V 50)) N c) → (N - i) < fu → XX g jX10_firstOf Q V 4 [(3, .int (nI i)), (2, .int (nI mv)), (0, .ref (g.2.1 49)), (1, .int c)] [] := by
    intro fu
    induction fu with
    | zero => intro _ _ _ _ _ hmz; exact absurd hmz (Nat.not_lt_zero _)
    | succ fu ih =>
      intro i mv hi hmv hv hmz
      refine x_iload_n dX10_firstOf_4 0 rfl ?_
      refine x_aload_n dX10_firstOf_5 2 rfl ?_
      refine x_callV (K := jX10_many) [] lk_X10_89 ⟨⟨rfl, rfl⟩, Nat.le_of_ble_eq_true rfl, Nat.le_of_ble_eq_true rfl⟩ rfl rfl (mX10_many V) rfl (Nat.le_of_ble_eq_true rfl) rfl dX10_firstOf_6 (kpI ?_)
      refine x_topi (hm) ?_
      refine x_icmp_ge 36 dX10_firstOf_9 (by decide) (fun c2 => ?_) (fun c2 => ?_)
      · have c2n : N ≤ i := (nl_le (a := N) (b := i) (rfl) (rfl) (by omega) (by omega)).mp c2
        refine x_aload_n dX10_firstOf_36 2 rfl ?_
        refine x_callV (K := jX10_many) [] lk_X10_89 ⟨⟨rfl, rfl⟩, Nat.le_of_ble_eq_true rfl, Nat.le_of_ble_eq_true rfl⟩ rfl rfl (mX10_many V) rfl (Nat.le_of_ble_eq_true rfl) rfl dX10_firstOf_37 (kpI ?_)
        refine x_topi (hm) ?_
        refine x_iret dX10_firstOf_40 rfl ?_
        rw [hQ]
        refine ⟨rfl, ?_⟩
        rw [← hv, show N - i = 0 by omega]
        rfl
      · have c2n : i < N := Nat.not_le.mp (fun q => c2 ((nl_le (a := N) (b := i) (rfl) (rfl) (by omega) (by omega)).mpr q))
        refine x_aload_n dX10_firstOf_12 2 rfl ?_
        refine x_iload_n dX10_firstOf_13 0 rfl ?_
        refine x_callV (K := jX10_kind) [.int (nI i)] lk_X10_93 ⟨⟨rfl, rfl⟩, Nat.le_of_ble_eq_true rfl, Nat.le_of_ble_eq_true rfl⟩ rfl rfl (mX10_kind V i (by omega)) rfl (Nat.le_of_ble_eq_true rfl) rfl dX10_firstOf_14 (kpI ?_)
        refine x_if_ne 30 dX10_firstOf_17 (by decide) (fun c3 => ?_) (fun c3 => ?_)
        · refine x_iinc 3 (v := (nI i) + 1) 0 [(3, .int ((nI i) + 1)), (2, .int (nI mv)), (0, .ref (g.2.1 49)), (1, .int c)] dX10_firstOf_30 rfl (by rfl) (by decide) rfl ?_
          refine x_goto 4 dX10_firstOf_33 (by decide) ?_
          refine YY.L (lv' := [(3, .int (nI (i + 1))), (2, .int (nI mv)), (0, .ref (g.2.1 49)), (1, .int c)]) (by first | rfl | (simp only [nI_1]; done) | (simp only [← nI_add]; rfl)) ?_
          exact ih (i + 1) mv (by omega) (by omega) (by rw [← hv, show N - i = (N - (i + 1)) + 1 by omega]; simp [foL, kd7, *]) (by omega)
        · refine x_iload_n dX10_firstOf_20 1 rfl ?_
          refine x_iload_n dX10_firstOf_21 3 rfl ?_
          refine x_icmp_ne 27 dX10_firstOf_22 (by decide) (fun c4 => ?_) (fun c4 => ?_)
          · refine x_iinc 2 (v := (nI mv) + 1) 1 [(2, .int ((nI mv) + 1)), (3, .int (nI i)), (0, .ref (g.2.1 49)), (1, .int c)] dX10_firstOf_27 rfl (by rfl) (by decide) rfl ?_
            refine x_iinc 3 (v := (nI i) + 1) 1 [(3, .int ((nI i) + 1)), (2, .int ((nI mv) + 1)), (0, .ref (g.2.1 49)), (1, .int c)] dX10_firstOf_30 rfl (by rfl) (by decide) rfl ?_
            refine x_goto 4 dX10_firstOf_33 (by decide) ?_
            refine YY.L (lv' := [(3, .int (nI (i + 1))), (2, .int (nI (mv + 1))), (0, .ref (g.2.1 49)), (1, .int c)]) (by first | rfl | (simp only [nI_1]; done) | (simp only [← nI_add]; rfl)) ?_
            exact ih (i + 1) (mv + 1) (by omega) (by omega) (by rw [← hv, show N - i = (N - (i + 1)) + 1 by omega]; simp [foL, kd7, *]) (by omega)
          · refine x_iload_n dX10_firstOf_25 0 rfl ?_
            refine x_iret dX10_firstOf_26 rfl ?_
            rw [hQ]
            refine ⟨rfl, ?_⟩
            rw [← hv, show N - i = (N - (i + 1)) + 1 by omega]
            simp [foL, kd7, *]
  refine YY.L (lv' := [(3, .int (nI 0)), (2, .int (nI 0)), (0, .ref (g.2.1 49)), (1, .int c)]) (by first | rfl | simp) ?_
  exact lp1 _ 0 0 (by omega) (by omega) (by rfl) (Nat.lt_succ_self _)
