def sgL (d : Nat → Int32) (dist : Int32) : Nat → Nat → Nat
  | 0, i => i
  | r + 1, i => if dist ≤ d i then i else sgL d dist r (i + 1)
def sg (S : FS) (fb : Nat → Nat) (dist : Int32) (c : Nat) : Nat := sgL (S.2.2 2) dist (fb (c + 1) - fb c - 2) (fb c + 1)
theorem sgL_b (d : Nat → Int32) (dist : Int32) : ∀ r i, i ≤ sgL d dist r i ∧ sgL d dist r i ≤ i + r
  | 0, i => ⟨Nat.le_refl _, Nat.le_refl _⟩
  | r + 1, i => by
    unfold sgL
    split
    · omega
    · have := sgL_b d dist r (i + 1); omega
theorem sg_b {S : FS} {fb : Nat → Nat} {dist : Int32} {c : Nat} (h : 1 < fb (c + 1) - fb c) : fb c < sg S fb dist c ∧ sg S fb dist c < fb (c + 1) := by
  have := sgL_b (S.2.2 2) dist (fb (c + 1) - fb c - 2) (fb c + 1)
  unfold sg
  omega
theorem sgL_hit {d : Nat → Int32} {dist : Int32} {r i : Nat} (h : dist ≤ d i) : sgL d dist r i = i := by
  cases r with
  | zero => rfl
  | succ r => rw [sgL, if_pos h]
theorem sgL_miss {d : Nat → Int32} {dist : Int32} {r i : Nat} (h : ¬ dist ≤ d i) : sgL d dist (r + 1) i = sgL d dist r (i + 1) := by
  rw [sgL, if_neg h]
theorem seg_nz {S : FS} {fb : Nat → Nat} (hG : GI S fb) (hR : ∀ i, i < S.1 → inR (S.2.2 0 i) ∧ inR (S.2.2 1 i)) {c i : Nat} (hc : c < S.2.1) (h1 : fb c < i) (h2 : i < fb (c + 1)) : ∃ l, S.2.2 2 i - S.2.2 2 (i - 1) = nI l ∧ 0 < l ∧ l ≤ 181020 := by
  have hb := hG.bd (j := c + 1) (by omega)
  obtain ⟨q, e⟩ := (hG.2.2.2 c hc).2.2 i h1 h2
  obtain ⟨l, e1, l0, l1⟩ := lenI_b (natAbs_r (hR i (by omega)).1 (hR (i - 1) (by omega)).1) (natAbs_r (hR i (by omega)).2 (hR (i - 1) (by omega)).2) q
  exact ⟨l, by rw [e, e1, Int32.add_comm, Int32.add_sub_cancel], l0, l1⟩
theorem seg_nz0 {S : FS} {fb : Nat → Nat} (hG : GI S fb) (hR : ∀ i, i < S.1 → inR (S.2.2 0 i) ∧ inR (S.2.2 1 i)) {c i : Nat} (hc : c < S.2.1) (h1 : fb c < i) (h2 : i < fb (c + 1)) : ¬ S.2.2 2 i - S.2.2 2 (i - 1) = 0 := by
  obtain ⟨l, e, l0, l1⟩ := seg_nz hG hR hc h1 h2
  rw [e]
  exact nI_ne (b := 0) (by omega) (by omega) (by omega)
def alg (S : FS) (p i : Nat) (dist : Int32) : Int32 := S.2.2 p (i - 1) + ((S.2.2 p i - S.2.2 p (i - 1)).toInt64 * (dist - S.2.2 2 (i - 1)).toInt64 / (S.2.2 2 i - S.2.2 2 (i - 1)).toInt64).toInt32
def ptN (S : FS) (i c : Nat) (dist what : Int32) : Int32 := if what = 0 then alg S 0 i dist else if what = 1 then alg S 1 i dist else if what = 2 then nI i - 1 - nI c else if what = 3 then S.2.2 0 i - S.2.2 0 (i - 1) else S.2.2 1 i - S.2.2 1 (i - 1)
set_option maxHeartbeats 1000000 in
set_option maxRecDepth 100000 in
theorem mX1_difference {g : gX} {V : vM} {S : FS} {fb : Nat → Nat} (hF : FRC V S) (hG : GI S fb) (h24 : S.2.1 ≤ 24) (h15 : S.1 ≤ 1536) (a i : Nat) (sh : shp[a]? = some (.inl (0, 1536))) (h1 : 1 ≤ i) (hi : i < S.1) : MM g jX1_difference V [.ref (g.2.1 6), .ref (g.2.1 a), .int (nI i)] (pI V (V a i - V a (i - 1))) := by
  refine MM.of plX1_difference (Nat.le_of_ble_eq_true rfl) ?_
  obtain ⟨Q, hQ⟩ : ∃ Q : Option Value → vM → Prop, Q = (pI V (V a i - V a (i - 1))) := ⟨_, rfl⟩
  rw [← hQ]
  show XX g jX1_difference Q V 0 [(0, .ref (g.2.1 6)), (1, .ref (g.2.1 a)), (2, .int (nI i))] []
  refine x_iload_n dX1_difference_0 2 rfl ?_
  refine x_iconst (v := 1) dX1_difference_1 (by decide) ?_
  refine x_icmp_lt 25 dX1_difference_2 (by decide) (fun c1 => by exfalso; exact absurd ((nl_lt (a := i) (b := 1) rfl rfl (by omega) (by omega)).mp c1) (by omega)) (fun c1 => ?_)
  refine x_iload_n dX1_difference_5 2 rfl ?_
  refine x_aload_n dX1_difference_6 0 rfl ?_
  refine x_getI fl_X1_38 rfl rfl dX1_difference_7 ?_
  refine x_topi (hF.1) ?_
  refine x_icmp_ge 25 dX1_difference_10 (by decide) (fun c2 => by exfalso; exact absurd ((nl_le (a := S.1) (b := i) rfl rfl (by omega) (by omega)).mp c2) (by omega)) (fun c2 => ?_)
  refine x_aload_n dX1_difference_13 1 rfl ?_
  refine x_iload_n dX1_difference_14 2 rfl ?_
  have b3 : vp_in (nI i) 1536 := by exact vp_in_nI (by omega) (by decide)
  refine x_iald sh b3 dX1_difference_15 ?_
  refine x_topi (y := V a i) (by rw [nI_clamp (by omega)]) ?_
  refine x_aload_n dX1_difference_16 1 rfl ?_
  refine x_iload_n dX1_difference_17 2 rfl ?_
  refine x_iconst (v := 1) dX1_difference_18 (by decide) ?_
  refine x_isub dX1_difference_19 ?_
  have q4 : ((nI i) - 1 : Int32) = nI (i - 1) := nsub (by omega) (rfl) (rfl)
  refine YY.S (st' := [.int (nI (i - 1)), .ref (g.2.1 a), .int (V a i)]) (by rw [q4]) ?_
  have b5 : vp_in (nI (i - 1)) 1536 := by exact vp_in_nI (by omega) (by decide)
  refine x_iald sh b5 dX1_difference_20 ?_
  refine x_topi (y := V a (i - 1)) (by rw [nI_clamp (by omega)]) ?_
  refine x_isub dX1_difference_21 ?_
  refine x_goto 26 dX1_difference_22 (by decide) ?_
  refine x_iret dX1_difference_26 rfl ?_
  rw [hQ]
  exact ⟨rfl, rfl⟩
set_option maxHeartbeats 1000000 in
set_option maxRecDepth 100000 in
theorem mX1_along {g : gX} {V : vM} {S : FS} {fb : Nat → Nat} (hF : FRC V S) (hG : GI S fb) (h24 : S.2.1 ≤ 24) (h15 : S.1 ≤ 1536) (a p : Nat) (sh : shp[a]? = some (.inl (0, 1536))) (hxa : ∀ i, i < S.1 → V a i = S.2.2 p i) (i : Nat) (h1 : 1 ≤ i) (hi : i < S.1) (hnz : ¬ S.2.2 2 i - S.2.2 2 (i - 1) = 0) (dist : Int32) : MM g jX1_along V [.ref (g.2.1 6), .ref (g.2.1 a), .int (nI i), .int dist] (pI V (alg S p i dist)) := by
  refine MM.of plX1_along (Nat.le_of_ble_eq_true rfl) ?_
  obtain ⟨Q, hQ⟩ : ∃ Q : Option Value → vM → Prop, Q = (pI V (alg S p i dist)) := ⟨_, rfl⟩
  rw [← hQ]
  show XX g jX1_along Q V 0 [(0, .ref (g.2.1 6)), (1, .ref (g.2.1 a)), (2, .int (nI i)), (3, .int dist)] []
  refine x_aload_n dX1_along_0 0 rfl ?_
  refine x_aload_n dX1_along_1 0 rfl ?_
  refine x_getR fl_X1_18 rfl rfl dX1_along_2 ?_
  refine x_iload_n dX1_along_5 2 rfl ?_
  refine x_callV (K := jX1_difference) [.ref (g.2.1 22), .int (nI i)] lk_X1_132 ⟨⟨rfl, rfl⟩, Nat.le_of_ble_eq_true rfl, Nat.le_of_ble_eq_true rfl⟩ rfl rfl (by have := mX1_difference (g := g) hF hG h24 h15 22 i rfl (by omega) (by omega); rw [(hF.2.2.1 i (by omega)).2.2.1, (hF.2.2.1 (i - 1) (by omega)).2.2.1] at this; exact this) rfl (Nat.le_of_ble_eq_true rfl) rfl dX1_along_6 (kpI ?_)
  refine x_istore 4 [(4, .int (S.2.2 2 i - S.2.2 2 (i - 1))), (0, .ref (g.2.1 6)), (1, .ref (g.2.1 a)), (2, .int (nI i)), (3, .int dist)] dX1_along_9 (by decide) rfl ?_
  refine x_iload dX1_along_11 0 rfl ?_
  refine x_if_ne 18 dX1_along_13 (by decide) (fun c1 => ?_) (fun c1 => by exfalso; exact hnz c1)
  refine x_aload_n dX1_along_18 1 rfl ?_
  refine x_aload_n dX1_along_19 2 rfl ?_
  refine x_iload_n dX1_along_20 3 rfl ?_
  refine x_callV (K := jX1_difference) [.ref (g.2.1 a), .int (nI i)] lk_X1_132 ⟨⟨rfl, rfl⟩, Nat.le_of_ble_eq_true rfl, Nat.le_of_ble_eq_true rfl⟩ rfl rfl (by have := mX1_difference (g := g) hF hG h24 h15 a i sh (by omega) (by omega); rw [hxa i (by omega), hxa (i - 1) (by omega)] at this; exact this) rfl (Nat.le_of_ble_eq_true rfl) rfl dX1_along_21 (kpI ?_)
  refine x_i2l dX1_along_24 ?_
  refine x_iload_n dX1_along_25 4 rfl ?_
  refine x_aload_n dX1_along_26 1 rfl ?_
  refine x_getR fl_X1_18 rfl rfl dX1_along_27 ?_
  refine x_iload_n dX1_along_30 3 rfl ?_
  refine x_iconst (v := 1) dX1_along_31 (by decide) ?_
  refine x_isub dX1_along_32 ?_
  have q2 : ((nI i) - 1 : Int32) = nI (i - 1) := nsub (by omega) (rfl) (rfl)
  refine YY.S (st' := [.int (nI (i - 1)), .ref (g.2.1 22), .int dist, .long ((S.2.2 p i - S.2.2 p (i - 1)).toInt64)]) (by rw [q2]) ?_
  have b3 : vp_in (nI (i - 1)) 1536 := by exact vp_in_nI (by omega) (by decide)
  refine x_iald rfl b3 dX1_along_33 ?_
  refine x_topi (y := V 22 (i - 1)) (by rw [nI_clamp (by omega)]) ?_
  refine x_topi ((hF.2.2.1 (i - 1) (by omega)).2.2.1) ?_
  refine x_isub dX1_along_34 ?_
  refine x_i2l dX1_along_35 ?_
  refine x_lmul dX1_along_36 ?_
  refine x_iload dX1_along_37 0 rfl ?_
  refine x_i2l dX1_along_39 ?_
  have nz4 : ¬ ((S.2.2 2 i - S.2.2 2 (i - 1)).toInt64 : Int64) = 0 := by exact fun z => hnz (i64z z)
  refine x_ldiv dX1_along_40 nz4 ?_
  refine x_lstore 5 [(5, .long ((((S.2.2 p i - S.2.2 p (i - 1)).toInt64) * ((dist - (S.2.2 2 (i - 1))).toInt64)) / ((S.2.2 2 i - S.2.2 2 (i - 1)).toInt64))), (4, .int (S.2.2 2 i - S.2.2 2 (i - 1))), (0, .ref (g.2.1 6)), (1, .ref (g.2.1 a)), (2, .int (nI i)), (3, .int dist)] dX1_along_41 (by decide) rfl ?_
  refine x_aload_n dX1_along_43 3 rfl ?_
  refine x_iload_n dX1_along_44 4 rfl ?_
  refine x_iconst (v := 1) dX1_along_45 (by decide) ?_
  refine x_isub dX1_along_46 ?_
  have q5 : ((nI i) - 1 : Int32) = nI (i - 1) := nsub (by omega) (rfl) (rfl)
  refine YY.S (st' := [.int (nI (i - 1)), .ref (g.2.1 a)]) (by rw [q5]) ?_
  have b6 : vp_in (nI (i - 1)) 1536 := by exact vp_in_nI (by omega) (by decide)
  refine x_iald sh b6 dX1_along_47 ?_
  refine x_topi (y := V a (i - 1)) (by rw [nI_clamp (by omega)]) ?_
  refine x_topi (hxa (i - 1) (by omega)) ?_
  refine x_lload dX1_along_48 0 rfl ?_
  refine x_l2i dX1_along_50 ?_
  refine x_iadd dX1_along_51 ?_
  refine x_iret dX1_along_52 rfl ?_
  rw [hQ]
  exact ⟨rfl, rfl⟩
theorem sg_back {S : FS} {fb : Nat → Nat} {dist : Int32} {c i : Nat} (hv : (i < fb (c + 1) → sgL (S.2.2 2) dist (fb (c + 1) - 1 - i) i = sg S fb dist c) ∧ (i = fb (c + 1) → sg S fb dist c = fb (c + 1) - 1)) (hi : i < fb (c + 1)) (hn : ¬ dist ≤ S.2.2 2 i) : (i + 1 < fb (c + 1) → sgL (S.2.2 2) dist (fb (c + 1) - 1 - (i + 1)) (i + 1) = sg S fb dist c) ∧ (i + 1 = fb (c + 1) → sg S fb dist c = fb (c + 1) - 1) := by
  have e := hv.1 hi
  refine ⟨fun q => ?_, fun q => ?_⟩
  · rw [← e, show fb (c + 1) - 1 - i = (fb (c + 1) - 1 - (i + 1)) + 1 by omega, sgL_miss hn]
  · rw [← e, show fb (c + 1) - 1 - i = 0 by omega, sgL]; omega
set_option maxHeartbeats 1000000 in
set_option maxRecDepth 100000 in
theorem mX1_segmentAt {g : gX} {V : vM} {S : FS} {fb : Nat → Nat} (hF : FRC V S) (hG : GI S fb) (h24 : S.2.1 ≤ 24) (h15 : S.1 ≤ 1536) (c : Nat) (hc : c < S.2.1) (h2 : 1 < fb (c + 1) - fb c) (dist : Int32) : MM g jX1_segmentAt V [.ref (g.2.1 6), .int (nI c), .int dist] (pI V (nI (sg S fb dist c))) := by
  refine MM.of plX1_segmentAt (Nat.le_of_ble_eq_true rfl) ?_
  obtain ⟨Q, hQ⟩ : ∃ Q : Option Value → vM → Prop, Q = (pI V (nI (sg S fb dist c))) := ⟨_, rfl⟩
  rw [← hQ]
  show XX g jX1_segmentAt Q V 0 [(0, .ref (g.2.1 6)), (1, .int (nI c)), (2, .int dist)] []
  have hbd := hG.bd (j := c + 1) (by omega)
  refine x_aload_n dX1_segmentAt_0 0 rfl ?_
  refine x_iload_n dX1_segmentAt_1 1 rfl ?_
  refine x_iconst (v := 1) dX1_segmentAt_2 (by decide) ?_
  refine x_iadd dX1_segmentAt_3 ?_
  have q1 : ((nI c) + 1 : Int32) = nI (c + 1) := nadd (rfl) (rfl)
  refine YY.S (st' := [.int (nI (c + 1)), .ref (g.2.1 6)]) (by rw [q1]) ?_
  refine x_callV (K := jX1_firstOf) [.int (nI (c + 1))] lk_X1_101 ⟨⟨rfl, rfl⟩, Nat.le_of_ble_eq_true rfl, Nat.le_of_ble_eq_true rfl⟩ rfl rfl (mX1_firstOf hF hG h24 h15 (c + 1) (by omega)) rfl (Nat.le_of_ble_eq_true rfl) rfl dX1_segmentAt_4 (kpI ?_)
  refine x_istore_n 3 [(3, .int (nI (fb (c + 1)))), (0, .ref (g.2.1 6)), (1, .int (nI c)), (2, .int dist)] dX1_segmentAt_7 rfl (by decide) rfl ?_
  refine x_aload_n dX1_segmentAt_8 1 rfl ?_
  refine x_iload_n dX1_segmentAt_9 2 rfl ?_
  refine x_callV (K := jX1_firstOf) [.int (nI c)] lk_X1_101 ⟨⟨rfl, rfl⟩, Nat.le_of_ble_eq_true rfl, Nat.le_of_ble_eq_true rfl⟩ rfl rfl (mX1_firstOf hF hG h24 h15 c (by omega)) rfl (Nat.le_of_ble_eq_true rfl) rfl dX1_segmentAt_10 (kpI ?_)
  refine x_iconst (v := 1) dX1_segmentAt_13 (by decide) ?_
  refine x_iadd dX1_segmentAt_14 ?_
  refine x_istore 4 [(4, .int ((nI (fb c)) + 1)), (3, .int (nI (fb (c + 1)))), (0, .ref (g.2.1 6)), (1, .int (nI c)), (2, .int dist)] dX1_segmentAt_15 (by decide) rfl ?_
  have lp2 : ∀ (fu : Nat) (i : Nat), (fb c + 1 ≤ i ∧ i ≤ fb (c + 1)) → ((i < fb (c + 1) → sgL (S.2.2 2) dist (fb (c + 1) - 1 - i) i = sg S fb dist c) ∧ (i = fb (c + 1) → sg S fb dist c = fb (c + 1) - 1)) → (fb (c + 1) - i) < fu → XX g jX1_segmentAt Q V 17 [(4, .int (nI i)), (3, .int (nI (fb (c + 1)))), (0, .ref (g.2.1 6)), (1, .int (nI c)), (2, .int dist)] [] := by
    intro fu
    induction fu with
    | zero => intro _ _ _ hmz; exact absurd hmz (Nat.not_lt_zero _)
    | succ fu ih =>
      intro i hi hv hmz
      refine x_iload dX1_segmentAt_17 0 rfl ?_
      refine x_iload_n dX1_segmentAt_19 1 rfl ?_
      refine x_icmp_ge 43 dX1_segmentAt_20 (by decide) (fun c3 => ?_) (fun c3 => ?_)
      · have c3n : fb (c + 1) ≤ i := (nl_le (a := fb (c + 1)) (b := i) (rfl) (rfl) (by omega) (by omega)).mp c3
        refine x_iload_n dX1_segmentAt_43 1 rfl ?_
        refine x_iconst (v := 1) dX1_segmentAt_44 (by decide) ?_
        refine x_isub dX1_segmentAt_45 ?_
        refine x_iret dX1_segmentAt_46 rfl ?_
        rw [hQ]
        refine ⟨rfl, ?_⟩
        rw [hv.2 (by omega)]
        exact congrArg (fun z => some (Value.int z)) (nI_s1 (by omega))
      · have c3n : i < fb (c + 1) := Nat.not_le.mp (fun q => c3 ((nl_le (a := fb (c + 1)) (b := i) (rfl) (rfl) (by omega) (by omega)).mpr q))
        refine x_aload_n dX1_segmentAt_23 2 rfl ?_
        refine x_getR fl_X1_18 rfl rfl dX1_segmentAt_24 ?_
        refine x_iload dX1_segmentAt_27 0 rfl ?_
        have b4 : vp_in (nI i) 1536 := by exact vp_in_nI (by omega) (by decide)
        refine x_iald rfl b4 dX1_segmentAt_29 ?_
        refine x_topi (y := V 22 i) (by rw [nI_clamp (by omega)]) ?_
        refine x_topi ((hF.2.2.1 i (by omega)).2.2.1) ?_
        refine x_iload_n dX1_segmentAt_30 4 rfl ?_
        refine x_icmp_lt 37 dX1_segmentAt_31 (by decide) (fun c5 => ?_) (fun c5 => ?_)
        · refine x_iinc 4 (v := (nI i) + 1) 0 [(4, .int ((nI i) + 1)), (3, .int (nI (fb (c + 1)))), (0, .ref (g.2.1 6)), (1, .int (nI c)), (2, .int dist)] dX1_segmentAt_37 rfl (by rfl) (by decide) rfl ?_
          refine x_goto 17 dX1_segmentAt_40 (by decide) ?_
          refine YY.L (lv' := [(4, .int (nI (i + 1))), (3, .int (nI (fb (c + 1)))), (0, .ref (g.2.1 6)), (1, .int (nI c)), (2, .int dist)]) (by simp only [nI_1]) ?_
          exact ih (i + 1) (by omega) (by exact sg_back hv (by omega) (Int32.not_le.mpr (by assumption))) (by omega)
        · refine x_iload dX1_segmentAt_34 0 rfl ?_
          refine x_iret dX1_segmentAt_36 rfl ?_
          rw [hQ]
          refine ⟨rfl, ?_⟩
          rw [← hv.1 (by omega), sgL_hit (Int32.not_lt.mp (by assumption))]
  refine YY.L (lv' := [(4, .int (nI (fb c + 1))), (3, .int (nI (fb (c + 1)))), (0, .ref (g.2.1 6)), (1, .int (nI c)), (2, .int dist)]) (by rw [nI_1]) ?_
  exact lp2 _ (fb c + 1) (by omega) (by exact ⟨fun _ => by unfold sg; rw [show fb (c + 1) - 1 - (fb c + 1) = fb (c + 1) - fb c - 2 by omega], fun q => absurd q (by omega)⟩) (Nat.lt_succ_self _)
set_option maxHeartbeats 1000000 in
set_option maxRecDepth 100000 in
theorem mX1_numberOf {g : gX} (V : vM) (s c : Int32) : MM g jX1_numberOf V [.int s, .int c] (pI V (s - 1 - c)) := by
  refine MM.of plX1_numberOf (Nat.le_of_ble_eq_true rfl) ?_
  obtain ⟨Q, hQ⟩ : ∃ Q : Option Value → vM → Prop, Q = (pI V (s - 1 - c)) := ⟨_, rfl⟩
  rw [← hQ]
  show XX g jX1_numberOf Q V 0 [(0, .int s), (1, .int c)] []
  refine x_iload_n dX1_numberOf_0 0 rfl ?_
  refine x_iconst (v := 1) dX1_numberOf_1 (by decide) ?_
  refine x_isub dX1_numberOf_2 ?_
  refine x_iload_n dX1_numberOf_3 1 rfl ?_
  refine x_isub dX1_numberOf_4 ?_
  refine x_iret dX1_numberOf_5 rfl ?_
  rw [hQ]
  exact ⟨rfl, rfl⟩
set_option maxHeartbeats 1000000 in
set_option maxRecDepth 100000 in
theorem mX1_pointNumber {g : gX} {V : vM} {S : FS} {fb : Nat → Nat} (hF : FRC V S) (hG : GI S fb) (h24 : S.2.1 ≤ 24) (h15 : S.1 ≤ 1536) (hR : ∀ i, i < S.1 → inR (S.2.2 0 i) ∧ inR (S.2.2 1 i)) (c : Nat) (hc : c < S.2.1) (h2 : 1 < fb (c + 1) - fb c) (dist what : Int32) : MM g jX1_pointNumber V [.ref (g.2.1 6), .int (nI c), .int dist, .int what] (pI V (ptN S (sg S fb dist c) c dist what)) := by
  refine MM.of plX1_pointNumber (Nat.le_of_ble_eq_true rfl) ?_
  obtain ⟨Q, hQ⟩ : ∃ Q : Option Value → vM → Prop, Q = (pI V (ptN S (sg S fb dist c) c dist what)) := ⟨_, rfl⟩
  rw [← hQ]
  show XX g jX1_pointNumber Q V 0 [(0, .ref (g.2.1 6)), (1, .int (nI c)), (2, .int dist), (3, .int what)] []
  refine x_aload_n dX1_pointNumber_0 0 rfl ?_
  refine x_iload_n dX1_pointNumber_1 1 rfl ?_
  refine x_iload_n dX1_pointNumber_2 2 rfl ?_
  refine x_callV (K := jX1_segmentAt) [.int (nI c), .int dist] lk_X1_122 ⟨⟨rfl, rfl⟩, Nat.le_of_ble_eq_true rfl, Nat.le_of_ble_eq_true rfl⟩ rfl rfl (mX1_segmentAt hF hG h24 h15 c (by omega) (by omega) dist) rfl (Nat.le_of_ble_eq_true rfl) rfl dX1_pointNumber_3 (kpI ?_)
  have hsb := sg_b (S := S) (fb := fb) (dist := dist) (c := c) (by omega)
  have hbd := hG.bd (j := c + 1) (by omega)
  obtain ⟨i, ei⟩ : ∃ v_v : Nat, v_v = sg S fb dist c := ⟨_, rfl⟩
  rw [← ei] at hsb
  refine x_topi (y := nI i) (by rw [ei]) ?_
  have hnz := seg_nz0 hG hR (c := c) (by omega) hsb.1 hsb.2
  refine x_istore 4 [(4, .int (nI i)), (0, .ref (g.2.1 6)), (1, .int (nI c)), (2, .int dist), (3, .int what)] dX1_pointNumber_6 (by decide) rfl ?_
  refine x_iload_n dX1_pointNumber_8 4 rfl ?_
  by_cases c1 : what = 0
  · refine x_tableIn 40 dX1_pointNumber_9 (by rw [c1]; decide) (by rw [c1]; decide) (by rw [c1]; rfl) (by decide) ?_
    refine x_aload_n dX1_pointNumber_40 1 rfl ?_
    refine x_aload_n dX1_pointNumber_41 1 rfl ?_
    refine x_getR fl_X1_9 rfl rfl dX1_pointNumber_42 ?_
    refine x_iload dX1_pointNumber_45 0 rfl ?_
    refine x_iload_n dX1_pointNumber_47 3 rfl ?_
    refine x_callV (K := jX1_along) [.ref (g.2.1 20), .int (nI i), .int dist] lk_X1_125 ⟨⟨rfl, rfl⟩, Nat.le_of_ble_eq_true rfl, Nat.le_of_ble_eq_true rfl⟩ rfl rfl (mX1_along hF hG h24 h15 20 0 rfl (fun i hi => (hF.2.2.1 i hi).1) i (by omega) (by omega) hnz dist) rfl (Nat.le_of_ble_eq_true rfl) rfl dX1_pointNumber_48 (kpI ?_)
    refine x_iret dX1_pointNumber_51 rfl ?_
    rw [hQ]
    refine ⟨rfl, ?_⟩
    rw [← ei]
    unfold ptN
    first | rw [if_pos (by assumption)] | rw [if_neg (by assumption), if_pos (by assumption)] | rw [if_neg (by assumption), if_neg (by assumption), if_pos (by assumption)] | rw [if_neg (by assumption), if_neg (by assumption), if_neg (by assumption), if_pos (by assumption)] | rw [if_neg (by grind), if_neg (by grind), if_neg (by grind), if_neg (by grind)]
  by_cases c2 : what = 1
  · refine x_tableIn 52 dX1_pointNumber_9 (by rw [c2]; decide) (by rw [c2]; decide) (by rw [c2]; rfl) (by decide) ?_
    refine x_aload_n dX1_pointNumber_52 1 rfl ?_
    refine x_aload_n dX1_pointNumber_53 1 rfl ?_
    refine x_getR fl_X1_15 rfl rfl dX1_pointNumber_54 ?_
    refine x_iload dX1_pointNumber_57 0 rfl ?_
    refine x_iload_n dX1_pointNumber_59 3 rfl ?_
    refine x_callV (K := jX1_along) [.ref (g.2.1 21), .int (nI i), .int dist] lk_X1_125 ⟨⟨rfl, rfl⟩, Nat.le_of_ble_eq_true rfl, Nat.le_of_ble_eq_true rfl⟩ rfl rfl (mX1_along hF hG h24 h15 21 1 rfl (fun i hi => (hF.2.2.1 i hi).2.1) i (by omega) (by omega) hnz dist) rfl (Nat.le_of_ble_eq_true rfl) rfl dX1_pointNumber_60 (kpI ?_)
    refine x_iret dX1_pointNumber_63 rfl ?_
    rw [hQ]
    refine ⟨rfl, ?_⟩
    rw [← ei]
    unfold ptN
    first | rw [if_pos (by assumption)] | rw [if_neg (by assumption), if_pos (by assumption)] | rw [if_neg (by assumption), if_neg (by assumption), if_pos (by assumption)] | rw [if_neg (by assumption), if_neg (by assumption), if_neg (by assumption), if_pos (by assumption)] | rw [if_neg (by grind), if_neg (by grind), if_neg (by grind), if_neg (by grind)]
  by_cases c3 : what = 2
  · refine x_tableIn 64 dX1_pointNumber_9 (by rw [c3]; decide) (by rw [c3]; decide) (by rw [c3]; rfl) (by decide) ?_
    refine x_iload dX1_pointNumber_64 0 rfl ?_
    refine x_iload_n dX1_pointNumber_66 2 rfl ?_
    refine x_callS (K := jX1_numberOf) [.int (nI i), .int (nI c)] lk_X1_129 ⟨⟨rfl, rfl⟩, Nat.le_of_ble_eq_true rfl, Nat.le_of_ble_eq_true rfl⟩ (mX1_numberOf V (nI i) (nI c)) rfl (Nat.le_of_ble_eq_true rfl) rfl dX1_pointNumber_67 (kpI ?_)
    refine x_iret dX1_pointNumber_70 rfl ?_
    rw [hQ]
    refine ⟨rfl, ?_⟩
    rw [← ei]
    unfold ptN
    first | rw [if_pos (by assumption)] | rw [if_neg (by assumption), if_pos (by assumption)] | rw [if_neg (by assumption), if_neg (by assumption), if_pos (by assumption)] | rw [if_neg (by assumption), if_neg (by assumption), if_neg (by assumption), if_pos (by assumption)] | rw [if_neg (by grind), if_neg (by grind), if_neg (by grind), if_neg (by grind)]
  by_cases c4 : what = 3
  · refine x_tableIn 71 dX1_pointNumber_9 (by rw [c4]; decide) (by rw [c4]; decide) (by rw [c4]; rfl) (by decide) ?_
    refine x_aload_n dX1_pointNumber_71 1 rfl ?_
    refine x_aload_n dX1_pointNumber_72 1 rfl ?_
    refine x_getR fl_X1_9 rfl rfl dX1_pointNumber_73 ?_
    refine x_iload dX1_pointNumber_76 0 rfl ?_
    refine x_callV (K := jX1_difference) [.ref (g.2.1 20), .int (nI i)] lk_X1_132 ⟨⟨rfl, rfl⟩, Nat.le_of_ble_eq_true rfl, Nat.le_of_ble_eq_true rfl⟩ rfl rfl (by have := mX1_difference (g := g) hF hG h24 h15 20 i rfl (by omega) (by omega); rw [(hF.2.2.1 i (by omega)).1, (hF.2.2.1 (i - 1) (by omega)).1] at this; exact this) rfl (Nat.le_of_ble_eq_true rfl) rfl dX1_pointNumber_78 (kpI ?_)
    refine x_iret dX1_pointNumber_81 rfl ?_
    rw [hQ]
    refine ⟨rfl, ?_⟩
    rw [← ei]
    unfold ptN
    first | rw [if_pos (by assumption)] | rw [if_neg (by assumption), if_pos (by assumption)] | rw [if_neg (by assumption), if_neg (by assumption), if_pos (by assumption)] | rw [if_neg (by assumption), if_neg (by assumption), if_neg (by assumption), if_pos (by assumption)] | rw [if_neg (by grind), if_neg (by grind), if_neg (by grind), if_neg (by grind)]
  refine x_tableOut 82 dX1_pointNumber_9 (by have q0 : ¬ what.toInt = 0 := fun q => c1 (Int32.toInt_inj.mp (q.trans (by decide))); have q1 : ¬ what.toInt = 1 := fun q => c2 (Int32.toInt_inj.mp (q.trans (by decide))); have q2 : ¬ what.toInt = 2 := fun q => c3 (Int32.toInt_inj.mp (q.trans (by decide))); have q3 : ¬ what.toInt = 3 := fun q => c4 (Int32.toInt_inj.mp (q.trans (by decide))); omega) (by decide) ?_
  refine x_aload_n dX1_pointNumber_82 1 rfl ?_
  refine x_aload_n dX1_pointNumber_83 1 rfl ?_
  refine x_getR fl_X1_15 rfl rfl dX1_pointNumber_84 ?_
  refine x_iload dX1_pointNumber_87 0 rfl ?_
  refine x_callV (K := jX1_difference) [.ref (g.2.1 21), .int (nI i)] lk_X1_132 ⟨⟨rfl, rfl⟩, Nat.le_of_ble_eq_true rfl, Nat.le_of_ble_eq_true rfl⟩ rfl rfl (by have := mX1_difference (g := g) hF hG h24 h15 21 i rfl (by omega) (by omega); rw [(hF.2.2.1 i (by omega)).2.1, (hF.2.2.1 (i - 1) (by omega)).2.1] at this; exact this) rfl (Nat.le_of_ble_eq_true rfl) rfl dX1_pointNumber_89 (kpI ?_)
  refine x_iret dX1_pointNumber_92 rfl ?_
  rw [hQ]
  refine ⟨rfl, ?_⟩
  rw [← ei]
  unfold ptN
  first | rw [if_pos (by assumption)] | rw [if_neg (by assumption), if_pos (by assumption)] | rw [if_neg (by assumption), if_neg (by assumption), if_pos (by assumption)] | rw [if_neg (by assumption), if_neg (by assumption), if_neg (by assumption), if_pos (by assumption)] | rw [if_neg (by grind), if_neg (by grind), if_neg (by grind), if_neg (by grind)]
def atZ (S : FS) (fb : Nat → Nat) (c dist what : Int32) : Int32 := if 0 ≤ c ∧ c < nI S.2.1 then (if 0 ≤ what ∧ what ≤ 4 then (if 1 < fb (c.toNatClampNeg + 1) - fb c.toNatClampNeg ∧ 0 ≤ dist ∧ dist ≤ S.2.2 2 (fb (c.toNatClampNeg + 1) - 1) then ptN S (sg S fb dist c.toNatClampNeg) c.toNatClampNeg dist what else -1000005) else -1000002) else -1000001
theorem atZ_no {S : FS} {fb : Nat → Nat} {c dist what : Int32} (h : ¬ (0 ≤ c ∧ c < nI S.2.1)) : atZ S fb c dist what = -1000001 := if_neg h
theorem atZ_w {S : FS} {fb : Nat → Nat} {c dist what : Int32} (h : 0 ≤ c ∧ c < nI S.2.1) (hw : ¬ (0 ≤ what ∧ what ≤ 4)) : atZ S fb c dist what = -1000002 := by
  unfold atZ; rw [if_pos h, if_neg hw]
theorem atZ_k {S : FS} {fb : Nat → Nat} {c dist what : Int32} {k : Nat} (h24 : S.2.1 ≤ 24) (hk : c = nI k) (hS : k < S.2.1) (hw : 0 ≤ what ∧ what ≤ 4) : atZ S fb c dist what = if 1 < fb (k + 1) - fb k ∧ 0 ≤ dist ∧ dist ≤ S.2.2 2 (fb (k + 1) - 1) then ptN S (sg S fb dist k) k dist what else -1000005 := by
  unfold atZ
  rw [hk, if_pos (nI_bt (by omega) hS), if_pos hw, nI_clamp (by omega)]
set_option maxHeartbeats 1000000 in
set_option maxRecDepth 100000 in
theorem mX9_at {g : gX} {V : vM} {m : Nat → Int32} {N : Nat} {t : Int32} {S : FS} {fb : Nat → Nat} (hCQ : CQ V m N t S fb) (c dist what : Int32) : MM g jX9_at V [.ref (g.2.1 0), .int c, .int dist, .int what] (eI (fun z U => z = atZ S fb c dist what ∧ CQ U m N t S fb ∧ frQ V U)) := by
  refine MM.of plX9_at (Nat.le_of_ble_eq_true rfl) ?_
  obtain ⟨Q, hQ⟩ : ∃ Q : Option Value → vM → Prop, Q = (eI (fun z U => z = atZ S fb c dist what ∧ CQ U m N t S fb ∧ frQ V U)) := ⟨_, rfl⟩
  rw [← hQ]
  show XX g jX9_at Q V 0 [(0, .ref (g.2.1 0)), (1, .int c), (2, .int dist), (3, .int what)] []
  obtain ⟨hC, hS, hG, h24, h15, hcn, hL⟩ := id hCQ
  have hP0 := hC.1
  have hV13 : V 1 3 = nI S.2.1 := by rw [hP0.2.1, hcn]
  have hN24 := hP0.2.2.1.1
  have hcl := cntM_le (kd7 m) N
  refine x_aload_n dX9_at_0 0 rfl ?_
  refine x_iload_n dX9_at_1 1 rfl ?_
  refine x_callV (K := jX9_isContour) [.int c] lk_X9_133 ⟨⟨rfl, rfl⟩, Nat.le_of_ble_eq_true rfl, Nat.le_of_ble_eq_true rfl⟩ rfl rfl (by have := mX9_isContour (g := g) V c; rw [hV13] at this; exact this) rfl (Nat.le_of_ble_eq_true rfl) rfl dX9_at_2 (kpI ?_)
  refine x_if_ne 11 dX9_at_5 (by decide) (fun c1 => ?_) (fun c1 => ?_)
  · have c1n : (0 ≤ c ∧ c < nI S.2.1) := Classical.not_not.mp (fun q => c1 (iB_0.mpr q))
    refine x_iload_n dX9_at_11 3 rfl ?_
    refine x_iconst (v := 0) dX9_at_12 (by decide) ?_
    refine x_iconst (v := 4) dX9_at_13 (by decide) ?_
    refine x_callS (K := jX9_between) [.int what, .int 0, .int 4] lk_X9_129 ⟨⟨rfl, rfl⟩, Nat.le_of_ble_eq_true rfl, Nat.le_of_ble_eq_true rfl⟩ (mX9_between V what 0 4) rfl (Nat.le_of_ble_eq_true rfl) rfl dX9_at_14 (kpI ?_)
    refine x_if_ne 23 dX9_at_17 (by decide) (fun c2 => ?_) (fun c2 => ?_)
    · have c2n : (0 ≤ what ∧ what ≤ 4) := Classical.not_not.mp (fun q => c2 (iB_0.mpr q))
      obtain ⟨k, hk0, hkS⟩ := nI_ex (c := c) (n := S.2.1) (by omega) (by assumption)
      refine YY.L (lv' := [(0, .ref (g.2.1 0)), (1, .int (nI k)), (2, .int dist), (3, .int what)]) (by rw [hk0]) ?_
      have hkb := hG.bd (j := k + 1) (by omega)
      have hkl := (hG.2.2.2 k hkS).1
      refine x_aload_n dX9_at_23 0 rfl ?_
      refine x_callV (K := jX9_flattened) [] lk_X9_118 ⟨⟨rfl, rfl⟩, Nat.le_of_ble_eq_true rfl, Nat.le_of_ble_eq_true rfl⟩ rfl rfl (mX9_flattened hC) rfl (Nat.le_of_ble_eq_true rfl) rfl dX9_at_24 (keR fun U3 hU4 => ?_)
      have hCQ2 := hCQ.aft hU4
      have hFr := hU4.2.2
      have hF : FRC U3 S := by rw [← hS]; exact hU4.1
      have hPU := hCQ2.1.1
      have hU13 : U3 1 3 = nI (S.2.1) := by rw [hPU.2.1, hcn]
      refine x_astore 4 [(4, .ref (g.2.1 6)), (0, .ref (g.2.1 0)), (1, .int (nI k)), (2, .int dist), (3, .int what)] dX9_at_27 (by decide) rfl ?_
      refine x_aload dX9_at_29 0 rfl ?_
      refine x_iload_n dX9_at_31 2 rfl ?_
      refine x_callV (K := jX1_hasSegments) [.int (nI k)] lk_X9_194 ⟨⟨rfl, rfl⟩, Nat.le_of_ble_eq_true rfl, Nat.le_of_ble_eq_true rfl⟩ rfl rfl (mX1_hasSegments hF hG h24 h15 k (by omega)) rfl (Nat.le_of_ble_eq_true rfl) rfl dX9_at_32 (kpI ?_)
      refine x_if_eq 52 dX9_at_35 (by decide) (fun c5 => ?_) (fun c5 => ?_)
      · have c5n : ¬ (1 < fb (k + 1) - fb k) := iB_0.mp c5
        refine x_ldc ct_X9_107 dX9_at_52 ?_
        refine x_iret dX9_at_54 rfl ?_
        rw [hQ]
        first
          | exact ⟨_, rfl, (atZ_no (by assumption)).symm, hCQ, frQ.refl V⟩
          | exact ⟨_, rfl, (atZ_w (by assumption) (by assumption)).symm, hCQ, frQ.refl V⟩
          | exact ⟨_, rfl, by rw [atZ_k h24 hk0 hkS (by assumption), if_pos ⟨by omega, by assumption⟩], hCQ2, hFr⟩
          | exact ⟨_, rfl, by rw [atZ_k h24 hk0 hkS (by assumption), if_neg (fun q => by first | exact absurd q.1 (by omega) | exact absurd q.2 (by assumption))], hCQ2, hFr⟩
      · have c5n : (1 < fb (k + 1) - fb k) := Classical.not_not.mp (fun q => c5 (iB_0.mpr q))
        refine x_iload_n dX9_at_38 3 rfl ?_
        refine x_iconst (v := 0) dX9_at_39 (by decide) ?_
        refine x_aload dX9_at_40 0 rfl ?_
        refine x_iload_n dX9_at_42 2 rfl ?_
        refine x_callV (K := jX1_lengthOf) [.int (nI k)] lk_X9_197 ⟨⟨rfl, rfl⟩, Nat.le_of_ble_eq_true rfl, Nat.le_of_ble_eq_true rfl⟩ rfl rfl (mX1_lengthOf hF hG h24 h15 k (by omega)) rfl (Nat.le_of_ble_eq_true rfl) rfl dX9_at_43 (kpI ?_)
        refine x_callS (K := jX9_between) [.int dist, .int 0, .int (S.2.2 2 (fb (k + 1) - 1))] lk_X9_129 ⟨⟨rfl, rfl⟩, Nat.le_of_ble_eq_true rfl, Nat.le_of_ble_eq_true rfl⟩ (mX9_between U3 dist 0 (S.2.2 2 (fb (k + 1) - 1))) rfl (Nat.le_of_ble_eq_true rfl) rfl dX9_at_46 (kpI ?_)
        refine x_if_ne 55 dX9_at_49 (by decide) (fun c6 => ?_) (fun c6 => ?_)
        · have c6n : (0 ≤ dist ∧ dist ≤ (S.2.2 2 (fb (k + 1) - 1))) := Classical.not_not.mp (fun q => c6 (iB_0.mpr q))
          refine x_aload dX9_at_55 0 rfl ?_
          refine x_iload_n dX9_at_57 2 rfl ?_
          refine x_iload_n dX9_at_58 3 rfl ?_
          refine x_iload_n dX9_at_59 4 rfl ?_
          refine x_callV (K := jX1_pointNumber) [.int (nI k), .int dist, .int what] lk_X9_200 ⟨⟨rfl, rfl⟩, Nat.le_of_ble_eq_true rfl, Nat.le_of_ble_eq_true rfl⟩ rfl rfl (mX1_pointNumber hF hG h24 h15 (fall_inr hP0.2.2.1 hS) k (by omega) (by omega) dist what) rfl (Nat.le_of_ble_eq_true rfl) rfl dX9_at_60 (kpI ?_)
          refine x_iret dX9_at_63 rfl ?_
          rw [hQ]
          first
            | exact ⟨_, rfl, (atZ_no (by assumption)).symm, hCQ, frQ.refl V⟩
            | exact ⟨_, rfl, (atZ_w (by assumption) (by assumption)).symm, hCQ, frQ.refl V⟩
            | exact ⟨_, rfl, by rw [atZ_k h24 hk0 hkS (by assumption), if_pos ⟨by omega, by assumption⟩], hCQ2, hFr⟩
            | exact ⟨_, rfl, by rw [atZ_k h24 hk0 hkS (by assumption), if_neg (fun q => by first | exact absurd q.1 (by omega) | exact absurd q.2 (by assumption))], hCQ2, hFr⟩
        · have c6n : ¬ (0 ≤ dist ∧ dist ≤ (S.2.2 2 (fb (k + 1) - 1))) := iB_0.mp c6
          refine x_ldc ct_X9_107 dX9_at_52 ?_
          refine x_iret dX9_at_54 rfl ?_
          rw [hQ]
          first
            | exact ⟨_, rfl, (atZ_no (by assumption)).symm, hCQ, frQ.refl V⟩
            | exact ⟨_, rfl, (atZ_w (by assumption) (by assumption)).symm, hCQ, frQ.refl V⟩
            | exact ⟨_, rfl, by rw [atZ_k h24 hk0 hkS (by assumption), if_pos ⟨by omega, by assumption⟩], hCQ2, hFr⟩
            | exact ⟨_, rfl, by rw [atZ_k h24 hk0 hkS (by assumption), if_neg (fun q => by first | exact absurd q.1 (by omega) | exact absurd q.2 (by assumption))], hCQ2, hFr⟩
    · have c2n : ¬ (0 ≤ what ∧ what ≤ 4) := iB_0.mp c2
      refine x_ldc ct_X9_83 dX9_at_20 ?_
      refine x_iret dX9_at_22 rfl ?_
      rw [hQ]
      first
        | exact ⟨_, rfl, (atZ_no (by assumption)).symm, hCQ, frQ.refl V⟩
        | exact ⟨_, rfl, (atZ_w (by assumption) (by assumption)).symm, hCQ, frQ.refl V⟩
        | exact ⟨_, rfl, by rw [atZ_k h24 hk0 hkS (by assumption), if_pos ⟨by omega, by assumption⟩], hCQ2, hFr⟩
        | exact ⟨_, rfl, by rw [atZ_k h24 hk0 hkS (by assumption), if_neg (fun q => by first | exact absurd q.1 (by omega) | exact absurd q.2 (by assumption))], hCQ2, hFr⟩
  · have c1n : ¬ (0 ≤ c ∧ c < nI S.2.1) := iB_0.mp c1
    refine x_ldc ct_X9_111 dX9_at_8 ?_
    refine x_iret dX9_at_10 rfl ?_
    rw [hQ]
    first
      | exact ⟨_, rfl, (atZ_no (by assumption)).symm, hCQ, frQ.refl V⟩
      | exact ⟨_, rfl, (atZ_w (by assumption) (by assumption)).symm, hCQ, frQ.refl V⟩
      | exact ⟨_, rfl, by rw [atZ_k h24 hk0 hkS (by assumption), if_pos ⟨by omega, by assumption⟩], hCQ2, hFr⟩
      | exact ⟨_, rfl, by rw [atZ_k h24 hk0 hkS (by assumption), if_neg (fun q => by first | exact absurd q.1 (by omega) | exact absurd q.2 (by assumption))], hCQ2, hFr⟩
set_option maxHeartbeats 1000000 in
set_option maxRecDepth 100000 in
theorem mX10_vertexFor {g : gX} {V : vM} {S : FS} {fb : Nat → Nat} {kc : Nat} (hF : FRM V S kc) (hE : V 65 S.2.1 = nI S.1) (hG : GI S fb) (h24 : S.2.1 ≤ 24) (h15 : S.1 ≤ 1536) (c : Nat) (hc : c < S.2.1) (h2 : 1 < fb (c + 1) - fb c) (dist : Int32) (hd : dist ≤ S.2.2 2 (fb (c + 1) - 1)) : MM g jX10_vertexFor V [.ref (g.2.1 49), .int (nI c), .int dist] (pI V (nI (sg S fb dist c - 1))) := by
  refine MM.of plX10_vertexFor (Nat.le_of_ble_eq_true rfl) ?_
  obtain ⟨Q, hQ⟩ : ∃ Q : Option Value → vM → Prop, Q = (pI V (nI (sg S fb dist c - 1))) := ⟨_, rfl⟩
  rw [← hQ]
  show XX g jX10_vertexFor Q V 0 [(0, .ref (g.2.1 49)), (1, .int (nI c)), (2, .int dist)] []
  have hb1 := hG.bd (j := c + 1) (by omega)
  have hV0 : V 65 c = nI (fb c) := hF.bo hE hG (by omega)
  refine x_aload_n dX10_vertexFor_0 0 rfl ?_
  refine x_getR fl_X10_56 rfl rfl dX10_vertexFor_1 ?_
  refine x_iload_n dX10_vertexFor_4 1 rfl ?_
  have b1 : vp_in (nI c) 26 := by exact vp_in_nI (by omega) (by decide)
  refine x_iald rfl b1 dX10_vertexFor_5 ?_
  refine x_topi (y := V 65 c) (by rw [nI_clamp (by omega)]) ?_
  refine x_topi (hV0) ?_
  refine x_iconst (v := 1) dX10_vertexFor_6 (by decide) ?_
  refine x_iadd dX10_vertexFor_7 ?_
  refine x_istore_n 3 [(3, .int ((nI (fb c)) + 1)), (0, .ref (g.2.1 49)), (1, .int (nI c)), (2, .int dist)] dX10_vertexFor_8 rfl (by decide) rfl ?_
  have lp2 : ∀ (fu : Nat) (i : Nat), (fb c + 1 ≤ i ∧ i < fb (c + 1)) → ((i < fb (c + 1) → sgL (S.2.2 2) dist (fb (c + 1) - 1 - i) i = sg S fb dist c) ∧ (i = fb (c + 1) → sg S fb dist c = fb (c + 1) - 1)) → (fb (c + 1) - i) < fu → XX g jX10_vertexFor Q V 9 [(3, .int (nI i)), (0, .ref (g.2.1 49)), (1, .int (nI c)), (2, .int dist)] [] := by
    intro fu
    induction fu with
    | zero => intro _ _ _ hmz; exact absurd hmz (Nat.not_lt_zero _)
    | succ fu ih =>
      intro i hi hv hmz
      refine x_aload_n dX10_vertexFor_9 1 rfl ?_
      refine x_getR fl_X10_53 rfl rfl dX10_vertexFor_10 ?_
      refine x_iload_n dX10_vertexFor_13 0 rfl ?_
      have b3 : vp_in (nI i) 1700 := by exact vp_in_nI (by omega) (by decide)
      refine x_iald rfl b3 dX10_vertexFor_14 ?_
      refine x_topi (y := V 64 i) (by rw [nI_clamp (by omega)]) ?_
      refine x_topi ((hF.2.2.1 i (by omega)).2.2) ?_
      refine x_iload_n dX10_vertexFor_15 3 rfl ?_
      refine x_icmp_ge 25 dX10_vertexFor_16 (by decide) (fun c4 => ?_) (fun c4 => ?_)
      · refine x_iload_n dX10_vertexFor_25 0 rfl ?_
        refine x_iconst (v := 1) dX10_vertexFor_26 (by decide) ?_
        refine x_isub dX10_vertexFor_27 ?_
        refine x_iret dX10_vertexFor_28 rfl ?_
        rw [hQ]
        refine ⟨rfl, ?_⟩
        rw [← hv.1 (by omega), sgL_hit (by assumption)]
        exact congrArg (fun z => some (Value.int z)) (nI_s1 (by omega))
      · refine x_iinc 3 (v := (nI i) + 1) 0 [(3, .int ((nI i) + 1)), (0, .ref (g.2.1 49)), (1, .int (nI c)), (2, .int dist)] dX10_vertexFor_19 rfl (by rfl) (by decide) rfl ?_
        refine x_goto 9 dX10_vertexFor_22 (by decide) ?_
        refine YY.L (lv' := [(3, .int (nI (i + 1))), (0, .ref (g.2.1 49)), (1, .int (nI c)), (2, .int dist)]) (by simp only [nI_1]) ?_
        exact ih (i + 1) (by by_cases q : i = fb (c + 1) - 1; (subst q; exact absurd hd (by assumption)); omega) (by exact sg_back hv (by omega) (by assumption)) (by omega)
  refine YY.L (lv' := [(3, .int (nI (fb c + 1))), (0, .ref (g.2.1 49)), (1, .int (nI c)), (2, .int dist)]) (by rw [nI_1]) ?_
  exact lp2 _ (fb c + 1) (by omega) (by exact ⟨fun _ => by unfold sg; rw [show fb (c + 1) - 1 - (fb c + 1) = fb (c + 1) - fb c - 2 by omega], fun q => absurd q (by omega)⟩) (Nat.lt_succ_self _)
theorem i32_64 (x : Int32) : x.toInt64.toInt32 = x := by simp
set_option maxHeartbeats 1000000 in
set_option maxRecDepth 100000 in
theorem mX10_placeAt {g : gX} {V : vM} {S : FS} {fb : Nat → Nat} {kc : Nat} (hF : FRM V S kc) (hE : V 65 S.2.1 = nI S.1) (hG : GI S fb) (h24 : S.2.1 ≤ 24) (h15 : S.1 ≤ 1536) (hR : ∀ i, i < S.1 → inR (S.2.2 0 i) ∧ inR (S.2.2 1 i)) (c : Nat) (hc : c < S.2.1) (h2 : 1 < fb (c + 1) - fb c) (dist : Int32) (hd : dist ≤ S.2.2 2 (fb (c + 1) - 1)) (what : Int32) : MM g jX10_placeAt V [.ref (g.2.1 49), .int (nI c), .int dist, .int what] (pI V (ptN S (sg S fb dist c) c dist what)) := by
  refine MM.of plX10_placeAt (Nat.le_of_ble_eq_true rfl) ?_
  obtain ⟨Q, hQ⟩ : ∃ Q : Option Value → vM → Prop, Q = (pI V (ptN S (sg S fb dist c) c dist what)) := ⟨_, rfl⟩
  rw [← hQ]
  show XX g jX10_placeAt Q V 0 [(0, .ref (g.2.1 49)), (1, .int (nI c)), (2, .int dist), (3, .int what)] []
  have hb1 := hG.bd (j := c + 1) (by omega)
  refine x_aload_n dX10_placeAt_0 0 rfl ?_
  refine x_iload_n dX10_placeAt_1 1 rfl ?_
  refine x_iload_n dX10_placeAt_2 2 rfl ?_
  refine x_callV (K := jX10_vertexFor) [.int (nI c), .int dist] lk_X10_257 ⟨⟨rfl, rfl⟩, Nat.le_of_ble_eq_true rfl, Nat.le_of_ble_eq_true rfl⟩ rfl rfl (mX10_vertexFor hF hE hG h24 h15 c (by omega) (by omega) dist (by assumption)) rfl (Nat.le_of_ble_eq_true rfl) rfl dX10_placeAt_3 (kpI ?_)
  have hsb := sg_b (S := S) (fb := fb) (dist := dist) (c := c) (by omega)
  obtain ⟨i, ei⟩ : ∃ v_v : Nat, v_v + 1 = sg S fb dist c := ⟨sg S fb dist c - 1, by omega⟩
  rw [← ei] at hsb
  refine x_topi (y := nI i) (by rw [← ei, Nat.add_sub_cancel]) ?_
  have hnz : ¬ S.2.2 2 (i + 1) - S.2.2 2 i = 0 := seg_nz0 hG hR (c := c) (i := i + 1) (by omega) hsb.1 hsb.2
  refine x_istore 4 [(4, .int (nI i)), (0, .ref (g.2.1 49)), (1, .int (nI c)), (2, .int dist), (3, .int what)] dX10_placeAt_6 (by decide) rfl ?_
  refine x_aload_n dX10_placeAt_8 1 rfl ?_
  refine x_getR fl_X10_47 rfl rfl dX10_placeAt_9 ?_
  refine x_iload dX10_placeAt_12 0 rfl ?_
  refine x_iconst (v := 1) dX10_placeAt_14 (by decide) ?_
  refine x_iadd dX10_placeAt_15 ?_
  have q1 : ((nI i) + 1 : Int32) = nI (i + 1) := nadd (rfl) (rfl)
  refine YY.S (st' := [.int (nI (i + 1)), .ref (g.2.1 62)]) (by rw [q1]) ?_
  have b2 : vp_in (nI (i + 1)) 1700 := by exact vp_in_nI (by omega) (by decide)
  refine x_iald rfl b2 dX10_placeAt_16 ?_
  refine x_topi (y := V 62 (i + 1)) (by rw [nI_clamp (by omega)]) ?_
  refine x_topi ((hF.2.2.1 (i + 1) (by omega)).1) ?_
  refine x_aload_n dX10_placeAt_17 1 rfl ?_
  refine x_getR fl_X10_47 rfl rfl dX10_placeAt_18 ?_
  refine x_iload dX10_placeAt_21 0 rfl ?_
  have b3 : vp_in (nI i) 1700 := by exact vp_in_nI (by omega) (by decide)
  refine x_iald rfl b3 dX10_placeAt_23 ?_
  refine x_topi (y := V 62 i) (by rw [nI_clamp (by omega)]) ?_
  refine x_topi ((hF.2.2.1 i (by omega)).1) ?_
  refine x_isub dX10_placeAt_24 ?_
  refine x_i2l dX10_placeAt_25 ?_
  refine x_lstore 5 [(5, .long (((S.2.2 0 (i + 1)) - (S.2.2 0 i)).toInt64)), (4, .int (nI i)), (0, .ref (g.2.1 49)), (1, .int (nI c)), (2, .int dist), (3, .int what)] dX10_placeAt_26 (by decide) rfl ?_
  refine x_aload_n dX10_placeAt_28 2 rfl ?_
  refine x_getR fl_X10_50 rfl rfl dX10_placeAt_29 ?_
  refine x_iload dX10_placeAt_32 1 rfl ?_
  refine x_iconst (v := 1) dX10_placeAt_34 (by decide) ?_
  refine x_iadd dX10_placeAt_35 ?_
  have q4 : ((nI i) + 1 : Int32) = nI (i + 1) := nadd (rfl) (rfl)
  refine YY.S (st' := [.int (nI (i + 1)), .ref (g.2.1 63)]) (by rw [q4]) ?_
  have b5 : vp_in (nI (i + 1)) 1700 := by exact vp_in_nI (by omega) (by decide)
  refine x_iald rfl b5 dX10_placeAt_36 ?_
  refine x_topi (y := V 63 (i + 1)) (by rw [nI_clamp (by omega)]) ?_
  refine x_topi ((hF.2.2.1 (i + 1) (by omega)).2.1) ?_
  refine x_aload_n dX10_placeAt_37 2 rfl ?_
  refine x_getR fl_X10_50 rfl rfl dX10_placeAt_38 ?_
  refine x_iload dX10_placeAt_41 1 rfl ?_
  have b6 : vp_in (nI i) 1700 := by exact vp_in_nI (by omega) (by decide)
  refine x_iald rfl b6 dX10_placeAt_43 ?_
  refine x_topi (y := V 63 i) (by rw [nI_clamp (by omega)]) ?_
  refine x_topi ((hF.2.2.1 i (by omega)).2.1) ?_
  refine x_isub dX10_placeAt_44 ?_
  refine x_i2l dX10_placeAt_45 ?_
  refine x_lstore 7 [(7, .long (((S.2.2 1 (i + 1)) - (S.2.2 1 i)).toInt64)), (5, .long (((S.2.2 0 (i + 1)) - (S.2.2 0 i)).toInt64)), (4, .int (nI i)), (0, .ref (g.2.1 49)), (1, .int (nI c)), (2, .int dist), (3, .int what)] dX10_placeAt_46 (by decide) rfl ?_
  refine x_iload_n dX10_placeAt_48 5 rfl ?_
  refine x_aload_n dX10_placeAt_49 3 rfl ?_
  refine x_getR fl_X10_53 rfl rfl dX10_placeAt_50 ?_
  refine x_iload dX10_placeAt_53 2 rfl ?_
  have b7 : vp_in (nI i) 1700 := by exact vp_in_nI (by omega) (by decide)
  refine x_iald rfl b7 dX10_placeAt_55 ?_
  refine x_topi (y := V 64 i) (by rw [nI_clamp (by omega)]) ?_
  refine x_topi ((hF.2.2.1 i (by omega)).2.2) ?_
  refine x_isub dX10_placeAt_56 ?_
  refine x_i2l dX10_placeAt_57 ?_
  refine x_lstore 9 [(9, .long ((dist - (S.2.2 2 i)).toInt64)), (7, .long (((S.2.2 1 (i + 1)) - (S.2.2 1 i)).toInt64)), (5, .long (((S.2.2 0 (i + 1)) - (S.2.2 0 i)).toInt64)), (4, .int (nI i)), (0, .ref (g.2.1 49)), (1, .int (nI c)), (2, .int dist), (3, .int what)] dX10_placeAt_58 (by decide) rfl ?_
  refine x_aload_n dX10_placeAt_60 4 rfl ?_
  refine x_getR fl_X10_53 rfl rfl dX10_placeAt_61 ?_
  refine x_iload dX10_placeAt_64 3 rfl ?_
  refine x_iconst (v := 1) dX10_placeAt_66 (by decide) ?_
  refine x_iadd dX10_placeAt_67 ?_
  have q8 : ((nI i) + 1 : Int32) = nI (i + 1) := nadd (rfl) (rfl)
  refine YY.S (st' := [.int (nI (i + 1)), .ref (g.2.1 64)]) (by rw [q8]) ?_
  have b9 : vp_in (nI (i + 1)) 1700 := by exact vp_in_nI (by omega) (by decide)
  refine x_iald rfl b9 dX10_placeAt_68 ?_
  refine x_topi (y := V 64 (i + 1)) (by rw [nI_clamp (by omega)]) ?_
  refine x_topi ((hF.2.2.1 (i + 1) (by omega)).2.2) ?_
  refine x_aload_n dX10_placeAt_69 4 rfl ?_
  refine x_getR fl_X10_53 rfl rfl dX10_placeAt_70 ?_
  refine x_iload dX10_placeAt_73 3 rfl ?_
  have b10 : vp_in (nI i) 1700 := by exact vp_in_nI (by omega) (by decide)
  refine x_iald rfl b10 dX10_placeAt_75 ?_
  refine x_topi (y := V 64 i) (by rw [nI_clamp (by omega)]) ?_
  refine x_topi ((hF.2.2.1 i (by omega)).2.2) ?_
  refine x_isub dX10_placeAt_76 ?_
  refine x_i2l dX10_placeAt_77 ?_
  refine x_lstore 11 [(11, .long (((S.2.2 2 (i + 1)) - (S.2.2 2 i)).toInt64)), (9, .long ((dist - (S.2.2 2 i)).toInt64)), (7, .long (((S.2.2 1 (i + 1)) - (S.2.2 1 i)).toInt64)), (5, .long (((S.2.2 0 (i + 1)) - (S.2.2 0 i)).toInt64)), (4, .int (nI i)), (0, .ref (g.2.1 49)), (1, .int (nI c)), (2, .int dist), (3, .int what)] dX10_placeAt_78 (by decide) rfl ?_
  refine x_iload_n dX10_placeAt_80 8 rfl ?_
  by_cases c11 : what = 0
  · refine x_tableIn 112 dX10_placeAt_81 (by rw [c11]; decide) (by rw [c11]; decide) (by rw [c11]; rfl) (by decide) ?_
    refine x_aload_n dX10_placeAt_112 5 rfl ?_
    refine x_getR fl_X10_47 rfl rfl dX10_placeAt_113 ?_
    refine x_iload dX10_placeAt_116 4 rfl ?_
    have b12 : vp_in (nI i) 1700 := by exact vp_in_nI (by omega) (by decide)
    refine x_iald rfl b12 dX10_placeAt_118 ?_
    refine x_topi (y := V 62 i) (by rw [nI_clamp (by omega)]) ?_
    refine x_topi ((hF.2.2.1 i (by omega)).1) ?_
    refine x_lload dX10_placeAt_119 3 rfl ?_
    refine x_lload dX10_placeAt_121 1 rfl ?_
    refine x_lmul dX10_placeAt_123 ?_
    refine x_lload dX10_placeAt_124 0 rfl ?_
    have nz13 : ¬ (((S.2.2 2 (i + 1)) - (S.2.2 2 i)).toInt64 : Int64) = 0 := by exact fun z => hnz (i64z z)
    refine x_ldiv dX10_placeAt_126 nz13 ?_
    refine x_l2i dX10_placeAt_127 ?_
    refine x_iadd dX10_placeAt_128 ?_
    refine x_iret dX10_placeAt_129 rfl ?_
    rw [hQ]
    refine ⟨rfl, ?_⟩
    rw [← ei]
    unfold ptN alg
    simp only [Nat.add_sub_cancel, i32_64, nI_s1 (a := i + 1) (by omega)]
    first | rw [if_pos (by assumption)] | rw [if_neg (by assumption), if_pos (by assumption)] | rw [if_neg (by assumption), if_neg (by assumption), if_pos (by assumption)] | rw [if_neg (by assumption), if_neg (by assumption), if_neg (by assumption), if_pos (by assumption)] | rw [if_neg (by grind), if_neg (by grind), if_neg (by grind), if_neg (by grind)]
  by_cases c14 : what = 1
  · refine x_tableIn 130 dX10_placeAt_81 (by rw [c14]; decide) (by rw [c14]; decide) (by rw [c14]; rfl) (by decide) ?_
    refine x_aload_n dX10_placeAt_130 5 rfl ?_
    refine x_getR fl_X10_50 rfl rfl dX10_placeAt_131 ?_
    refine x_iload dX10_placeAt_134 4 rfl ?_
    have b15 : vp_in (nI i) 1700 := by exact vp_in_nI (by omega) (by decide)
    refine x_iald rfl b15 dX10_placeAt_136 ?_
    refine x_topi (y := V 63 i) (by rw [nI_clamp (by omega)]) ?_
    refine x_topi ((hF.2.2.1 i (by omega)).2.1) ?_
    refine x_lload dX10_placeAt_137 2 rfl ?_
    refine x_lload dX10_placeAt_139 1 rfl ?_
    refine x_lmul dX10_placeAt_141 ?_
    refine x_lload dX10_placeAt_142 0 rfl ?_
    have nz16 : ¬ (((S.2.2 2 (i + 1)) - (S.2.2 2 i)).toInt64 : Int64) = 0 := by exact fun z => hnz (i64z z)
    refine x_ldiv dX10_placeAt_144 nz16 ?_
    refine x_l2i dX10_placeAt_145 ?_
    refine x_iadd dX10_placeAt_146 ?_
    refine x_iret dX10_placeAt_147 rfl ?_
    rw [hQ]
    refine ⟨rfl, ?_⟩
    rw [← ei]
    unfold ptN alg
    simp only [Nat.add_sub_cancel, i32_64, nI_s1 (a := i + 1) (by omega)]
    first | rw [if_pos (by assumption)] | rw [if_neg (by assumption), if_pos (by assumption)] | rw [if_neg (by assumption), if_neg (by assumption), if_pos (by assumption)] | rw [if_neg (by assumption), if_neg (by assumption), if_neg (by assumption), if_pos (by assumption)] | rw [if_neg (by grind), if_neg (by grind), if_neg (by grind), if_neg (by grind)]
  by_cases c17 : what = 2
  · refine x_tableIn 148 dX10_placeAt_81 (by rw [c17]; decide) (by rw [c17]; decide) (by rw [c17]; rfl) (by decide) ?_
    refine x_aload_n dX10_placeAt_148 5 rfl ?_
    refine x_iload_n dX10_placeAt_149 6 rfl ?_
    refine x_iload dX10_placeAt_150 4 rfl ?_
    refine x_callV (K := jX10_segmentAt) [.int (nI c), .int (nI i)] lk_X10_260 ⟨⟨rfl, rfl⟩, Nat.le_of_ble_eq_true rfl, Nat.le_of_ble_eq_true rfl⟩ rfl rfl (mX10_segmentAt V (nI c) (nI i)) rfl (Nat.le_of_ble_eq_true rfl) rfl dX10_placeAt_152 (kpI ?_)
    refine x_iret dX10_placeAt_155 rfl ?_
    rw [hQ]
    refine ⟨rfl, ?_⟩
    rw [← ei]
    unfold ptN alg
    simp only [Nat.add_sub_cancel, i32_64, nI_s1 (a := i + 1) (by omega)]
    first | rw [if_pos (by assumption)] | rw [if_neg (by assumption), if_pos (by assumption)] | rw [if_neg (by assumption), if_neg (by assumption), if_pos (by assumption)] | rw [if_neg (by assumption), if_neg (by assumption), if_neg (by assumption), if_pos (by assumption)] | rw [if_neg (by grind), if_neg (by grind), if_neg (by grind), if_neg (by grind)]
  by_cases c18 : what = 3
  · refine x_tableIn 156 dX10_placeAt_81 (by rw [c18]; decide) (by rw [c18]; decide) (by rw [c18]; rfl) (by decide) ?_
    refine x_lload dX10_placeAt_156 3 rfl ?_
    refine x_l2i dX10_placeAt_158 ?_
    refine x_iret dX10_placeAt_159 rfl ?_
    rw [hQ]
    refine ⟨rfl, ?_⟩
    rw [← ei]
    unfold ptN alg
    simp only [Nat.add_sub_cancel, i32_64, nI_s1 (a := i + 1) (by omega)]
    first | rw [if_pos (by assumption)] | rw [if_neg (by assumption), if_pos (by assumption)] | rw [if_neg (by assumption), if_neg (by assumption), if_pos (by assumption)] | rw [if_neg (by assumption), if_neg (by assumption), if_neg (by assumption), if_pos (by assumption)] | rw [if_neg (by grind), if_neg (by grind), if_neg (by grind), if_neg (by grind)]
  refine x_tableOut 160 dX10_placeAt_81 (by have q0 : ¬ what.toInt = 0 := fun q => c11 (Int32.toInt_inj.mp (q.trans (by decide))); have q1 : ¬ what.toInt = 1 := fun q => c14 (Int32.toInt_inj.mp (q.trans (by decide))); have q2 : ¬ what.toInt = 2 := fun q => c17 (Int32.toInt_inj.mp (q.trans (by decide))); have q3 : ¬ what.toInt = 3 := fun q => c18 (Int32.toInt_inj.mp (q.trans (by decide))); omega) (by decide) ?_
  refine x_lload dX10_placeAt_160 2 rfl ?_
  refine x_l2i dX10_placeAt_162 ?_
  refine x_iret dX10_placeAt_163 rfl ?_
  rw [hQ]
  refine ⟨rfl, ?_⟩
  rw [← ei]
  unfold ptN alg
  simp only [Nat.add_sub_cancel, i32_64, nI_s1 (a := i + 1) (by omega)]
  first | rw [if_pos (by assumption)] | rw [if_neg (by assumption), if_pos (by assumption)] | rw [if_neg (by assumption), if_neg (by assumption), if_pos (by assumption)] | rw [if_neg (by assumption), if_neg (by assumption), if_neg (by assumption), if_pos (by assumption)] | rw [if_neg (by grind), if_neg (by grind), if_neg (by grind), if_neg (by grind)]
set_option maxHeartbeats 1000000 in
set_option maxRecDepth 100000 in
theorem mX10_at {g : gX} {V : vM} {m : Nat → Int32} {N : Nat} {t : Int32} {S : FS} {fb : Nat → Nat} (hMQ : MZ V m N t S fb) (c dist what : Int32) : MM g jX10_at V [.ref (g.2.1 49), .int c, .int dist, .int what] (eI (fun z U => z = atZ S fb c dist what ∧ MZ U m N t S fb ∧ frM V U)) := by
  refine MM.of plX10_at (Nat.le_of_ble_eq_true rfl) ?_
  obtain ⟨Q, hQ⟩ : ∃ Q : Option Value → vM → Prop, Q = (eI (fun z U => z = atZ S fb c dist what ∧ MZ U m N t S fb ∧ frM V U)) := ⟨_, rfl⟩
  rw [← hQ]
  show XX g jX10_at Q V 0 [(0, .ref (g.2.1 49)), (1, .int c), (2, .int dist), (3, .int what)] []
  obtain ⟨hw, hm50, hN8, ht9, hS, hG, h24, h15, hcn, hL⟩ := id hMQ
  have hN24 := hw.1
  have hcl := cntM_le (kd7 m) N
  refine x_aload_n dX10_at_0 0 rfl ?_
  refine x_iload_n dX10_at_1 1 rfl ?_
  refine x_callV (K := jX10_isContour) [.int c] lk_X10_123 ⟨⟨rfl, rfl⟩, Nat.le_of_ble_eq_true rfl, Nat.le_of_ble_eq_true rfl⟩ rfl rfl (by have := mX10_isContour (g := g) V N hw.1 (by rw [hm50]; exact hN8) (by rw [hm50]; exact hw) c; rw [hm50, ← hcn] at this; exact this) rfl (Nat.le_of_ble_eq_true rfl) rfl dX10_at_2 (kpI ?_)
  refine x_if_ne 11 dX10_at_5 (by decide) (fun c1 => ?_) (fun c1 => ?_)
  · have c1n : (0 ≤ c ∧ c < nI S.2.1) := Classical.not_not.mp (fun q => c1 (iB_0.mpr q))
    refine x_iload_n dX10_at_11 3 rfl ?_
    refine x_iconst (v := 0) dX10_at_12 (by decide) ?_
    refine x_iconst (v := 4) dX10_at_13 (by decide) ?_
    refine x_callS (K := jX10_in) [.int what, .int 0, .int 4] lk_X10_80 ⟨⟨rfl, rfl⟩, Nat.le_of_ble_eq_true rfl, Nat.le_of_ble_eq_true rfl⟩ (mX10_in V what 0 4) rfl (Nat.le_of_ble_eq_true rfl) rfl dX10_at_14 (kpI ?_)
    refine x_if_ne 23 dX10_at_17 (by decide) (fun c2 => ?_) (fun c2 => ?_)
    · have c2n : (0 ≤ what ∧ what ≤ 4) := Classical.not_not.mp (fun q => c2 (iB_0.mpr q))
      obtain ⟨k, hk0, hkS⟩ := nI_ex (c := c) (n := S.2.1) (by omega) (by assumption)
      refine YY.L (lv' := [(0, .ref (g.2.1 49)), (1, .int (nI k)), (2, .int dist), (3, .int what)]) (by rw [hk0]) ?_
      have hkb := hG.bd (j := k + 1) (by omega)
      have hkl := (hG.2.2.2 k hkS).1
      refine x_aload_n dX10_at_23 0 rfl ?_
      refine x_callV (K := jX10_flatten) [] lk_X10_111 ⟨⟨rfl, rfl⟩, Nat.le_of_ble_eq_true rfl, Nat.le_of_ble_eq_true rfl⟩ rfl rfl (mX10_flatten V hw hm50 hN8 t ht9) rfl (Nat.le_of_ble_eq_true rfl) rfl dX10_at_24 (keV fun U3 hU4 => ?_)
      have hMQ2 := hMQ.aft hU4
      have hFr := hU4.2.2
      have hF : FRM U3 S N := by rw [← hS]; exact hU4.1
      have hE : U3 65 S.2.1 = nI S.1 := by rw [← hS]; exact hU4.2.1
      have hmU := hMQ2.2.1
      refine x_aload_n dX10_at_27 0 rfl ?_
      refine x_iload_n dX10_at_28 1 rfl ?_
      refine x_callV (K := jX10_verticesOf) [.int (nI k)] lk_X10_245 ⟨⟨rfl, rfl⟩, Nat.le_of_ble_eq_true rfl, Nat.le_of_ble_eq_true rfl⟩ rfl rfl (mX10_verticesOf hF hE hG h24 h15 k (by omega)) rfl (Nat.le_of_ble_eq_true rfl) rfl dX10_at_29 (kpI ?_)
      refine x_iconst (v := 2) dX10_at_32 (by decide) ?_
      refine x_icmp_lt 49 dX10_at_33 (by decide) (fun c5 => ?_) (fun c5 => ?_)
      · have c5n : fb (k + 1) - fb k < 2 := (nl_lt (a := fb (k + 1) - fb k) (b := 2) (rfl) (rfl) (by omega) (by omega)).mp c5
        refine x_ldc ct_X10_97 dX10_at_49 ?_
        refine x_iret dX10_at_51 rfl ?_
        rw [hQ]
        first
          | exact ⟨_, rfl, (atZ_no (by assumption)).symm, hMQ, frM.refl V⟩
          | exact ⟨_, rfl, (atZ_w (by assumption) (by assumption)).symm, hMQ, frM.refl V⟩
          | exact ⟨_, rfl, by rw [atZ_k h24 hk0 hkS (by assumption), if_pos ⟨by omega, by assumption⟩], hMQ2, hFr⟩
          | exact ⟨_, rfl, by rw [atZ_k h24 hk0 hkS (by assumption), if_neg (fun q => by first | exact absurd q.1 (by omega) | exact absurd q.2 (by assumption))], hMQ2, hFr⟩
      · have c5n : 2 ≤ fb (k + 1) - fb k := Nat.not_lt.mp (fun q => c5 ((nl_lt (a := fb (k + 1) - fb k) (b := 2) (rfl) (rfl) (by omega) (by omega)).mpr q))
        refine x_iload_n dX10_at_36 2 rfl ?_
        refine x_iconst (v := 0) dX10_at_37 (by decide) ?_
        refine x_aload_n dX10_at_38 0 rfl ?_
        refine x_iload_n dX10_at_39 1 rfl ?_
        refine x_callV (K := jX10_lengthOfContour) [.int (nI k)] lk_X10_248 ⟨⟨rfl, rfl⟩, Nat.le_of_ble_eq_true rfl, Nat.le_of_ble_eq_true rfl⟩ rfl rfl (mX10_lengthOfContour hF hE hG h24 h15 k (by omega)) rfl (Nat.le_of_ble_eq_true rfl) rfl dX10_at_40 (kpI ?_)
        refine x_callS (K := jX10_in) [.int dist, .int 0, .int (S.2.2 2 (fb (k + 1) - 1))] lk_X10_80 ⟨⟨rfl, rfl⟩, Nat.le_of_ble_eq_true rfl, Nat.le_of_ble_eq_true rfl⟩ (mX10_in U3 dist 0 (S.2.2 2 (fb (k + 1) - 1))) rfl (Nat.le_of_ble_eq_true rfl) rfl dX10_at_43 (kpI ?_)
        refine x_if_ne 52 dX10_at_46 (by decide) (fun c6 => ?_) (fun c6 => ?_)
        · have c6n : (0 ≤ dist ∧ dist ≤ (S.2.2 2 (fb (k + 1) - 1))) := Classical.not_not.mp (fun q => c6 (iB_0.mpr q))
          refine x_aload_n dX10_at_52 0 rfl ?_
          refine x_iload_n dX10_at_53 1 rfl ?_
          refine x_iload_n dX10_at_54 2 rfl ?_
          refine x_iload_n dX10_at_55 3 rfl ?_
          refine x_callV (K := jX10_placeAt) [.int (nI k), .int dist, .int what] lk_X10_263 ⟨⟨rfl, rfl⟩, Nat.le_of_ble_eq_true rfl, Nat.le_of_ble_eq_true rfl⟩ rfl rfl (mX10_placeAt hF hE hG h24 h15 (fall_inr hw hS) k (by omega) (by omega) dist (by first | assumption | exact (show 0 ≤ dist ∧ _ by assumption).2) what) rfl (Nat.le_of_ble_eq_true rfl) rfl dX10_at_56 (kpI ?_)
          refine x_iret dX10_at_59 rfl ?_
          rw [hQ]
          first
            | exact ⟨_, rfl, (atZ_no (by assumption)).symm, hMQ, frM.refl V⟩
            | exact ⟨_, rfl, (atZ_w (by assumption) (by assumption)).symm, hMQ, frM.refl V⟩
            | exact ⟨_, rfl, by rw [atZ_k h24 hk0 hkS (by assumption), if_pos ⟨by omega, by assumption⟩], hMQ2, hFr⟩
            | exact ⟨_, rfl, by rw [atZ_k h24 hk0 hkS (by assumption), if_neg (fun q => by first | exact absurd q.1 (by omega) | exact absurd q.2 (by assumption))], hMQ2, hFr⟩
        · have c6n : ¬ (0 ≤ dist ∧ dist ≤ (S.2.2 2 (fb (k + 1) - 1))) := iB_0.mp c6
          refine x_ldc ct_X10_97 dX10_at_49 ?_
          refine x_iret dX10_at_51 rfl ?_
          rw [hQ]
          first
            | exact ⟨_, rfl, (atZ_no (by assumption)).symm, hMQ, frM.refl V⟩
            | exact ⟨_, rfl, (atZ_w (by assumption) (by assumption)).symm, hMQ, frM.refl V⟩
            | exact ⟨_, rfl, by rw [atZ_k h24 hk0 hkS (by assumption), if_pos ⟨by omega, by assumption⟩], hMQ2, hFr⟩
            | exact ⟨_, rfl, by rw [atZ_k h24 hk0 hkS (by assumption), if_neg (fun q => by first | exact absurd q.1 (by omega) | exact absurd q.2 (by assumption))], hMQ2, hFr⟩
    · have c2n : ¬ (0 ≤ what ∧ what ≤ 4) := iB_0.mp c2
      refine x_ldc ct_X10_88 dX10_at_20 ?_
      refine x_iret dX10_at_22 rfl ?_
      rw [hQ]
      first
        | exact ⟨_, rfl, (atZ_no (by assumption)).symm, hMQ, frM.refl V⟩
        | exact ⟨_, rfl, (atZ_w (by assumption) (by assumption)).symm, hMQ, frM.refl V⟩
        | exact ⟨_, rfl, by rw [atZ_k h24 hk0 hkS (by assumption), if_pos ⟨by omega, by assumption⟩], hMQ2, hFr⟩
        | exact ⟨_, rfl, by rw [atZ_k h24 hk0 hkS (by assumption), if_neg (fun q => by first | exact absurd q.1 (by omega) | exact absurd q.2 (by assumption))], hMQ2, hFr⟩
  · have c1n : ¬ (0 ≤ c ∧ c < nI S.2.1) := iB_0.mp c1
    refine x_ldc ct_X10_107 dX10_at_8 ?_
    refine x_iret dX10_at_10 rfl ?_
    rw [hQ]
    first
      | exact ⟨_, rfl, (atZ_no (by assumption)).symm, hMQ, frM.refl V⟩
      | exact ⟨_, rfl, (atZ_w (by assumption) (by assumption)).symm, hMQ, frM.refl V⟩
      | exact ⟨_, rfl, by rw [atZ_k h24 hk0 hkS (by assumption), if_pos ⟨by omega, by assumption⟩], hMQ2, hFr⟩
      | exact ⟨_, rfl, by rw [atZ_k h24 hk0 hkS (by assumption), if_neg (fun q => by first | exact absurd q.1 (by omega) | exact absurd q.2 (by assumption))], hMQ2, hFr⟩
