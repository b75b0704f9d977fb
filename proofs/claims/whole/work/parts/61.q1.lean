set_option maxHeartbeats 1000000 in
set_option maxRecDepth 100000 in
theorem mX1_has {g : gX} {V : vM} {S : FS} {fb : Nat → Nat} (hF : FRC V S) (hG : GI S fb) (h24 : S.2.1 ≤ 24) (h15 : S.1 ≤ 1536) (c : Int32) : MM g jX1_has V [.ref (g.2.1 6), .int c] (pI V (iB (0 ≤ c ∧ c < nI S.2.1))) := by
  refine MM.of plX1_has (Nat.le_of_ble_eq_true rfl) ?_
  obtain ⟨Q, hQ⟩ : ∃ Q : Option Value → vM → Prop, Q = (pI V (iB (0 ≤ c ∧ c < nI S.2.1))) := ⟨_, rfl⟩
  rw [← hQ]
  show XX g jX1_has Q V 0 [(0, .ref (g.2.1 6)), (1, .int c)] []
  refine x_iload_n dX1_has_0 1 rfl ?_
  have jn3 : ∀ (z2 : Int32), ((c < 0 ∧ z2 = 0) ∨ (¬ c < 0 ∧ (nI (S.2.1)) ≤ c ∧ z2 = 0) ∨ (¬ c < 0 ∧ ¬ (nI (S.2.1)) ≤ c ∧ z2 = 1)) → XX g jX1_has Q V 17 [(0, .ref (g.2.1 6)), (1, .int c)] [.int z2] := by
    intro z2 hj4
    refine x_zret dX1_has_17 rfl (by exact nar01 (by first | exact Or.inl rfl | exact Or.inr rfl | grind)) ?_
    rw [hQ]
    refine ⟨rfl, ?_⟩
    congr 2
    unfold iB
    grind
  refine x_if_lt 16 dX1_has_1 (by decide) (fun c1 => ?_) (fun c1 => ?_)
  · refine x_iconst (v := 0) dX1_has_16 (by decide) ?_
    exact jn3 _ (Or.inl ⟨c1, rfl⟩)
  · refine x_iload_n dX1_has_4 1 rfl ?_
    refine x_aload_n dX1_has_5 0 rfl ?_
    refine x_getI fl_X1_42 rfl rfl dX1_has_6 ?_
    refine x_topi (hF.2.1) ?_
    refine x_icmp_ge 16 dX1_has_9 (by decide) (fun c6 => ?_) (fun c6 => ?_)
    · refine x_iconst (v := 0) dX1_has_16 (by decide) ?_
      exact jn3 _ (Or.inr (Or.inl ⟨c1, c6, rfl⟩))
    · refine x_iconst (v := 1) dX1_has_12 (by decide) ?_
      refine x_goto 17 dX1_has_13 (by decide) ?_
      exact jn3 _ (Or.inr (Or.inr ⟨c1, c6, rfl⟩))
set_option maxHeartbeats 1000000 in
set_option maxRecDepth 100000 in
theorem mX1_firstOf {g : gX} {V : vM} {S : FS} {fb : Nat → Nat} (hF : FRC V S) (hG : GI S fb) (h24 : S.2.1 ≤ 24) (h15 : S.1 ≤ 1536) (c : Nat) (hc : c ≤ S.2.1) : MM g jX1_firstOf V [.ref (g.2.1 6), .int (nI c)] (pI V (nI (fb c))) := by
  refine MM.of plX1_firstOf (Nat.le_of_ble_eq_true rfl) ?_
  obtain ⟨Q, hQ⟩ : ∃ Q : Option Value → vM → Prop, Q = (pI V (nI (fb c))) := ⟨_, rfl⟩
  rw [← hQ]
  show XX g jX1_firstOf Q V 0 [(0, .ref (g.2.1 6)), (1, .int (nI c))] []
  have hb := hG.bd hc
  refine x_iload_n dX1_firstOf_0 1 rfl ?_
  refine x_if_lt 21 dX1_firstOf_1 (by decide) (fun c1 => by exfalso; exact absurd c1 (nI_pos (by omega))) (fun c1 => ?_)
  refine x_iload_n dX1_firstOf_4 1 rfl ?_
  refine x_aload_n dX1_firstOf_5 0 rfl ?_
  refine x_getI fl_X1_42 rfl rfl dX1_firstOf_6 ?_
  refine x_topi (hF.2.1) ?_
  refine x_icmp_gt 21 dX1_firstOf_9 (by decide) (fun c2 => by exfalso; exact absurd ((nl_lt (a := S.2.1) (b := c) rfl rfl (by omega) (by omega)).mp c2) (by omega)) (fun c2 => ?_)
  refine x_aload_n dX1_firstOf_12 0 rfl ?_
  refine x_getR fl_X1_24 rfl rfl dX1_firstOf_13 ?_
  refine x_iload_n dX1_firstOf_16 1 rfl ?_
  have b3 : vp_in (nI c) 25 := by exact vp_in_nI (by omega) (by decide)
  refine x_iald rfl b3 dX1_firstOf_17 ?_
  refine x_topi (y := V 24 c) (by rw [nI_clamp (by omega)]) ?_
  refine x_goto 25 dX1_firstOf_18 (by decide) ?_
  refine x_iret dX1_firstOf_25 rfl ?_
  rw [hQ]
  exact ⟨rfl, by rw [hF.2.2.2.1 c hc, hG.2.2.1 c hc]⟩
set_option maxHeartbeats 1000000 in
set_option maxRecDepth 100000 in
theorem mX1_verticesIn {g : gX} {V : vM} {S : FS} {fb : Nat → Nat} (hF : FRC V S) (hG : GI S fb) (h24 : S.2.1 ≤ 24) (h15 : S.1 ≤ 1536) (a d : Nat) (hd : a + d ≤ S.2.1) : MM g jX1_verticesIn V [.ref (g.2.1 6), .int (nI a), .int (nI (a + d))] (pI V (nI (fb (a + d) - fb a))) := by
  refine MM.of plX1_verticesIn (Nat.le_of_ble_eq_true rfl) ?_
  obtain ⟨Q, hQ⟩ : ∃ Q : Option Value → vM → Prop, Q = (pI V (nI (fb (a + d) - fb a))) := ⟨_, rfl⟩
  rw [← hQ]
  show XX g jX1_verticesIn Q V 0 [(0, .ref (g.2.1 6)), (1, .int (nI a)), (2, .int (nI (a + d)))] []
  refine x_aload_n dX1_verticesIn_0 0 rfl ?_
  refine x_iload_n dX1_verticesIn_1 2 rfl ?_
  refine x_callV (K := jX1_firstOf) [.int (nI (a + d))] lk_X1_101 ⟨⟨rfl, rfl⟩, Nat.le_of_ble_eq_true rfl, Nat.le_of_ble_eq_true rfl⟩ rfl rfl (mX1_firstOf hF hG h24 h15 (a + d) (by omega)) rfl (Nat.le_of_ble_eq_true rfl) rfl dX1_verticesIn_2 (kpI ?_)
  refine x_aload_n dX1_verticesIn_5 0 rfl ?_
  refine x_iload_n dX1_verticesIn_6 1 rfl ?_
  refine x_callV (K := jX1_firstOf) [.int (nI a)] lk_X1_101 ⟨⟨rfl, rfl⟩, Nat.le_of_ble_eq_true rfl, Nat.le_of_ble_eq_true rfl⟩ rfl rfl (mX1_firstOf hF hG h24 h15 a (by omega)) rfl (Nat.le_of_ble_eq_true rfl) rfl dX1_verticesIn_7 (kpI ?_)
  refine x_isub dX1_verticesIn_10 ?_
  refine x_iret dX1_verticesIn_11 rfl ?_
  rw [hQ]
  have h1 := hG.le d a hd
  have h2 := hG.bd hd
  exact ⟨rfl, by rw [nsub (a := fb (a + d)) (b := fb a) h1 rfl rfl]⟩
theorem GI.ge {S : FS} {fb : Nat → Nat} (h : GI S fb) : ∀ d j, j + d ≤ S.2.1 → fb j + d ≤ fb (j + d)
  | 0, j, _ => Nat.le_refl _
  | d + 1, j, hd => by
    have := GI.ge h d j (by omega)
    have := (h.2.2.2 (j + d) (by omega)).1
    rw [show j + (d + 1) = j + d + 1 by omega]
    omega
set_option maxHeartbeats 1000000 in
set_option maxRecDepth 100000 in
theorem mX1_segmentsIn {g : gX} {V : vM} {S : FS} {fb : Nat → Nat} (hF : FRC V S) (hG : GI S fb) (h24 : S.2.1 ≤ 24) (h15 : S.1 ≤ 1536) (a d : Nat) (hd : a + d ≤ S.2.1) : MM g jX1_segmentsIn V [.ref (g.2.1 6), .int (nI a), .int (nI (a + d))] (pI V (nI (fb (a + d) - fb a - d))) := by
  refine MM.of plX1_segmentsIn (Nat.le_of_ble_eq_true rfl) ?_
  obtain ⟨Q, hQ⟩ : ∃ Q : Option Value → vM → Prop, Q = (pI V (nI (fb (a + d) - fb a - d))) := ⟨_, rfl⟩
  rw [← hQ]
  show XX g jX1_segmentsIn Q V 0 [(0, .ref (g.2.1 6)), (1, .int (nI a)), (2, .int (nI (a + d)))] []
  refine x_aload_n dX1_segmentsIn_0 0 rfl ?_
  refine x_iload_n dX1_segmentsIn_1 1 rfl ?_
  refine x_iload_n dX1_segmentsIn_2 2 rfl ?_
  refine x_callV (K := jX1_verticesIn) [.int (nI a), .int (nI (a + d))] lk_X1_104 ⟨⟨rfl, rfl⟩, Nat.le_of_ble_eq_true rfl, Nat.le_of_ble_eq_true rfl⟩ rfl rfl (mX1_verticesIn hF hG h24 h15 a d hd) rfl (Nat.le_of_ble_eq_true rfl) rfl dX1_segmentsIn_3 (kpI ?_)
  refine x_iload_n dX1_segmentsIn_6 2 rfl ?_
  refine x_iload_n dX1_segmentsIn_7 1 rfl ?_
  refine x_isub dX1_segmentsIn_8 ?_
  refine x_isub dX1_segmentsIn_9 ?_
  refine x_iret dX1_segmentsIn_10 rfl ?_
  rw [hQ]
  have h1 := hG.ge d a hd
  have h2 := hG.bd hd
  exact ⟨rfl, by rw [nsub (a := a + d) (b := a) (by omega) rfl rfl, nsub (a := fb (a + d) - fb a) (b := a + d - a) (by omega) rfl rfl, Nat.add_sub_cancel_left]⟩
set_option maxHeartbeats 1000000 in
set_option maxRecDepth 100000 in
theorem mX1_hasSegments {g : gX} {V : vM} {S : FS} {fb : Nat → Nat} (hF : FRC V S) (hG : GI S fb) (h24 : S.2.1 ≤ 24) (h15 : S.1 ≤ 1536) (c : Nat) (hc : c < S.2.1) : MM g jX1_hasSegments V [.ref (g.2.1 6), .int (nI c)] (pI V (iB (1 < fb (c + 1) - fb c))) := by
  refine MM.of plX1_hasSegments (Nat.le_of_ble_eq_true rfl) ?_
  obtain ⟨Q, hQ⟩ : ∃ Q : Option Value → vM → Prop, Q = (pI V (iB (1 < fb (c + 1) - fb c))) := ⟨_, rfl⟩
  rw [← hQ]
  show XX g jX1_hasSegments Q V 0 [(0, .ref (g.2.1 6)), (1, .int (nI c))] []
  have hbd := hG.bd (j := c + 1) (by omega)
  refine x_aload_n dX1_hasSegments_0 0 rfl ?_
  refine x_iload_n dX1_hasSegments_1 1 rfl ?_
  refine x_callV (K := jX1_has) [.int (nI c)] lk_X1_110 ⟨⟨rfl, rfl⟩, Nat.le_of_ble_eq_true rfl, Nat.le_of_ble_eq_true rfl⟩ rfl rfl (mX1_has hF hG h24 h15 (nI c)) rfl (Nat.le_of_ble_eq_true rfl) rfl dX1_hasSegments_2 (kpI ?_)
  refine x_if_eq 23 dX1_hasSegments_5 (by decide) (fun c1 => by exfalso; exact absurd (iB_0.mp c1) (fun q => q ⟨nI_pos' (by omega), (nI_ltI (by omega) (by omega)).mpr hc⟩)) (fun c1 => ?_)
  refine x_aload_n dX1_hasSegments_8 0 rfl ?_
  refine x_iload_n dX1_hasSegments_9 1 rfl ?_
  refine x_iload_n dX1_hasSegments_10 1 rfl ?_
  refine x_iconst (v := 1) dX1_hasSegments_11 (by decide) ?_
  refine x_iadd dX1_hasSegments_12 ?_
  have q2 : ((nI c) + 1 : Int32) = nI (c + 1) := nadd (rfl) (rfl)
  refine YY.S (st' := [.int (nI (c + 1)), .int (nI c), .ref (g.2.1 6)]) (by rw [q2]) ?_
  refine x_callV (K := jX1_segmentsIn) [.int (nI c), .int (nI (c + 1))] lk_X1_114 ⟨⟨rfl, rfl⟩, Nat.le_of_ble_eq_true rfl, Nat.le_of_ble_eq_true rfl⟩ rfl rfl (mX1_segmentsIn hF hG h24 h15 c 1 (by omega)) rfl (Nat.le_of_ble_eq_true rfl) rfl dX1_hasSegments_13 (kpI ?_)
  refine x_if_le 23 dX1_hasSegments_16 (by decide) (fun c3 => ?_) (fun c3 => ?_)
  · have c3n : fb (c + 1) - fb c - 1 ≤ 0 := (nl_le (a := fb (c + 1) - fb c - 1) (b := 0) (rfl) (rfl) (by omega) (by omega)).mp c3
    refine x_iconst (v := 0) dX1_hasSegments_23 (by decide) ?_
    refine x_zret dX1_hasSegments_24 rfl (by exact nar01 (by first | exact Or.inl rfl | exact Or.inr rfl | grind)) ?_
    rw [hQ]
    refine ⟨rfl, ?_⟩
    congr 2
    unfold iB
    first | rw [if_pos (by omega)] | rw [if_neg (by omega)]
  · have c3n : 0 < fb (c + 1) - fb c - 1 := Nat.not_le.mp (fun q => c3 ((nl_le (a := fb (c + 1) - fb c - 1) (b := 0) (rfl) (rfl) (by omega) (by omega)).mpr q))
    refine x_iconst (v := 1) dX1_hasSegments_19 (by decide) ?_
    refine x_goto 24 dX1_hasSegments_20 (by decide) ?_
    refine x_zret dX1_hasSegments_24 rfl (by exact nar01 (by first | exact Or.inl rfl | exact Or.inr rfl | grind)) ?_
    rw [hQ]
    refine ⟨rfl, ?_⟩
    congr 2
    unfold iB
    first | rw [if_pos (by omega)] | rw [if_neg (by omega)]
set_option maxHeartbeats 1000000 in
set_option maxRecDepth 100000 in
theorem mX1_isClosed {g : gX} {V : vM} {S : FS} {fb : Nat → Nat} (hF : FRC V S) (hG : GI S fb) (h24 : S.2.1 ≤ 24) (h15 : S.1 ≤ 1536) (c : Nat) (hc : c < S.2.1) : MM g jX1_isClosed V [.ref (g.2.1 6), .int (nI c)] (pI V (iB (¬ S.2.2 6 c = 0))) := by
  refine MM.of plX1_isClosed (Nat.le_of_ble_eq_true rfl) ?_
  obtain ⟨Q, hQ⟩ : ∃ Q : Option Value → vM → Prop, Q = (pI V (iB (¬ S.2.2 6 c = 0))) := ⟨_, rfl⟩
  rw [← hQ]
  show XX g jX1_isClosed Q V 0 [(0, .ref (g.2.1 6)), (1, .int (nI c))] []
  refine x_aload_n dX1_isClosed_0 0 rfl ?_
  refine x_iload_n dX1_isClosed_1 1 rfl ?_
  refine x_callV (K := jX1_has) [.int (nI c)] lk_X1_110 ⟨⟨rfl, rfl⟩, Nat.le_of_ble_eq_true rfl, Nat.le_of_ble_eq_true rfl⟩ rfl rfl (mX1_has hF hG h24 h15 (nI c)) rfl (Nat.le_of_ble_eq_true rfl) rfl dX1_isClosed_2 (kpI ?_)
  refine x_if_eq 21 dX1_isClosed_5 (by decide) (fun c1 => by exfalso; exact absurd (iB_0.mp c1) (fun q => q ⟨nI_pos' (by omega), (nI_ltI (by omega) (by omega)).mpr hc⟩)) (fun c1 => ?_)
  refine x_aload_n dX1_isClosed_8 0 rfl ?_
  refine x_getR fl_X1_27 rfl rfl dX1_isClosed_9 ?_
  refine x_iload_n dX1_isClosed_12 1 rfl ?_
  have b2 : vp_in (nI c) 24 := by exact vp_in_nI (by omega) (by decide)
  refine x_zald rfl b2 dX1_isClosed_13 ?_
  refine x_topi (y := V 25 c) (by rw [nI_clamp (by omega)]) ?_
  refine x_if_eq 21 dX1_isClosed_14 (by decide) (fun c3 => ?_) (fun c3 => ?_)
  · refine x_iconst (v := 0) dX1_isClosed_21 (by decide) ?_
    refine x_zret dX1_isClosed_22 rfl (by exact nar01 (by first | exact Or.inl rfl | exact Or.inr rfl | grind)) ?_
    rw [hQ]
    refine ⟨rfl, ?_⟩
    have e := hF.2.2.2.2 c hc
    congr 2
    unfold iB
    first | rw [if_pos (by grind)] | rw [if_neg (by grind)]
  · refine x_iconst (v := 1) dX1_isClosed_17 (by decide) ?_
    refine x_goto 22 dX1_isClosed_18 (by decide) ?_
    refine x_zret dX1_isClosed_22 rfl (by exact nar01 (by first | exact Or.inl rfl | exact Or.inr rfl | grind)) ?_
    rw [hQ]
    refine ⟨rfl, ?_⟩
    have e := hF.2.2.2.2 c hc
    congr 2
    unfold iB
    first | rw [if_pos (by grind)] | rw [if_neg (by grind)]
set_option maxHeartbeats 1000000 in
set_option maxRecDepth 100000 in
theorem mX1_isVertex {g : gX} {V : vM} {S : FS} {fb : Nat → Nat} (hF : FRC V S) (hG : GI S fb) (h24 : S.2.1 ≤ 24) (h15 : S.1 ≤ 1536) (v : Nat) (hv : v < S.1) : MM g jX1_isVertex V [.ref (g.2.1 6), .int (nI v)] (pI V 1) := by
  refine MM.of plX1_isVertex (Nat.le_of_ble_eq_true rfl) ?_
  obtain ⟨Q, hQ⟩ : ∃ Q : Option Value → vM → Prop, Q = (pI V 1) := ⟨_, rfl⟩
  rw [← hQ]
  show XX g jX1_isVertex Q V 0 [(0, .ref (g.2.1 6)), (1, .int (nI v))] []
  refine x_iload_n dX1_isVertex_0 1 rfl ?_
  refine x_if_lt 16 dX1_isVertex_1 (by decide) (fun c1 => by exfalso; exact absurd c1 (nI_pos (by omega))) (fun c1 => ?_)
  refine x_iload_n dX1_isVertex_4 1 rfl ?_
  refine x_aload_n dX1_isVertex_5 0 rfl ?_
  refine x_getI fl_X1_38 rfl rfl dX1_isVertex_6 ?_
  refine x_topi (hF.1) ?_
  refine x_icmp_ge 16 dX1_isVertex_9 (by decide) (fun c2 => by exfalso; exact absurd ((nl_le (a := S.1) (b := v) rfl rfl (by omega) (by omega)).mp c2) (by omega)) (fun c2 => ?_)
  refine x_iconst (v := 1) dX1_isVertex_12 (by decide) ?_
  refine x_goto 17 dX1_isVertex_13 (by decide) ?_
  refine x_zret dX1_isVertex_17 rfl (by exact nar01 (by first | exact Or.inl rfl | exact Or.inr rfl | grind)) ?_
  rw [hQ]
  exact ⟨rfl, rfl⟩
set_option maxHeartbeats 1000000 in
set_option maxRecDepth 100000 in
theorem mX1_lengthOf {g : gX} {V : vM} {S : FS} {fb : Nat → Nat} (hF : FRC V S) (hG : GI S fb) (h24 : S.2.1 ≤ 24) (h15 : S.1 ≤ 1536) (c : Nat) (hc : c < S.2.1) : MM g jX1_lengthOf V [.ref (g.2.1 6), .int (nI c)] (pI V (S.2.2 2 (fb (c + 1) - 1))) := by
  refine MM.of plX1_lengthOf (Nat.le_of_ble_eq_true rfl) ?_
  obtain ⟨Q, hQ⟩ : ∃ Q : Option Value → vM → Prop, Q = (pI V (S.2.2 2 (fb (c + 1) - 1))) := ⟨_, rfl⟩
  rw [← hQ]
  show XX g jX1_lengthOf Q V 0 [(0, .ref (g.2.1 6)), (1, .int (nI c))] []
  have hbd := hG.bd (j := c + 1) (by omega)
  have hlt := (hG.2.2.2 c hc).1
  refine x_aload_n dX1_lengthOf_0 0 rfl ?_
  refine x_iload_n dX1_lengthOf_1 1 rfl ?_
  refine x_iconst (v := 1) dX1_lengthOf_2 (by decide) ?_
  refine x_iadd dX1_lengthOf_3 ?_
  have q1 : ((nI c) + 1 : Int32) = nI (c + 1) := nadd (rfl) (rfl)
  refine YY.S (st' := [.int (nI (c + 1)), .ref (g.2.1 6)]) (by rw [q1]) ?_
  refine x_callV (K := jX1_firstOf) [.int (nI (c + 1))] lk_X1_101 ⟨⟨rfl, rfl⟩, Nat.le_of_ble_eq_true rfl, Nat.le_of_ble_eq_true rfl⟩ rfl rfl (mX1_firstOf hF hG h24 h15 (c + 1) (by omega)) rfl (Nat.le_of_ble_eq_true rfl) rfl dX1_lengthOf_4 (kpI ?_)
  refine x_iconst (v := 1) dX1_lengthOf_7 (by decide) ?_
  refine x_isub dX1_lengthOf_8 ?_
  refine x_istore_n 2 [(2, .int ((nI (fb (c + 1))) - 1)), (0, .ref (g.2.1 6)), (1, .int (nI c))] dX1_lengthOf_9 rfl (by decide) rfl ?_
  refine x_aload_n dX1_lengthOf_10 1 rfl ?_
  refine x_iload_n dX1_lengthOf_11 2 rfl ?_
  refine x_callV (K := jX1_has) [.int (nI c)] lk_X1_110 ⟨⟨rfl, rfl⟩, Nat.le_of_ble_eq_true rfl, Nat.le_of_ble_eq_true rfl⟩ rfl rfl (mX1_has hF hG h24 h15 (nI c)) rfl (Nat.le_of_ble_eq_true rfl) rfl dX1_lengthOf_12 (kpI ?_)
  refine x_if_eq 35 dX1_lengthOf_15 (by decide) (fun c2 => by exfalso; exact absurd (iB_0.mp c2) (fun q => q ⟨nI_pos' (by omega), (nI_ltI (by omega) (by omega)).mpr hc⟩)) (fun c2 => ?_)
  refine x_aload_n dX1_lengthOf_18 1 rfl ?_
  refine x_iload_n dX1_lengthOf_19 0 rfl ?_
  have q3 : ((nI (fb (c + 1))) - 1 : Int32) = nI ((fb (c + 1)) - 1) := nsub (by omega) (rfl) (rfl)
  refine YY.S (st' := [.int (nI ((fb (c + 1)) - 1)), .ref (g.2.1 6)]) (by rw [q3]) ?_
  refine x_callV (K := jX1_isVertex) [.int (nI ((fb (c + 1)) - 1))] lk_X1_117 ⟨⟨rfl, rfl⟩, Nat.le_of_ble_eq_true rfl, Nat.le_of_ble_eq_true rfl⟩ rfl rfl (mX1_isVertex hF hG h24 h15 ((fb (c + 1)) - 1) (by omega)) rfl (Nat.le_of_ble_eq_true rfl) rfl dX1_lengthOf_20 (kpI ?_)
  refine x_if_eq 35 dX1_lengthOf_23 (by decide) (fun c4 => by exfalso; revert c4; decide) (fun c4 => ?_)
  refine x_aload_n dX1_lengthOf_26 1 rfl ?_
  refine x_getR fl_X1_18 rfl rfl dX1_lengthOf_27 ?_
  refine x_iload_n dX1_lengthOf_30 0 rfl ?_
  have q5 : ((nI (fb (c + 1))) - 1 : Int32) = nI ((fb (c + 1)) - 1) := nsub (by omega) (rfl) (rfl)
  refine YY.S (st' := [.int (nI ((fb (c + 1)) - 1)), .ref (g.2.1 22)]) (by rw [q5]) ?_
  have b6 : vp_in (nI ((fb (c + 1)) - 1)) 1536 := by exact vp_in_nI (by omega) (by decide)
  refine x_iald rfl b6 dX1_lengthOf_31 ?_
  refine x_topi (y := V 22 ((fb (c + 1)) - 1)) (by rw [nI_clamp (by omega)]) ?_
  refine x_goto 36 dX1_lengthOf_32 (by decide) ?_
  refine x_iret dX1_lengthOf_36 rfl ?_
  rw [hQ]
  exact ⟨rfl, by rw [(hF.2.2.1 (fb (c + 1) - 1) (by omega)).2.2.1]⟩
/-- the sum of the lengths of the contours from a on -/
def lenC (S : FS) (fb : Nat → Nat) (a : Nat) : Nat → Int32
  | 0 => 0
  | d + 1 => lenC S fb a d + S.2.2 2 (fb (a + d + 1) - 1)
set_option maxHeartbeats 1000000 in
set_option maxRecDepth 100000 in
theorem mX1_lengthIn {g : gX} {V : vM} {S : FS} {fb : Nat → Nat} (hF : FRC V S) (hG : GI S fb) (h24 : S.2.1 ≤ 24) (h15 : S.1 ≤ 1536) (a d : Nat) (hd : a + d ≤ S.2.1) : MM g jX1_lengthIn V [.ref (g.2.1 6), .int (nI a), .int (nI (a + d))] (pI V (lenC S fb a d)) := by
  refine MM.of plX1_lengthIn (Nat.le_of_ble_eq_true rfl) ?_
  obtain ⟨Q, hQ⟩ : ∃ Q : Option Value → vM → Prop, Q = (pI V (lenC S fb a d)) := ⟨_, rfl⟩
  rw [← hQ]
  show XX g jX1_lengthIn Q V 0 [(0, .ref (g.2.1 6)), (1, .int (nI a)), (2, .int (nI (a + d)))] []
  refine x_iconst (v := 0) dX1_lengthIn_0 (by decide) ?_
  refine x_istore_n 3 [(3, .int 0), (0, .ref (g.2.1 6)), (1, .int (nI a)), (2, .int (nI (a + d)))] dX1_lengthIn_1 rfl (by decide) rfl ?_
  refine x_iload_n dX1_lengthIn_2 2 rfl ?_
  refine x_istore 4 [(4, .int (nI a)), (3, .int 0), (0, .ref (g.2.1 6)), (1, .int (nI a)), (2, .int (nI (a + d)))] dX1_lengthIn_3 (by decide) rfl ?_
  have lp1 : ∀ (fu : Nat) (j : Nat), (j ≤ d) → (d - j) < fu → XX g jX1_lengthIn Q V 5 [(4, .int (nI (a + j))), (3, .int (lenC S fb a j)), (0, .ref (g.2.1 6)), (1, .int (nI a)), (2, .int (nI (a + d)))] [] := by
    intro fu
    induction fu with
    | zero => intro _ _ hmz; exact absurd hmz (Nat.not_lt_zero _)
    | succ fu ih =>
      intro j hj hmz
      refine x_iload dX1_lengthIn_5 0 rfl ?_
      refine x_iload_n dX1_lengthIn_7 4 rfl ?_
      refine x_icmp_ge 26 dX1_lengthIn_8 (by decide) (fun c2 => ?_) (fun c2 => ?_)
      · have c2n : a + d ≤ a + j := (nl_le (a := a + d) (b := a + j) (rfl) (rfl) (by omega) (by omega)).mp c2
        refine x_iload_n dX1_lengthIn_26 1 rfl ?_
        refine x_iret dX1_lengthIn_27 rfl ?_
        rw [hQ]
        refine ⟨rfl, ?_⟩
        rw [show j = d by omega]
      · have c2n : a + j < a + d := Nat.not_le.mp (fun q => c2 ((nl_le (a := a + d) (b := a + j) (rfl) (rfl) (by omega) (by omega)).mpr q))
        refine x_iload_n dX1_lengthIn_11 1 rfl ?_
        refine x_aload_n dX1_lengthIn_12 2 rfl ?_
        refine x_iload dX1_lengthIn_13 0 rfl ?_
        refine x_callV (K := jX1_lengthOf) [.int (nI (a + j))] lk_X1_107 ⟨⟨rfl, rfl⟩, Nat.le_of_ble_eq_true rfl, Nat.le_of_ble_eq_true rfl⟩ rfl rfl (mX1_lengthOf hF hG h24 h15 (a + j) (by omega)) rfl (Nat.le_of_ble_eq_true rfl) rfl dX1_lengthIn_15 (kpI ?_)
        refine x_iadd dX1_lengthIn_18 ?_
        refine x_istore_n 3 [(3, .int ((lenC S fb a j) + (S.2.2 2 (fb ((a + j) + 1) - 1)))), (4, .int (nI (a + j))), (0, .ref (g.2.1 6)), (1, .int (nI a)), (2, .int (nI (a + d)))] dX1_lengthIn_19 rfl (by decide) rfl ?_
        refine x_iinc 4 (v := (nI (a + j)) + 1) 1 [(4, .int ((nI (a + j)) + 1)), (3, .int ((lenC S fb a j) + (S.2.2 2 (fb ((a + j) + 1) - 1)))), (0, .ref (g.2.1 6)), (1, .int (nI a)), (2, .int (nI (a + d)))] dX1_lengthIn_20 rfl (by rfl) (by decide) rfl ?_
        refine x_goto 5 dX1_lengthIn_23 (by decide) ?_
        refine YY.L (lv' := [(4, .int (nI (a + (j + 1)))), (3, .int (lenC S fb a (j + 1))), (0, .ref (g.2.1 6)), (1, .int (nI a)), (2, .int (nI (a + d)))]) (by simp only [nI_1]; rfl) ?_
        exact ih (j + 1) (by omega) (by omega)
  refine YY.L (lv' := [(4, .int (nI (a + 0))), (3, .int (lenC S fb a 0)), (0, .ref (g.2.1 6)), (1, .int (nI a)), (2, .int (nI (a + d)))]) (by rfl) ?_
  exact lp1 _ 0 (by omega) (Nat.lt_succ_self _)
def verN (S : FS) (v : Nat) (what : Int32) : Int32 := if what = 0 then S.2.2 0 v else if what = 1 then S.2.2 1 v else if what = 2 then S.2.2 2 v else -1000002
set_option maxHeartbeats 1000000 in
set_option maxRecDepth 100000 in
theorem mX1_vertexNumber {g : gX} {V : vM} {S : FS} {fb : Nat → Nat} (hF : FRC V S) (hG : GI S fb) (h24 : S.2.1 ≤ 24) (h15 : S.1 ≤ 1536) (v : Nat) (hv : v < S.1) (what : Int32) : MM g jX1_vertexNumber V [.ref (g.2.1 6), .int (nI v), .int what] (pI V (verN S v what)) := by
  refine MM.of plX1_vertexNumber (Nat.le_of_ble_eq_true rfl) ?_
  obtain ⟨Q, hQ⟩ : ∃ Q : Option Value → vM → Prop, Q = (pI V (verN S v what)) := ⟨_, rfl⟩
  rw [← hQ]
  show XX g jX1_vertexNumber Q V 0 [(0, .ref (g.2.1 6)), (1, .int (nI v)), (2, .int what)] []
  refine x_aload_n dX1_vertexNumber_0 0 rfl ?_
  refine x_iload_n dX1_vertexNumber_1 1 rfl ?_
  refine x_callV (K := jX1_isVertex) [.int (nI v)] lk_X1_117 ⟨⟨rfl, rfl⟩, Nat.le_of_ble_eq_true rfl, Nat.le_of_ble_eq_true rfl⟩ rfl rfl (mX1_isVertex hF hG h24 h15 v (by omega)) rfl (Nat.le_of_ble_eq_true rfl) rfl dX1_vertexNumber_2 (kpI ?_)
  refine x_if_ne 11 dX1_vertexNumber_5 (by decide) (fun c1 => ?_) (fun c1 => by exfalso; revert c1; decide)
  refine x_iload_n dX1_vertexNumber_11 2 rfl ?_
  by_cases c2 : what = 0
  · refine x_tableIn 40 dX1_vertexNumber_12 (by rw [c2]; decide) (by rw [c2]; decide) (by rw [c2]; rfl) (by decide) ?_
    refine x_aload_n dX1_vertexNumber_40 0 rfl ?_
    refine x_getR fl_X1_9 rfl rfl dX1_vertexNumber_41 ?_
    refine x_iload_n dX1_vertexNumber_44 1 rfl ?_
    have b3 : vp_in (nI v) 1536 := by exact vp_in_nI (by omega) (by decide)
    refine x_iald rfl b3 dX1_vertexNumber_45 ?_
    refine x_topi (y := V 20 v) (by rw [nI_clamp (by omega)]) ?_
    refine x_iret dX1_vertexNumber_46 rfl ?_
    rw [hQ]
    refine ⟨rfl, ?_⟩
    obtain ⟨e1, e2, e3, -⟩ := hF.2.2.1 v hv
    unfold verN
    first | (rw [if_pos (by assumption), e1]) | (rw [if_neg (by assumption), if_pos (by assumption), e2]) | (rw [if_neg (by assumption), if_neg (by assumption), if_pos (by assumption), e3]) | rw [if_neg (by assumption), if_neg (by assumption), if_neg (by assumption)]
  by_cases c4 : what = 1
  · refine x_tableIn 47 dX1_vertexNumber_12 (by rw [c4]; decide) (by rw [c4]; decide) (by rw [c4]; rfl) (by decide) ?_
    refine x_aload_n dX1_vertexNumber_47 0 rfl ?_
    refine x_getR fl_X1_15 rfl rfl dX1_vertexNumber_48 ?_
    refine x_iload_n dX1_vertexNumber_51 1 rfl ?_
    have b5 : vp_in (nI v) 1536 := by exact vp_in_nI (by omega) (by decide)
    refine x_iald rfl b5 dX1_vertexNumber_52 ?_
    refine x_topi (y := V 21 v) (by rw [nI_clamp (by omega)]) ?_
    refine x_iret dX1_vertexNumber_53 rfl ?_
    rw [hQ]
    refine ⟨rfl, ?_⟩
    obtain ⟨e1, e2, e3, -⟩ := hF.2.2.1 v hv
    unfold verN
    first | (rw [if_pos (by assumption), e1]) | (rw [if_neg (by assumption), if_pos (by assumption), e2]) | (rw [if_neg (by assumption), if_neg (by assumption), if_pos (by assumption), e3]) | rw [if_neg (by assumption), if_neg (by assumption), if_neg (by assumption)]
  by_cases c6 : what = 2
  · refine x_tableIn 54 dX1_vertexNumber_12 (by rw [c6]; decide) (by rw [c6]; decide) (by rw [c6]; rfl) (by decide) ?_
    refine x_aload_n dX1_vertexNumber_54 0 rfl ?_
    refine x_getR fl_X1_18 rfl rfl dX1_vertexNumber_55 ?_
    refine x_iload_n dX1_vertexNumber_58 1 rfl ?_
    have b7 : vp_in (nI v) 1536 := by exact vp_in_nI (by omega) (by decide)
    refine x_iald rfl b7 dX1_vertexNumber_59 ?_
    refine x_topi (y := V 22 v) (by rw [nI_clamp (by omega)]) ?_
    refine x_iret dX1_vertexNumber_60 rfl ?_
    rw [hQ]
    refine ⟨rfl, ?_⟩
    obtain ⟨e1, e2, e3, -⟩ := hF.2.2.1 v hv
    unfold verN
    first | (rw [if_pos (by assumption), e1]) | (rw [if_neg (by assumption), if_pos (by assumption), e2]) | (rw [if_neg (by assumption), if_neg (by assumption), if_pos (by assumption), e3]) | rw [if_neg (by assumption), if_neg (by assumption), if_neg (by assumption)]
  refine x_tableOut 61 dX1_vertexNumber_12 (by have q0 : ¬ what.toInt = 0 := fun q => c2 (Int32.toInt_inj.mp (q.trans (by decide))); have q1 : ¬ what.toInt = 1 := fun q => c4 (Int32.toInt_inj.mp (q.trans (by decide))); have q2 : ¬ what.toInt = 2 := fun q => c6 (Int32.toInt_inj.mp (q.trans (by decide))); omega) (by decide) ?_
  refine x_ldc ct_X1_121 dX1_vertexNumber_61 ?_
  refine x_iret dX1_vertexNumber_63 rfl ?_
  rw [hQ]
  refine ⟨rfl, ?_⟩
  obtain ⟨e1, e2, e3, -⟩ := hF.2.2.1 v hv
  unfold verN
  first | (rw [if_pos (by assumption), e1]) | (rw [if_neg (by assumption), if_pos (by assumption), e2]) | (rw [if_neg (by assumption), if_neg (by assumption), if_pos (by assumption), e3]) | rw [if_neg (by assumption), if_neg (by assumption), if_neg (by assumption)]
theorem GL.d0 {S : FS} {k : Nat} (h : GL S k) {i : Nat} (hi : i < S.1) : ∃ n, S.2.2 2 i = nI n ∧ n ≤ 181020 * i := (h.1 i hi).1
theorem lsum_1 {d mk : Nat → Int32} {c n : Nat} (h : 0 < n → d 0 = 0) : lsum d mk c (min 1 n) = 0 := by
  rcases Nat.eq_zero_or_pos n with q | q
  · rw [q]; rfl
  · rw [Nat.min_eq_left (by omega)]
    unfold lsum
    rw [h q, if_neg (fun z => absurd z.2 (by decide))]
    rfl
theorem lsum_skip {d mk : Nat → Int32} {c j n : Nat} (hj : j < n) (h : ¬ (mk j = nI c ∧ 0 < d j)) : lsum d mk c (min j n) = lsum d mk c (min (j + 1) n) := by
  rw [Nat.min_eq_left (by omega), Nat.min_eq_left (by omega), lsum, if_neg h]
  exact (Int32.add_zero _).symm
theorem lsum_take {d mk : Nat → Int32} {c j n : Nat} (hj : j < n) (h : mk j = nI c ∧ 0 < d j) : lsum d mk c (min j n) + (d j - d (j - 1)) = lsum d mk c (min (j + 1) n) := by
  rw [Nat.min_eq_left (by omega), Nat.min_eq_left (by omega), lsum, if_pos h]
set_option maxHeartbeats 1000000 in
set_option maxRecDepth 100000 in
theorem mX1_lengthMadeBy {g : gX} {V : vM} {S : FS} {fb : Nat → Nat} (hF : FRC V S) (hG : GI S fb) (h24 : S.2.1 ≤ 24) (h15 : S.1 ≤ 1536) (cn : Nat) : MM g jX1_lengthMadeBy V [.ref (g.2.1 6), .int (nI cn)] (pI V (lsum (S.2.2 2) (S.2.2 3) cn S.1)) := by
  refine MM.of plX1_lengthMadeBy (Nat.le_of_ble_eq_true rfl) ?_
  obtain ⟨Q, hQ⟩ : ∃ Q : Option Value → vM → Prop, Q = (pI V (lsum (S.2.2 2) (S.2.2 3) cn S.1)) := ⟨_, rfl⟩
  rw [← hQ]
  show XX g jX1_lengthMadeBy Q V 0 [(0, .ref (g.2.1 6)), (1, .int (nI cn))] []
  have hs0 : 0 < S.1 → S.2.2 2 0 = 0 := fun q => by
    have h0 : 0 < S.2.1 := by
      rcases Nat.eq_zero_or_pos S.2.1 with z | z
      · have := hG.2.1; rw [z, hG.1] at this; omega
      · exact z
    have := (hG.2.2.2 0 h0).2.1
    rw [hG.1] at this
    exact this
  refine x_iconst (v := 0) dX1_lengthMadeBy_0 (by decide) ?_
  refine x_istore_n 2 [(2, .int 0), (0, .ref (g.2.1 6)), (1, .int (nI cn))] dX1_lengthMadeBy_1 rfl (by decide) rfl ?_
  refine x_iconst (v := 1) dX1_lengthMadeBy_2 (by decide) ?_
  refine x_istore_n 3 [(3, .int 1), (2, .int 0), (0, .ref (g.2.1 6)), (1, .int (nI cn))] dX1_lengthMadeBy_3 rfl (by decide) rfl ?_
  have lp1 : ∀ (fu : Nat) (j : Nat), (1 ≤ j) → (j ≤ S.1 + 1) → (S.1 + 1 - j) < fu → XX g jX1_lengthMadeBy Q V 4 [(3, .int (nI j)), (2, .int (lsum (S.2.2 2) (S.2.2 3) cn (min j S.1))), (0, .ref (g.2.1 6)), (1, .int (nI cn))] [] := by
    intro fu
    induction fu with
    | zero => intro _ _ _ hmz; exact absurd hmz (Nat.not_lt_zero _)
    | succ fu ih =>
      intro j hj hj2 hmz
      refine x_iload_n dX1_lengthMadeBy_4 0 rfl ?_
      refine x_aload_n dX1_lengthMadeBy_5 2 rfl ?_
      refine x_getI fl_X1_38 rfl rfl dX1_lengthMadeBy_6 ?_
      refine x_topi (hF.1) ?_
      refine x_icmp_ge 55 dX1_lengthMadeBy_9 (by decide) (fun c2 => ?_) (fun c2 => ?_)
      · have c2n : S.1 ≤ j := (nl_le (a := S.1) (b := j) (rfl) (rfl) (by omega) (by omega)).mp c2
        refine x_iload_n dX1_lengthMadeBy_55 1 rfl ?_
        refine x_iret dX1_lengthMadeBy_56 rfl ?_
        rw [hQ]
        refine ⟨rfl, ?_⟩
        rw [Nat.min_eq_right (by omega)]
      · have c2n : j < S.1 := Nat.not_le.mp (fun q => c2 ((nl_le (a := S.1) (b := j) (rfl) (rfl) (by omega) (by omega)).mpr q))
        refine x_aload_n dX1_lengthMadeBy_12 2 rfl ?_
        refine x_getR fl_X1_21 rfl rfl dX1_lengthMadeBy_13 ?_
        refine x_iload_n dX1_lengthMadeBy_16 0 rfl ?_
        have b3 : vp_in (nI j) 1536 := by exact vp_in_nI (by omega) (by decide)
        refine x_iald rfl b3 dX1_lengthMadeBy_17 ?_
        refine x_topi (y := V 23 j) (by rw [nI_clamp (by omega)]) ?_
        refine x_topi ((hF.2.2.1 j (by omega)).2.2.2) ?_
        refine x_iload_n dX1_lengthMadeBy_18 3 rfl ?_
        refine x_icmp_ne 49 dX1_lengthMadeBy_19 (by decide) (fun c4 => ?_) (fun c4 => ?_)
        · refine x_iinc 3 (v := (nI j) + 1) 0 [(3, .int ((nI j) + 1)), (2, .int (lsum (S.2.2 2) (S.2.2 3) cn (min j S.1))), (0, .ref (g.2.1 6)), (1, .int (nI cn))] dX1_lengthMadeBy_49 rfl (by rfl) (by decide) rfl ?_
          refine x_goto 4 dX1_lengthMadeBy_52 (by decide) ?_
          refine YY.L (lv' := [(3, .int (nI (j + 1))), (2, .int (lsum (S.2.2 2) (S.2.2 3) cn (min (j + 1) S.1))), (0, .ref (g.2.1 6)), (1, .int (nI cn))]) (by first | rw [lsum_take (by omega) ⟨by assumption, Int32.not_le.mp (by assumption)⟩, nI_1] | rw [lsum_skip (by omega) (fun q => absurd q.1 (by assumption)), nI_1] | rw [lsum_skip (by omega) (fun q => absurd q.2 (Int32.not_lt.mpr (by assumption))), nI_1]) ?_
          exact ih (j + 1) (by omega) (by omega) (by omega)
        · refine x_aload_n dX1_lengthMadeBy_22 2 rfl ?_
          refine x_getR fl_X1_18 rfl rfl dX1_lengthMadeBy_23 ?_
          refine x_iload_n dX1_lengthMadeBy_26 0 rfl ?_
          have b5 : vp_in (nI j) 1536 := by exact vp_in_nI (by omega) (by decide)
          refine x_iald rfl b5 dX1_lengthMadeBy_27 ?_
          refine x_topi (y := V 22 j) (by rw [nI_clamp (by omega)]) ?_
          refine x_topi ((hF.2.2.1 j (by omega)).2.2.1) ?_
          refine x_if_le 49 dX1_lengthMadeBy_28 (by decide) (fun c6 => ?_) (fun c6 => ?_)
          · refine x_iinc 3 (v := (nI j) + 1) 0 [(3, .int ((nI j) + 1)), (2, .int (lsum (S.2.2 2) (S.2.2 3) cn (min j S.1))), (0, .ref (g.2.1 6)), (1, .int (nI cn))] dX1_lengthMadeBy_49 rfl (by rfl) (by decide) rfl ?_
            refine x_goto 4 dX1_lengthMadeBy_52 (by decide) ?_
            refine YY.L (lv' := [(3, .int (nI (j + 1))), (2, .int (lsum (S.2.2 2) (S.2.2 3) cn (min (j + 1) S.1))), (0, .ref (g.2.1 6)), (1, .int (nI cn))]) (by first | rw [lsum_take (by omega) ⟨by assumption, Int32.not_le.mp (by assumption)⟩, nI_1] | rw [lsum_skip (by omega) (fun q => absurd q.1 (by assumption)), nI_1] | rw [lsum_skip (by omega) (fun q => absurd q.2 (Int32.not_lt.mpr (by assumption))), nI_1]) ?_
            exact ih (j + 1) (by omega) (by omega) (by omega)
          · refine x_iload_n dX1_lengthMadeBy_31 1 rfl ?_
            refine x_aload_n dX1_lengthMadeBy_32 2 rfl ?_
            refine x_getR fl_X1_18 rfl rfl dX1_lengthMadeBy_33 ?_
            refine x_iload_n dX1_lengthMadeBy_36 0 rfl ?_
            have b7 : vp_in (nI j) 1536 := by exact vp_in_nI (by omega) (by decide)
            refine x_iald rfl b7 dX1_lengthMadeBy_37 ?_
            refine x_topi (y := V 22 j) (by rw [nI_clamp (by omega)]) ?_
            refine x_topi ((hF.2.2.1 j (by omega)).2.2.1) ?_
            refine x_aload_n dX1_lengthMadeBy_38 2 rfl ?_
            refine x_getR fl_X1_18 rfl rfl dX1_lengthMadeBy_39 ?_
            refine x_iload_n dX1_lengthMadeBy_42 0 rfl ?_
            refine x_iconst (v := 1) dX1_lengthMadeBy_43 (by decide) ?_
            refine x_isub dX1_lengthMadeBy_44 ?_
            have q8 : ((nI j) - 1 : Int32) = nI (j - 1) := nsub (by omega) (rfl) (rfl)
            refine YY.S (st' := [.int (nI (j - 1)), .ref (g.2.1 22), .int (S.2.2 2 j), .int (lsum (S.2.2 2) (S.2.2 3) cn (min j S.1))]) (by rw [q8]) ?_
            have b9 : vp_in (nI (j - 1)) 1536 := by exact vp_in_nI (by omega) (by decide)
            refine x_iald rfl b9 dX1_lengthMadeBy_45 ?_
            refine x_topi (y := V 22 (j - 1)) (by rw [nI_clamp (by omega)]) ?_
            refine x_topi ((hF.2.2.1 (j - 1) (by omega)).2.2.1) ?_
            refine x_isub dX1_lengthMadeBy_46 ?_
            refine x_iadd dX1_lengthMadeBy_47 ?_
            refine x_istore_n 2 [(2, .int ((lsum (S.2.2 2) (S.2.2 3) cn (min j S.1)) + ((S.2.2 2 j) - (S.2.2 2 (j - 1))))), (3, .int (nI j)), (0, .ref (g.2.1 6)), (1, .int (nI cn))] dX1_lengthMadeBy_48 rfl (by decide) rfl ?_
            refine x_iinc 3 (v := (nI j) + 1) 1 [(3, .int ((nI j) + 1)), (2, .int ((lsum (S.2.2 2) (S.2.2 3) cn (min j S.1)) + ((S.2.2 2 j) - (S.2.2 2 (j - 1))))), (0, .ref (g.2.1 6)), (1, .int (nI cn))] dX1_lengthMadeBy_49 rfl (by rfl) (by decide) rfl ?_
            refine x_goto 4 dX1_lengthMadeBy_52 (by decide) ?_
            refine YY.L (lv' := [(3, .int (nI (j + 1))), (2, .int (lsum (S.2.2 2) (S.2.2 3) cn (min (j + 1) S.1))), (0, .ref (g.2.1 6)), (1, .int (nI cn))]) (by first | rw [lsum_take (by omega) ⟨by assumption, Int32.not_le.mp (by assumption)⟩, nI_1] | rw [lsum_skip (by omega) (fun q => absurd q.1 (by assumption)), nI_1] | rw [lsum_skip (by omega) (fun q => absurd q.2 (Int32.not_lt.mpr (by assumption))), nI_1]) ?_
            exact ih (j + 1) (by omega) (by omega) (by omega)
  refine YY.L (lv' := [(3, .int (nI 1)), (2, .int (lsum (S.2.2 2) (S.2.2 3) cn (min 1 S.1))), (0, .ref (g.2.1 6)), (1, .int (nI cn))]) (by rw [lsum_1 hs0]; rfl) ?_
  exact lp1 _ 1 (by omega) (by omega) (Nat.lt_succ_self _)
