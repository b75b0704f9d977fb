theorem FRM.bo {V : vM} {S : FS} {fb : Nat → Nat} {kc : Nat} (hF : FRM V S kc) (hE : V 65 S.2.1 = nI S.1) (hG : GI S fb) {j : Nat} (hj : j ≤ S.2.1) : V 65 j = nI (fb j) := by
  by_cases q : j = S.2.1
  · subst q; rw [hE, hG.2.1]
  · rw [hF.2.2.2.1 j (by omega), hG.2.2.1 j hj]
theorem foL_ge (K : Nat → Int32) (N : Nat) (c : Int32) : ∀ r i mv, i + r = N → i ≤ foL K N c r i mv
  | 0, i, mv, h => by unfold foL; omega
  | r + 1, i, mv, h => by
    unfold foL
    split
    · split
      · omega
      · have := foL_ge K N c r (i + 1) (mv + 1) (by omega); omega
    · have := foL_ge K N c r (i + 1) mv (by omega); omega
theorem fo_pos {K : Nat → Int32} {N : Nat} (h0 : K 0 = 0) (hN : 0 < N) {c : Nat} (hc : c + 1 < 2 ^ 31) : 0 < fo K N (nI (c + 1)) := by
  obtain ⟨n, rfl⟩ : ∃ n, N = n + 1 := ⟨N - 1, by omega⟩
  unfold fo foL
  rw [if_pos h0, if_neg (nI_ne (by omega) hc (by omega))]
  exact foL_ge K (n + 1) _ n 1 1 (by omega)
theorem foL_cong {K K2 : Nat → Int32} {N : Nat} (c : Int32) (h : ∀ i, i < N → K i = K2 i) : ∀ r i mv, i + r = N → foL K N c r i mv = foL K2 N c r i mv
  | 0, i, mv, _ => rfl
  | r + 1, i, mv, hi => by
    unfold foL
    rw [h i (by omega), foL_cong c h r (i + 1) (mv + 1) (by omega), foL_cong c h r (i + 1) mv (by omega)]
theorem fo_cong {K K2 : Nat → Int32} {N : Nat} (c : Int32) (h : ∀ i, i < N → K i = K2 i) : fo K N c = fo K2 N c := foL_cong c h N 0 0 (by omega)
/-- whether the contour c of the N commands of m is closed -/
abbrev clZ (m : Nat → Int32) (N c : Nat) : Prop := m ((fo (kd7 m) N (nI (c + 1)) - 1) * 7) = 4
theorem WF.fo {m : Nat → Int32} {N : Nat} (hw : WF m N) (h0 : 0 < N) {c : Nat} (hc : c < 24) : 0 < fo (kd7 m) N (nI (c + 1)) ∧ fo (kd7 m) N (nI (c + 1)) ≤ N := ⟨fo_pos (by have := hw.first h0; simpa [kd7] using this) h0 (by omega), foL_le _ _ _ N 0 0 (by omega)⟩
/-- the class's state: its path, its tolerance, and its flat cells, where they aren't stale -/
def CS (V : vM) (m : Nat → Int32) (N : Nat) (t : Int32) : Prop := PR V 1 12 13 N m ∧ V 0 11 = t ∧ (V 0 12 = 0 → FRC V (fall m t N))
def frQ (V U : vM) : Prop := ∀ a i, (a = 0 → i ≠ 12) → a ≠ 6 → (a < 20 ∨ 26 < a) → a ≠ 40 → (a < 42 ∨ 49 ≤ a) → U a i = V a i
theorem frQ.refl (V : vM) : frQ V V := fun _ _ _ _ _ _ _ => rfl
theorem CS.aft {V U : vM} {m : Nat → Int32} {N : Nat} {t : Int32} (h : CS V m N t) (hU : FRC U (fall m t N) ∧ U 0 12 = 0 ∧ frQ V U) : CS U m N t := by
  obtain ⟨h1, h2, h3⟩ := hU
  refine ⟨h.1.kept (fun i => h3 1 i (by omega) (by omega) (by omega) (by omega) (by omega)) (fun i => h3 12 i (by omega) (by omega) (by omega) (by omega) (by omega)) (fun i => h3 13 i (by omega) (by omega) (by omega) (by omega) (by omega)), ?_, fun _ => h1⟩
  rw [h3 0 11 (by omega) (by omega) (by omega) (by omega) (by omega)]
  exact h.2.1
set_option maxHeartbeats 1000000 in
set_option maxRecDepth 100000 in
theorem mX10_verticesOf {g : gX} {V : vM} {S : FS} {fb : Nat → Nat} {kc : Nat} (hF : FRM V S kc) (hE : V 65 S.2.1 = nI S.1) (hG : GI S fb) (h24 : S.2.1 ≤ 24) (h15 : S.1 ≤ 1536) (c : Nat) (hc : c < S.2.1) : MM g jX10_verticesOf V [.ref (g.2.1 49), .int (nI c)] (pI V (nI (fb (c + 1) - fb c))) := by
  refine MM.of plX10_verticesOf (Nat.le_of_ble_eq_true rfl) ?_
  obtain ⟨Q, hQ⟩ : ∃ Q : Option Value → vM → Prop, Q = (pI V (nI (fb (c + 1) - fb c))) := ⟨_, rfl⟩
  rw [← hQ]
  show XX g jX10_verticesOf Q V 0 [(0, .ref (g.2.1 49)), (1, .int (nI c))] []
  have hb1 := hG.bd (j := c + 1) (by omega)
  have hlt := (hG.2.2.2 c hc).1
  have hV1 : V 65 (c + 1) = nI (fb (c + 1)) := hF.bo hE hG (by omega)
  have hV0 : V 65 c = nI (fb c) := hF.bo hE hG (by omega)
  refine x_aload_n dX10_verticesOf_0 0 rfl ?_
  refine x_getR fl_X10_56 rfl rfl dX10_verticesOf_1 ?_
  refine x_iload_n dX10_verticesOf_4 1 rfl ?_
  refine x_iconst (v := 1) dX10_verticesOf_5 (by decide) ?_
  refine x_iadd dX10_verticesOf_6 ?_
  have q1 : ((nI c) + 1 : Int32) = nI (c + 1) := nadd (rfl) (rfl)
  refine YY.S (st' := [.int (nI (c + 1)), .ref (g.2.1 65)]) (by rw [q1]) ?_
  have b2 : vp_in (nI (c + 1)) 26 := by exact vp_in_nI (by omega) (by decide)
  refine x_iald rfl b2 dX10_verticesOf_7 ?_
  refine x_topi (y := V 65 (c + 1)) (by rw [nI_clamp (by omega)]) ?_
  refine x_topi (hV1) ?_
  refine x_aload_n dX10_verticesOf_8 0 rfl ?_
  refine x_getR fl_X10_56 rfl rfl dX10_verticesOf_9 ?_
  refine x_iload_n dX10_verticesOf_12 1 rfl ?_
  have b3 : vp_in (nI c) 26 := by exact vp_in_nI (by omega) (by decide)
  refine x_iald rfl b3 dX10_verticesOf_13 ?_
  refine x_topi (y := V 65 c) (by rw [nI_clamp (by omega)]) ?_
  refine x_topi (hV0) ?_
  refine x_isub dX10_verticesOf_14 ?_
  refine x_iret dX10_verticesOf_15 rfl ?_
  rw [hQ]
  exact ⟨rfl, by rw [nsub (a := fb (c + 1)) (b := fb c) (by omega) rfl rfl]⟩
set_option maxHeartbeats 1000000 in
set_option maxRecDepth 100000 in
theorem mX10_lengthOfContour {g : gX} {V : vM} {S : FS} {fb : Nat → Nat} {kc : Nat} (hF : FRM V S kc) (hE : V 65 S.2.1 = nI S.1) (hG : GI S fb) (h24 : S.2.1 ≤ 24) (h15 : S.1 ≤ 1536) (c : Nat) (hc : c < S.2.1) : MM g jX10_lengthOfContour V [.ref (g.2.1 49), .int (nI c)] (pI V (S.2.2 2 (fb (c + 1) - 1))) := by
  refine MM.of plX10_lengthOfContour (Nat.le_of_ble_eq_true rfl) ?_
  obtain ⟨Q, hQ⟩ : ∃ Q : Option Value → vM → Prop, Q = (pI V (S.2.2 2 (fb (c + 1) - 1))) := ⟨_, rfl⟩
  rw [← hQ]
  show XX g jX10_lengthOfContour Q V 0 [(0, .ref (g.2.1 49)), (1, .int (nI c))] []
  have hb1 := hG.bd (j := c + 1) (by omega)
  have hlt := (hG.2.2.2 c hc).1
  have hV1 : V 65 (c + 1) = nI (fb (c + 1)) := hF.bo hE hG (by omega)
  have hV0 : V 65 c = nI (fb c) := hF.bo hE hG (by omega)
  refine x_aload_n dX10_lengthOfContour_0 0 rfl ?_
  refine x_getR fl_X10_53 rfl rfl dX10_lengthOfContour_1 ?_
  refine x_aload_n dX10_lengthOfContour_4 0 rfl ?_
  refine x_getR fl_X10_56 rfl rfl dX10_lengthOfContour_5 ?_
  refine x_iload_n dX10_lengthOfContour_8 1 rfl ?_
  refine x_iconst (v := 1) dX10_lengthOfContour_9 (by decide) ?_
  refine x_iadd dX10_lengthOfContour_10 ?_
  have q1 : ((nI c) + 1 : Int32) = nI (c + 1) := nadd (rfl) (rfl)
  refine YY.S (st' := [.int (nI (c + 1)), .ref (g.2.1 65), .ref (g.2.1 64)]) (by rw [q1]) ?_
  have b2 : vp_in (nI (c + 1)) 26 := by exact vp_in_nI (by omega) (by decide)
  refine x_iald rfl b2 dX10_lengthOfContour_11 ?_
  refine x_topi (y := V 65 (c + 1)) (by rw [nI_clamp (by omega)]) ?_
  refine x_topi (hV1) ?_
  refine x_iconst (v := 1) dX10_lengthOfContour_12 (by decide) ?_
  refine x_isub dX10_lengthOfContour_13 ?_
  have q3 : ((nI (fb (c + 1))) - 1 : Int32) = nI ((fb (c + 1)) - 1) := nsub (by omega) (rfl) (rfl)
  refine YY.S (st' := [.int (nI ((fb (c + 1)) - 1)), .ref (g.2.1 64)]) (by rw [q3]) ?_
  have b4 : vp_in (nI ((fb (c + 1)) - 1)) 1700 := by exact vp_in_nI (by omega) (by decide)
  refine x_iald rfl b4 dX10_lengthOfContour_14 ?_
  refine x_topi (y := V 64 ((fb (c + 1)) - 1)) (by rw [nI_clamp (by omega)]) ?_
  refine x_iret dX10_lengthOfContour_15 rfl ?_
  rw [hQ]
  exact ⟨rfl, by rw [(hF.2.2.1 (fb (c + 1) - 1) (by omega)).2.2]⟩
set_option maxHeartbeats 1000000 in
set_option maxRecDepth 100000 in
theorem mX10_hasSegments {g : gX} {V : vM} {S : FS} {fb : Nat → Nat} {kc : Nat} (hF : FRM V S kc) (hE : V 65 S.2.1 = nI S.1) (hG : GI S fb) (h24 : S.2.1 ≤ 24) (h15 : S.1 ≤ 1536) (c : Nat) (hc : c < S.2.1) : MM g jX10_hasSegments V [.ref (g.2.1 49), .int (nI c)] (pI V (iB (1 < fb (c + 1) - fb c))) := by
  refine MM.of plX10_hasSegments (Nat.le_of_ble_eq_true rfl) ?_
  obtain ⟨Q, hQ⟩ : ∃ Q : Option Value → vM → Prop, Q = (pI V (iB (1 < fb (c + 1) - fb c))) := ⟨_, rfl⟩
  rw [← hQ]
  show XX g jX10_hasSegments Q V 0 [(0, .ref (g.2.1 49)), (1, .int (nI c))] []
  have hb1 := hG.bd (j := c + 1) (by omega)
  have hlt := (hG.2.2.2 c hc).1
  have hV1 : V 65 (c + 1) = nI (fb (c + 1)) := hF.bo hE hG (by omega)
  have hV0 : V 65 c = nI (fb c) := hF.bo hE hG (by omega)
  refine x_aload_n dX10_hasSegments_0 0 rfl ?_
  refine x_iload_n dX10_hasSegments_1 1 rfl ?_
  refine x_callV (K := jX10_verticesOf) [.int (nI c)] lk_X10_245 ⟨⟨rfl, rfl⟩, Nat.le_of_ble_eq_true rfl, Nat.le_of_ble_eq_true rfl⟩ rfl rfl (mX10_verticesOf hF hE hG h24 h15 c (by omega)) rfl (Nat.le_of_ble_eq_true rfl) rfl dX10_hasSegments_2 (kpI ?_)
  refine x_iconst (v := 1) dX10_hasSegments_5 (by decide) ?_
  refine x_icmp_le 13 dX10_hasSegments_6 (by decide) (fun c1 => ?_) (fun c1 => ?_)
  · have c1n : fb (c + 1) - fb c ≤ 1 := (nl_le (a := fb (c + 1) - fb c) (b := 1) (rfl) (rfl) (by omega) (by omega)).mp c1
    refine x_iconst (v := 0) dX10_hasSegments_13 (by decide) ?_
    refine x_zret dX10_hasSegments_14 rfl (by exact nar01 (by first | exact Or.inl rfl | exact Or.inr rfl | grind)) ?_
    rw [hQ]
    refine ⟨rfl, ?_⟩
    congr 2
    unfold iB
    first | rw [if_pos (by omega)] | rw [if_neg (by omega)]
  · have c1n : 1 < fb (c + 1) - fb c := Nat.not_le.mp (fun q => c1 ((nl_le (a := fb (c + 1) - fb c) (b := 1) (rfl) (rfl) (by omega) (by omega)).mpr q))
    refine x_iconst (v := 1) dX10_hasSegments_9 (by decide) ?_
    refine x_goto 14 dX10_hasSegments_10 (by decide) ?_
    refine x_zret dX10_hasSegments_14 rfl (by exact nar01 (by first | exact Or.inl rfl | exact Or.inr rfl | grind)) ?_
    rw [hQ]
    refine ⟨rfl, ?_⟩
    congr 2
    unfold iB
    first | rw [if_pos (by omega)] | rw [if_neg (by omega)]
set_option maxHeartbeats 1000000 in
set_option maxRecDepth 100000 in
theorem mX10_segmentAt {g : gX} (V : vM) (c v : Int32) : MM g jX10_segmentAt V [.ref (g.2.1 49), .int c, .int v] (pI V (v - c)) := by
  refine MM.of plX10_segmentAt (Nat.le_of_ble_eq_true rfl) ?_
  obtain ⟨Q, hQ⟩ : ∃ Q : Option Value → vM → Prop, Q = (pI V (v - c)) := ⟨_, rfl⟩
  rw [← hQ]
  show XX g jX10_segmentAt Q V 0 [(0, .ref (g.2.1 49)), (1, .int c), (2, .int v)] []
  refine x_iload_n dX10_segmentAt_0 2 rfl ?_
  refine x_iload_n dX10_segmentAt_1 1 rfl ?_
  refine x_isub dX10_segmentAt_2 ?_
  refine x_iret dX10_segmentAt_3 rfl ?_
  rw [hQ]
  exact ⟨rfl, rfl⟩
set_option maxHeartbeats 1000000 in
set_option maxRecDepth 100000 in
theorem mX10_isClosed {g : gX} {V : vM} {m : Nat → Int32} {N : Nat} (hw : WF m N) (hm50 : V 50 = m) (hN8 : m 168 = nI N) (h0 : 0 < N) (c : Nat) (hc : c < 24) : MM g jX10_isClosed V [.ref (g.2.1 49), .int (nI c)] (pI V (iB (clZ m N c))) := by
  refine MM.of plX10_isClosed (Nat.le_of_ble_eq_true rfl) ?_
  obtain ⟨Q, hQ⟩ : ∃ Q : Option Value → vM → Prop, Q = (pI V (iB (clZ m N c))) := ⟨_, rfl⟩
  rw [← hQ]
  show XX g jX10_isClosed Q V 0 [(0, .ref (g.2.1 49)), (1, .int (nI c))] []
  obtain ⟨hf1, hf2⟩ := hw.fo h0 hc
  refine x_aload_n dX10_isClosed_0 0 rfl ?_
  refine x_aload_n dX10_isClosed_1 0 rfl ?_
  refine x_iload_n dX10_isClosed_2 1 rfl ?_
  refine x_iconst (v := 1) dX10_isClosed_3 (by decide) ?_
  refine x_iadd dX10_isClosed_4 ?_
  have q1 : ((nI c) + 1 : Int32) = nI (c + 1) := nadd (rfl) (rfl)
  refine YY.S (st' := [.int (nI (c + 1)), .ref (g.2.1 49), .ref (g.2.1 49)]) (by rw [q1]) ?_
  refine x_callV (K := jX10_firstOf) [.int (nI (c + 1))] lk_X10_126 ⟨⟨rfl, rfl⟩, Nat.le_of_ble_eq_true rfl, Nat.le_of_ble_eq_true rfl⟩ rfl rfl (by have := mX10_firstOf (g := g) V N hw.1 (by rw [hm50]; exact hN8) (nI (c + 1)); rw [hm50] at this; exact this) rfl (Nat.le_of_ble_eq_true rfl) rfl dX10_isClosed_5 (kpI ?_)
  refine x_iconst (v := 1) dX10_isClosed_8 (by decide) ?_
  refine x_isub dX10_isClosed_9 ?_
  have q2 : ((nI (fo (kd7 m) N (nI (c + 1)))) - 1 : Int32) = nI ((fo (kd7 m) N (nI (c + 1))) - 1) := nsub (by omega) (rfl) (rfl)
  refine YY.S (st' := [.int (nI ((fo (kd7 m) N (nI (c + 1))) - 1)), .ref (g.2.1 49)]) (by rw [q2]) ?_
  refine x_callV (K := jX10_kind) [.int (nI ((fo (kd7 m) N (nI (c + 1))) - 1))] lk_X10_93 ⟨⟨rfl, rfl⟩, Nat.le_of_ble_eq_true rfl, Nat.le_of_ble_eq_true rfl⟩ rfl rfl (by have := mX10_kind (g := g) V ((fo (kd7 m) N (nI (c + 1))) - 1) (by have := hw.1; omega); rw [hm50] at this; exact this) rfl (Nat.le_of_ble_eq_true rfl) rfl dX10_isClosed_10 (kpI ?_)
  refine x_iconst (v := 4) dX10_isClosed_13 (by decide) ?_
  refine x_icmp_ne 21 dX10_isClosed_14 (by decide) (fun c3 => ?_) (fun c3 => ?_)
  · refine x_iconst (v := 0) dX10_isClosed_21 (by decide) ?_
    refine x_zret dX10_isClosed_22 rfl (by exact nar01 (by first | exact Or.inl rfl | exact Or.inr rfl | grind)) ?_
    rw [hQ]
    refine ⟨rfl, ?_⟩
    congr 2
    unfold iB clZ
    first | rw [if_pos (by assumption)] | rw [if_neg (by assumption)]
  · refine x_iconst (v := 1) dX10_isClosed_17 (by decide) ?_
    refine x_goto 22 dX10_isClosed_18 (by decide) ?_
    refine x_zret dX10_isClosed_22 rfl (by exact nar01 (by first | exact Or.inl rfl | exact Or.inr rfl | grind)) ?_
    rw [hQ]
    refine ⟨rfl, ?_⟩
    congr 2
    unfold iB clZ
    first | rw [if_pos (by assumption)] | rw [if_neg (by assumption)]
set_option maxHeartbeats 1000000 in
set_option maxRecDepth 100000 in
theorem mX5_areClosed {g : gX} {V : vM} {m : Nat → Int32} {N : Nat} (hp : PR V 1 12 13 N m) (a d : Nat) (h0 : 0 < d → 0 < N) (hd : a + d ≤ 24) : MM g jX5_areClosed V [.ref (g.2.1 1), .int (nI a), .int (nI (a + d))] (pI V (iB (∀ j, j < d → clZ m N (a + j)))) := by
  refine MM.of plX5_areClosed (Nat.le_of_ble_eq_true rfl) ?_
  obtain ⟨Q, hQ⟩ : ∃ Q : Option Value → vM → Prop, Q = (pI V (iB (∀ j, j < d → clZ m N (a + j)))) := ⟨_, rfl⟩
  rw [← hQ]
  show XX g jX5_areClosed Q V 0 [(0, .ref (g.2.1 1)), (1, .int (nI a)), (2, .int (nI (a + d)))] []
  refine x_iload_n dX5_areClosed_0 1 rfl ?_
  refine x_istore_n 3 [(3, .int (nI a)), (0, .ref (g.2.1 1)), (1, .int (nI a)), (2, .int (nI (a + d)))] dX5_areClosed_1 rfl (by decide) rfl ?_
  have lp1 : ∀ (fu : Nat) (j : Nat), (j ≤ d) → (∀ i, i < j → clZ m N (a + i)) → (d - j) < fu → XX g jX5_areClosed Q V 2 [(3, .int (nI (a + j))), (0, .ref (g.2.1 1)), (1, .int (nI a)), (2, .int (nI (a + d)))] [] := by
    intro fu
    induction fu with
    | zero => intro _ _ _ hmz; exact absurd hmz (Nat.not_lt_zero _)
    | succ fu ih =>
      intro j hj hcl hmz
      refine x_iload_n dX5_areClosed_2 0 rfl ?_
      refine x_iload_n dX5_areClosed_3 3 rfl ?_
      refine x_icmp_ge 30 dX5_areClosed_4 (by decide) (fun c2 => ?_) (fun c2 => ?_)
      · have c2n : a + d ≤ a + j := (nl_le (a := a + d) (b := a + j) (rfl) (rfl) (by omega) (by omega)).mp c2
        refine x_iconst (v := 1) dX5_areClosed_30 (by decide) ?_
        refine x_zret dX5_areClosed_31 rfl (by exact nar01 (by first | exact Or.inl rfl | exact Or.inr rfl | grind)) ?_
        rw [hQ]
        refine ⟨rfl, ?_⟩
        congr 2
        unfold iB
        rw [if_pos (fun i hi => hcl i (by omega))]
      · have c2n : a + j < a + d := Nat.not_le.mp (fun q => c2 ((nl_le (a := a + d) (b := a + j) (rfl) (rfl) (by omega) (by omega)).mpr q))
        obtain ⟨hf1, hf2⟩ := hp.2.2.1.fo (by omega) (c := a + j) (by omega)
        refine x_aload_n dX5_areClosed_7 1 rfl ?_
        refine x_aload_n dX5_areClosed_8 1 rfl ?_
        refine x_iload_n dX5_areClosed_9 0 rfl ?_
        refine x_callV (K := jX5_behind) [.int (nI (a + j))] lk_X5_53 ⟨⟨rfl, rfl⟩, Nat.le_of_ble_eq_true rfl, Nat.le_of_ble_eq_true rfl⟩ rfl rfl (by have := mX5_behind (g := g) V isP1 hp.2.2.1.1 hp.1 (nI (a + j)); rw [nI_1, fo_cong (K2 := kd7 m) _ (fun i hi => (hp.2.2.2 i hi).1)] at this; exact this) rfl (Nat.le_of_ble_eq_true rfl) rfl dX5_areClosed_10 (kpI ?_)
        refine x_iconst (v := 1) dX5_areClosed_13 (by decide) ?_
        refine x_isub dX5_areClosed_14 ?_
        have q4 : ((nI (fo (kd7 m) N (nI (a + j + 1)))) - 1 : Int32) = nI ((fo (kd7 m) N (nI (a + j + 1))) - 1) := nsub (by omega) (rfl) (rfl)
        refine YY.S (st' := [.int (nI ((fo (kd7 m) N (nI (a + j + 1))) - 1)), .ref (g.2.1 1)]) (by rw [q4]) ?_
        refine x_callV (K := jX5_kindOf) [.int (nI ((fo (kd7 m) N (nI (a + j + 1))) - 1))] lk_X5_38 ⟨⟨rfl, rfl⟩, Nat.le_of_ble_eq_true rfl, Nat.le_of_ble_eq_true rfl⟩ rfl rfl (by have := mX5_kindOf (g := g) V isP1 hp.kok.1 (nI ((fo (kd7 m) N (nI (a + j + 1))) - 1)); rw [hp.ki (i := ((fo (kd7 m) N (nI (a + j + 1))) - 1)) (by omega)] at this; exact this) rfl (Nat.le_of_ble_eq_true rfl) rfl dX5_areClosed_15 (kpI ?_)
        refine x_iconst (v := 4) dX5_areClosed_18 (by decide) ?_
        refine x_icmp_eq 24 dX5_areClosed_19 (by decide) (fun c5 => ?_) (fun c5 => ?_)
        · refine x_iinc 3 (v := (nI (a + j)) + 1) 0 [(3, .int ((nI (a + j)) + 1)), (0, .ref (g.2.1 1)), (1, .int (nI a)), (2, .int (nI (a + d)))] dX5_areClosed_24 rfl (by rfl) (by decide) rfl ?_
          refine x_goto 2 dX5_areClosed_27 (by decide) ?_
          refine YY.L (lv' := [(3, .int (nI (a + (j + 1)))), (0, .ref (g.2.1 1)), (1, .int (nI a)), (2, .int (nI (a + d)))]) (by simp only [nI_1]; rfl) ?_
          exact ih (j + 1) (by omega) (by intro i hi; by_cases e : i = j; (subst e; assumption); exact hcl i (by omega)) (by omega)
        · refine x_iconst (v := 0) dX5_areClosed_22 (by decide) ?_
          refine x_zret dX5_areClosed_23 rfl (by exact nar01 (by first | exact Or.inl rfl | exact Or.inr rfl | grind)) ?_
          rw [hQ]
          refine ⟨rfl, ?_⟩
          congr 2
          unfold iB
          rw [if_neg (fun q => absurd (q j (by omega)) (by assumption))]
  refine YY.L (lv' := [(3, .int (nI (a + 0))), (0, .ref (g.2.1 1)), (1, .int (nI a)), (2, .int (nI (a + d)))]) (by rfl) ?_
  exact lp1 _ 0 (by omega) (by exact fun i hi => absurd hi (Nat.not_lt_zero _)) (Nat.lt_succ_self _)
set_option maxHeartbeats 1000000 in
set_option maxRecDepth 100000 in
theorem mX9_flattened {g : gX} {V : vM} {m : Nat → Int32} {N : Nat} {t : Int32} (hC : CS V m N t) : MM g jX9_flattened V [.ref (g.2.1 0)] (eR (g.2.1 6) (fun U => FRC U (fall m t N) ∧ U 0 12 = 0 ∧ frQ V U)) := by
  refine MM.of plX9_flattened (Nat.le_of_ble_eq_true rfl) ?_
  obtain ⟨Q, hQ⟩ : ∃ Q : Option Value → vM → Prop, Q = (eR (g.2.1 6) (fun U => FRC U (fall m t N) ∧ U 0 12 = 0 ∧ frQ V U)) := ⟨_, rfl⟩
  rw [← hQ]
  show XX g jX9_flattened Q V 0 [(0, .ref (g.2.1 0))] []
  refine x_aload_n dX9_flattened_0 0 rfl ?_
  refine x_getI fl_X9_75 rfl rfl dX9_flattened_1 ?_
  refine x_if_eq 27 dX9_flattened_4 (by decide) (fun c1 => ?_) (fun c1 => ?_)
  · refine x_aload_n dX9_flattened_27 0 rfl ?_
    refine x_getR fl_X9_32 rfl rfl dX9_flattened_28 ?_
    refine x_aret dX9_flattened_31 rfl (Or.inl ⟨_, rfl⟩) ?_
    rw [hQ]
    first | exact ⟨rfl, hC.2.2 (by assumption), by assumption, frQ.refl V⟩ | (subst_vars; exact ⟨rfl, ⟨by rw [uM_na (by decide)]; exact hU3.1.1, by rw [uM_na (by decide)]; exact hU3.1.2.1, fun i hi => by rw [uM_na (by decide), uM_na (by decide), uM_na (by decide), uM_na (by decide)]; exact hU3.1.2.2.1 i hi, fun j hj => by rw [uM_na (by decide)]; exact hU3.1.2.2.2.1 j hj, fun j hj => by rw [uM_na (by decide)]; exact hU3.1.2.2.2.2 j hj⟩, uM_hit, fun a i n1 n2 n3 n4 n5 => by rw [uM_at, if_neg (fun q => n1 q.1 q.2)]; exact hU3.2 a i n2 n3 n4 n5⟩)
  · refine x_aload_n dX9_flattened_7 0 rfl ?_
    refine x_getR fl_X9_32 rfl rfl dX9_flattened_8 ?_
    refine x_aload_n dX9_flattened_11 0 rfl ?_
    refine x_getR fl_X9_12 rfl rfl dX9_flattened_12 ?_
    refine x_aload_n dX9_flattened_15 0 rfl ?_
    refine x_getI fl_X9_71 rfl rfl dX9_flattened_16 ?_
    refine x_topi (hC.2.1) ?_
    refine x_callV (K := jX1_flatten) [.ref (g.2.1 1), .int t] lk_X9_298 ⟨⟨rfl, rfl⟩, Nat.le_of_ble_eq_true rfl, Nat.le_of_ble_eq_true rfl⟩ rfl rfl (mX1_flatten hC.1 t) rfl (Nat.le_of_ble_eq_true rfl) rfl dX9_flattened_19 (keV fun U2 hU3 => ?_)
    refine x_aload_n dX9_flattened_22 0 rfl ?_
    refine x_iconst (v := 0) dX9_flattened_23 (by decide) ?_
    have z4 : (0 : Int32) = 0 ∨ (0 : Int32) = 1 := by first | exact Or.inl rfl | exact Or.inr rfl | grind
    refine x_putZ fp_X9_75 rfl rfl z4 dX9_flattened_24 ?_
    obtain ⟨U5, eU5⟩ : ∃ v_v : vM, v_v = uM U2 0 12 0 := ⟨_, rfl⟩
    refine YY.V eU5.symm ?_
    refine x_aload_n dX9_flattened_27 0 rfl ?_
    refine x_getR fl_X9_32 rfl rfl dX9_flattened_28 ?_
    refine x_aret dX9_flattened_31 rfl (Or.inl ⟨_, rfl⟩) ?_
    rw [hQ]
    first | exact ⟨rfl, hC.2.2 (by assumption), by assumption, frQ.refl V⟩ | (subst_vars; exact ⟨rfl, ⟨by rw [uM_na (by decide)]; exact hU3.1.1, by rw [uM_na (by decide)]; exact hU3.1.2.1, fun i hi => by rw [uM_na (by decide), uM_na (by decide), uM_na (by decide), uM_na (by decide)]; exact hU3.1.2.2.1 i hi, fun j hj => by rw [uM_na (by decide)]; exact hU3.1.2.2.2.1 j hj, fun j hj => by rw [uM_na (by decide)]; exact hU3.1.2.2.2.2 j hj⟩, uM_hit, fun a i n1 n2 n3 n4 n5 => by rw [uM_at, if_neg (fun q => n1 q.1 q.2)]; exact hU3.2 a i n2 n3 n4 n5⟩)
