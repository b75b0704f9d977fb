/-! letters on the model's side -/
def kix (V : vM) (i : Nat) : Int32 := V 56 (26 * V 57 i + V 57 (i + 1)).toNatClampNeg
def advA (V : vM) (n i : Nat) : Int32 := V 55 (V 57 i).toNatClampNeg + V 49 14 + if i + 1 < n then kix V i else 0
def LCm (V : vM) (n : Nat) (W T : Nat → Int32) (o md : Int32) : Prop := V 49 12 = nI n ∧ V 49 13 = o ∧ V 49 15 = md ∧ LB n W T o ∧ (∀ j, j < n → 0 ≤ V 57 j ∧ V 57 j ≤ 25) ∧ (∀ i, i < n → V 55 (V 57 i).toNatClampNeg = W i) ∧ ∀ i, i < n → advA V n i = T i
theorem LCm.ag {V U : vM} {n : Nat} {W T : Nat → Int32} {o md : Int32} (h : LCm V n W T o md) (q : frN V U) : LCm U n W T o md := by
  obtain ⟨h1, h2, h3, h4, h5, h6, h7⟩ := h
  refine ⟨by rw [q 49 12 (by omega) (by omega)]; exact h1, by rw [q 49 13 (by omega) (by omega)]; exact h2, by rw [q 49 15 (by omega) (by omega)]; exact h3, h4, fun j hj => by rw [q 57 j (by omega) (by omega)]; exact h5 j hj, fun i hi => by rw [q 57 i (by omega) (by omega), q 55 _ (by omega) (by omega)]; exact h6 i hi, fun i hi => ?_⟩
  rw [← h7 i hi]
  unfold advA kix
  rw [q 57 i (by omega) (by omega), q 55 _ (by omega) (by omega), q 49 14 (by omega) (by omega), q 57 (i + 1) (by omega) (by omega), q 56 _ (by omega) (by omega)]
theorem k26 {a : Int32} (ha : 0 ≤ a ∧ a ≤ 25) : vp_in a 26 := vp_lit (N := 26) 26 (by decide) rfl ha.1 (Int32.lt_iff_toInt_lt.mpr (by have := Int32.le_iff_toInt_le.mp ha.2; rw [show (25 : Int32).toInt = 25 from rfl] at this; rw [show (26 : Int32).toInt = 26 from rfl]; omega))
theorem k676 {a b : Int32} (ha : 0 ≤ a ∧ a ≤ 25) (hb : 0 ≤ b ∧ b ≤ 25) : vp_in (26 * a + b) 676 := by
  have a0 := Int32.le_iff_toInt_le.mp ha.1
  have a1 := Int32.le_iff_toInt_le.mp ha.2
  have b0 := Int32.le_iff_toInt_le.mp hb.1
  have b1 := Int32.le_iff_toInt_le.mp hb.2
  rw [show (0 : Int32).toInt = 0 from rfl] at a0 b0
  rw [show (25 : Int32).toInt = 25 from rfl] at a1 b1
  have e1 : (26 * a).toInt = 26 * a.toInt := by rw [fb_mulI] <;> rw [show (26 : Int32).toInt = 26 from rfl] <;> omega
  have e : (26 * a + b).toInt = 26 * a.toInt + b.toInt := by rw [fb_addI] <;> rw [e1] <;> omega
  rw [vp_in_iff, e]
  omega
def LRm (V : vM) (n : Nat) (R : LRS) : Prop := ∀ i, i < n → V 72 i = (R i).2 ∧ V 71 i = hmM (R i).1
theorem LRm.put {V U : vM} {j : Nat} {R : LRS} (h : LRm V j R) {x y : Int32} (e : U = uM (uM V 71 j y) 72 j x) (hx : x = (R j).2) (hy : y = hmM (R j).1) : LRm U (j + 1) R := by
  intro i hi
  rw [e]
  by_cases q : i = j
  · subst q; rw [uM_hit, uM_na (by decide), uM_hit]; exact ⟨hx, hy⟩
  · rw [uM_ni q, uM_na (by decide), uM_na (by decide), uM_ni q]; exact h i (by omega)
def fr71 (V U : vM) : Prop := ∀ a i, a ≠ 71 → a ≠ 72 → U a i = V a i
theorem fr71.refl (V : vM) : fr71 V V := fun _ _ _ _ => rfl
theorem fr71.st {V U U' : vM} (h : fr71 V U) {i j : Nat} {x y : Int32} (e : U' = uM (uM U 71 i x) 72 j y) : fr71 V U' := by
  intro b k h1 h2
  rw [e, uM_na h2, uM_na h1]
  exact h b k h1 h2
theorem fr71.N {V U : vM} (h : fr71 V U) : frN V U := fun a i p _ => h a i (by omega) (by omega)
theorem ltE_s {i : Nat} {o : Int32} {W T : Nat → Int32} : ltB o T i + W i = ltE (i + 1) o W T := by
  unfold ltE; rw [if_neg (by omega), Nat.add_sub_cancel]
set_option maxHeartbeats 1000000 in
set_option maxRecDepth 100000 in
theorem mX10_widthL {g : gX} (V : vM) (n : Nat) (W T : Nat → Int32) (o md : Int32) (hL : LCm V n W T o md) (i : Nat) (hi : i < n) : MM g jX10_widthOf V [.ref (g.2.1 49), .int (nI i)] (pI V (W i)) := by
  refine MM.of plX10_widthOf (Nat.le_of_ble_eq_true rfl) ?_
  obtain ⟨Q, hQ⟩ : ∃ Q : Option Value → vM → Prop, Q = (pI V (W i)) := ⟨_, rfl⟩
  rw [← hQ]
  show XX g jX10_widthOf Q V 0 [(0, .ref (g.2.1 49)), (1, .int (nI i))] []
  have hn24 := hL.2.2.2.1.1
  refine x_aload_n dX10_widthOf_0 0 rfl ?_
  refine x_getR fl_X10_26 rfl rfl dX10_widthOf_1 ?_
  refine x_aload_n dX10_widthOf_4 0 rfl ?_
  refine x_getR fl_X10_32 rfl rfl dX10_widthOf_5 ?_
  refine x_iload_n dX10_widthOf_8 1 rfl ?_
  have b1 : vp_in (nI i) 24 := by exact vp_in_nI (by omega) (by decide)
  refine x_iald rfl b1 dX10_widthOf_9 ?_
  refine x_topi (y := V 57 i) (by rw [nI_clamp (by omega)]) ?_
  have b2 : vp_in (V 57 i) 26 := by exact k26 (hL.2.2.2.2.1 i hi)
  refine x_iald rfl b2 dX10_widthOf_10 ?_
  refine x_iret dX10_widthOf_11 rfl ?_
  rw [hQ]
  exact ⟨rfl, by rw [hL.2.2.2.2.2.1 i hi]⟩
set_option maxHeartbeats 1000000 in
set_option maxRecDepth 100000 in
theorem mX10_advL {g : gX} (V : vM) (n : Nat) (W T : Nat → Int32) (o md : Int32) (hL : LCm V n W T o md) (i : Nat) (hi : i < n) : MM g jX10_advance V [.ref (g.2.1 49), .int (nI i)] (pI V (T i)) := by
  refine MM.of plX10_advance (Nat.le_of_ble_eq_true rfl) ?_
  obtain ⟨Q, hQ⟩ : ∃ Q : Option Value → vM → Prop, Q = (pI V (T i)) := ⟨_, rfl⟩
  rw [← hQ]
  show XX g jX10_advance Q V 0 [(0, .ref (g.2.1 49)), (1, .int (nI i))] []
  have hn24 := hL.2.2.2.1.1
  refine x_aload_n dX10_advance_0 0 rfl ?_
  refine x_iload_n dX10_advance_1 1 rfl ?_
  refine x_callV (K := jX10_widthOf) [.int (nI i)] lk_X10_305 ⟨⟨rfl, rfl⟩, Nat.le_of_ble_eq_true rfl, Nat.le_of_ble_eq_true rfl⟩ rfl rfl (mX10_widthL V n W T o md hL i (by omega)) rfl (Nat.le_of_ble_eq_true rfl) rfl dX10_advance_2 (kpI ?_)
  refine x_aload_n dX10_advance_5 0 rfl ?_
  refine x_getI fl_X10_299 rfl rfl dX10_advance_6 ?_
  refine x_iadd dX10_advance_9 ?_
  refine x_iload_n dX10_advance_10 1 rfl ?_
  refine x_iconst (v := 1) dX10_advance_11 (by decide) ?_
  refine x_iadd dX10_advance_12 ?_
  refine x_aload_n dX10_advance_13 0 rfl ?_
  refine x_getI fl_X10_293 rfl rfl dX10_advance_14 ?_
  refine x_topi (hL.1) ?_
  refine x_icmp_ge 46 dX10_advance_17 (by decide) (fun c1 => ?_) (fun c1 => ?_)
  · have c1n : n ≤ i + 1 := (nl_le (a := n) (b := i + 1) (rfl) (nadd (rfl) (rfl)) (by omega) (by omega)).mp c1
    refine x_iconst (v := 0) dX10_advance_46 (by decide) ?_
    refine x_iadd dX10_advance_47 ?_
    refine x_iret dX10_advance_48 rfl ?_
    rw [hQ]
    refine ⟨rfl, ?_⟩
    rw [← hL.2.2.2.2.2.2 i hi]
    unfold advA kix
    first | rw [if_pos (by omega), hL.2.2.2.2.2.1 i hi] | rw [if_neg (by omega), hL.2.2.2.2.2.1 i hi]
  · have c1n : i + 1 < n := Nat.not_le.mp (fun q => c1 ((nl_le (a := n) (b := i + 1) (rfl) (nadd (rfl) (rfl)) (by omega) (by omega)).mpr q))
    refine x_aload_n dX10_advance_20 0 rfl ?_
    refine x_getR fl_X10_29 rfl rfl dX10_advance_21 ?_
    refine x_bipush (v := 26) dX10_advance_24 (by decide) ?_
    refine x_aload_n dX10_advance_26 0 rfl ?_
    refine x_getR fl_X10_32 rfl rfl dX10_advance_27 ?_
    refine x_iload_n dX10_advance_30 1 rfl ?_
    have b2 : vp_in (nI i) 24 := by exact vp_in_nI (by omega) (by decide)
    refine x_iald rfl b2 dX10_advance_31 ?_
    refine x_topi (y := V 57 i) (by rw [nI_clamp (by omega)]) ?_
    refine x_imul dX10_advance_32 ?_
    refine x_aload_n dX10_advance_33 0 rfl ?_
    refine x_getR fl_X10_32 rfl rfl dX10_advance_34 ?_
    refine x_iload_n dX10_advance_37 1 rfl ?_
    refine x_iconst (v := 1) dX10_advance_38 (by decide) ?_
    refine x_iadd dX10_advance_39 ?_
    have q3 : ((nI i) + 1 : Int32) = nI (i + 1) := nadd (rfl) (rfl)
    refine YY.S (st' := [.int (nI (i + 1)), .ref (g.2.1 57), .int (26 * (V 57 i)), .ref (g.2.1 56), .int ((W i) + (V 49 14))]) (by rw [q3]) ?_
    have b4 : vp_in (nI (i + 1)) 24 := by exact vp_in_nI (by omega) (by decide)
    refine x_iald rfl b4 dX10_advance_40 ?_
    refine x_topi (y := V 57 (i + 1)) (by rw [nI_clamp (by omega)]) ?_
    refine x_iadd dX10_advance_41 ?_
    have b5 : vp_in ((26 * (V 57 i)) + (V 57 (i + 1))) 676 := by exact k676 (hL.2.2.2.2.1 i hi) (hL.2.2.2.2.1 (i + 1) (by omega))
    refine x_iald rfl b5 dX10_advance_42 ?_
    refine x_goto 47 dX10_advance_43 (by decide) ?_
    refine x_iadd dX10_advance_47 ?_
    refine x_iret dX10_advance_48 rfl ?_
    rw [hQ]
    refine ⟨rfl, ?_⟩
    rw [← hL.2.2.2.2.2.2 i hi]
    unfold advA kix
    first | rw [if_pos (by omega), hL.2.2.2.2.2.1 i hi] | rw [if_neg (by omega), hL.2.2.2.2.2.1 i hi]
set_option maxHeartbeats 2000000 in
set_option maxRecDepth 100000 in
theorem mX10_layOne {g : gX} {V : vM} {S : FS} {fb : Nat → Nat} {kc : Nat} (hF : FRM V S kc) (hE : V 65 S.2.1 = nI S.1) (hG : GI S fb) (h24 : S.2.1 ≤ 24) (h15 : S.1 ≤ 1536) (n : Nat) (W T : Nat → Int32) (o md : Int32) (hL : LCm V n W T o md) (c : Nat) (hc : c < S.2.1) (hlb : 0 ≤ (lnC S fb c).toInt ∧ (lnC S fb c).toInt ≤ 300000000) {m : Nat → Int32} {N : Nat} (hw : WF m N) (hm50 : V 50 = m) (hN8 : m 168 = nI N) (h0 : 0 < N) (hcl6 : clZ m N c ↔ ¬ S.2.2 6 c = 0) : MM g jX10_layOne V [.ref (g.2.1 49), .int (nI c)] (eV (fun U => fr71 V U ∧ LRm U n (ltOne S fb n W T o md c))) := by
  refine MM.of plX10_layOne (Nat.le_of_ble_eq_true rfl) ?_
  obtain ⟨Q, hQ⟩ : ∃ Q : Option Value → vM → Prop, Q = (eV (fun U => fr71 V U ∧ LRm U n (ltOne S fb n W T o md c))) := ⟨_, rfl⟩
  rw [← hQ]
  show XX g jX10_layOne Q V 0 [(0, .ref (g.2.1 49)), (1, .int (nI c))] []
  refine x_aload_n dX10_layOne_0 0 rfl ?_
  refine x_iload_n dX10_layOne_1 1 rfl ?_
  refine x_callV (K := jX10_lengthOfContour) [.int (nI c)] lk_X10_248 ⟨⟨rfl, rfl⟩, Nat.le_of_ble_eq_true rfl, Nat.le_of_ble_eq_true rfl⟩ rfl rfl (mX10_lengthOfContour hF hE hG h24 h15 c (by omega)) rfl (Nat.le_of_ble_eq_true rfl) rfl dX10_layOne_2 (kpI ?_)
  obtain ⟨L, eL⟩ : ∃ z : Int32, z = lnC S fb c := ⟨_, rfl⟩
  rw [← eL] at hlb
  have hLB := hL.2.2.2.1
  have hn24 := hLB.1
  have hFV := hF
  have hEV := hE
  refine x_topi (y := L) eL.symm ?_
  refine x_istore_n 2 [(2, .int L), (0, .ref (g.2.1 49)), (1, .int (nI c))] dX10_layOne_5 rfl (by decide) rfl ?_
  refine x_aload_n dX10_layOne_6 1 rfl ?_
  refine x_getI fl_X10_296 rfl rfl dX10_layOne_7 ?_
  refine x_topi (hL.2.1) ?_
  refine x_istore_n 3 [(3, .int o), (2, .int L), (0, .ref (g.2.1 49)), (1, .int (nI c))] dX10_layOne_10 rfl (by decide) rfl ?_
  refine x_aload_n dX10_layOne_11 2 rfl ?_
  refine x_getI fl_X10_296 rfl rfl dX10_layOne_12 ?_
  refine x_topi (hL.2.1) ?_
  refine x_istore 4 [(4, .int o), (3, .int o), (2, .int L), (0, .ref (g.2.1 49)), (1, .int (nI c))] dX10_layOne_15 (by decide) rfl ?_
  refine x_iconst (v := 0) dX10_layOne_17 (by decide) ?_
  refine x_istore 5 [(5, .int 0), (4, .int o), (3, .int o), (2, .int L), (0, .ref (g.2.1 49)), (1, .int (nI c))] dX10_layOne_18 (by decide) rfl ?_
  have lp1 : ∀ (fu : Nat) (i : Nat), (i ≤ n) → (n - i) < fu → XX g jX10_layOne Q V 20 [(5, .int (nI i)), (4, .int (ltB o T i)), (3, .int (ltE i o W T)), (2, .int L), (0, .ref (g.2.1 49)), (1, .int (nI c))] [] := by
    intro fu
    induction fu with
    | zero => intro _ _ hmz; exact absurd hmz (Nat.not_lt_zero _)
    | succ fu ih =>
      intro i hi hmz
      refine x_iload dX10_layOne_20 0 rfl ?_
      refine x_aload_n dX10_layOne_22 4 rfl ?_
      refine x_getI fl_X10_293 rfl rfl dX10_layOne_23 ?_
      refine x_topi (hL.1) ?_
      refine x_icmp_ge 56 dX10_layOne_26 (by decide) (fun c2 => ?_) (fun c2 => ?_)
      · have c2n : n ≤ i := (nl_le (a := n) (b := i) (rfl) (rfl) (by omega) (by omega)).mp c2
        have ein : i = n := by omega
        refine YY.L (lv' := [(5, .int (nI i)), (4, .int (ltB o T i)), (3, .int (ltE n o W T)), (2, .int L), (0, .ref (g.2.1 49)), (1, .int (nI c))]) (by rw [ein]) ?_
        refine x_aload_n dX10_layOne_56 4 rfl ?_
        refine x_getI fl_X10_302 rfl rfl dX10_layOne_57 ?_
        refine x_topi (hL.2.2.1) ?_
        refine x_iconst (v := 1) dX10_layOne_60 (by decide) ?_
        have jn5 : ∀ (z4 : Int32), ((¬ md = 1 ∧ z4 = 0) ∨ (md = 1 ∧ (ltE n o W T) ≤ L ∧ z4 = 0) ∨ (md = 1 ∧ ¬ (ltE n o W T) ≤ L ∧ L ≤ o ∧ z4 = 0) ∨ (md = 1 ∧ ¬ (ltE n o W T) ≤ L ∧ ¬ L ≤ o ∧ z4 = 1)) → XX g jX10_layOne Q V 82 [(5, .int (nI i)), (4, .int (ltB o T i)), (3, .int (ltE n o W T)), (2, .int L), (0, .ref (g.2.1 49)), (1, .int (nI c))] [.int z4] := by
          intro z4 hj6
          have hzz : z4 = iB (md = 1 ∧ L < ltE n o W T ∧ o < L) := by
            rcases hj6 with ⟨q1, qz⟩ | ⟨q1, q2, qz⟩ | ⟨q1, q2, q3, qz⟩ | ⟨q1, q2, q3, qz⟩
            · rw [qz]; exact (iB_0.mpr (fun z => q1 z.1)).symm
            · rw [qz]; exact (iB_0.mpr (fun z => absurd z.2.1 (Int32.not_lt.mpr q2))).symm
            · rw [qz]; exact (iB_0.mpr (fun z => absurd z.2.2 (Int32.not_lt.mpr q3))).symm
            · rw [qz]; exact (iB_1.mpr ⟨q1, Int32.not_le.mp q2, Int32.not_le.mp q3⟩).symm
          refine x_topi (y := iB (md = 1 ∧ L < ltE n o W T ∧ o < L)) hzz ?_
          refine x_istore 5 [(5, .int (iB (md = 1 ∧ L < ltE n o W T ∧ o < L))), (4, .int (ltB o T i)), (3, .int (ltE n o W T)), (2, .int L), (0, .ref (g.2.1 49)), (1, .int (nI c))] dX10_layOne_82 (by decide) rfl ?_
          refine x_aload_n dX10_layOne_84 4 rfl ?_
          refine x_getI fl_X10_302 rfl rfl dX10_layOne_85 ?_
          refine x_topi (hL.2.2.1) ?_
          refine x_iconst (v := 2) dX10_layOne_88 (by decide) ?_
          have jn9 : ∀ (z8 : Int32), ((¬ md = 2 ∧ z8 = 0) ∨ (md = 2 ∧ ¬ (¬ S.2.2 6 c = 0) ∧ z8 = 0) ∨ (md = 2 ∧ (¬ S.2.2 6 c = 0) ∧ L = 0 ∧ z8 = 0) ∨ (md = 2 ∧ (¬ S.2.2 6 c = 0) ∧ ¬ L = 0 ∧ z8 = 1)) → XX g jX10_layOne Q V 109 [(5, .int (iB (md = 1 ∧ L < ltE n o W T ∧ o < L))), (4, .int (ltB o T i)), (3, .int (ltE n o W T)), (2, .int L), (0, .ref (g.2.1 49)), (1, .int (nI c))] [.int z8] := by
            intro z8 hj10
            have hzz : z8 = iB (md = 2 ∧ ¬ S.2.2 6 c = 0 ∧ ¬ L = 0) := by
              rcases hj10 with ⟨q1, qz⟩ | ⟨q1, q2, qz⟩ | ⟨q1, q2, q3, qz⟩ | ⟨q1, q2, q3, qz⟩
              · rw [qz]; exact (iB_0.mpr (fun z => q1 z.1)).symm
              · rw [qz]; exact (iB_0.mpr (fun z => q2 z.2.1)).symm
              · rw [qz]; exact (iB_0.mpr (fun z => z.2.2 q3)).symm
              · rw [qz]; exact (iB_1.mpr ⟨q1, q2, q3⟩).symm
            refine x_topi (y := iB (md = 2 ∧ ¬ S.2.2 6 c = 0 ∧ ¬ L = 0)) hzz ?_
            refine x_istore 6 [(6, .int (iB (md = 2 ∧ ¬ S.2.2 6 c = 0 ∧ ¬ L = 0))), (5, .int (iB (md = 1 ∧ L < ltE n o W T ∧ o < L))), (4, .int (ltB o T i)), (3, .int (ltE n o W T)), (2, .int L), (0, .ref (g.2.1 49)), (1, .int (nI c))] dX10_layOne_109 (by decide) rfl ?_
            refine x_aload_n dX10_layOne_111 5 rfl ?_
            refine x_getI fl_X10_296 rfl rfl dX10_layOne_112 ?_
            refine x_topi (hL.2.1) ?_
            refine x_istore 4 [(4, .int o), (6, .int (iB (md = 2 ∧ ¬ S.2.2 6 c = 0 ∧ ¬ L = 0))), (5, .int (iB (md = 1 ∧ L < ltE n o W T ∧ o < L))), (3, .int (ltE n o W T)), (2, .int L), (0, .ref (g.2.1 49)), (1, .int (nI c))] dX10_layOne_115 (by decide) rfl ?_
            refine x_iconst (v := 0) dX10_layOne_117 (by decide) ?_
            refine x_istore 7 [(7, .int 0), (4, .int o), (6, .int (iB (md = 2 ∧ ¬ S.2.2 6 c = 0 ∧ ¬ L = 0))), (5, .int (iB (md = 1 ∧ L < ltE n o W T ∧ o < L))), (3, .int (ltE n o W T)), (2, .int L), (0, .ref (g.2.1 49)), (1, .int (nI c))] dX10_layOne_118 (by decide) rfl ?_
            have lp11 : ∀ (fu1 : Nat) (i : Nat) (U : vM), (i ≤ n) → (fr71 V U) → (LRm U i (ltOne S fb n W T o md c)) → (n - i) < fu1 → XX g jX10_layOne Q U 120 [(7, .int (nI i)), (4, .int (ltB o T i)), (6, .int (iB (md = 2 ∧ ¬ S.2.2 6 c = 0 ∧ ¬ L = 0))), (5, .int (iB (md = 1 ∧ L < ltE n o W T ∧ o < L))), (3, .int (ltE n o W T)), (2, .int L), (0, .ref (g.2.1 49)), (1, .int (nI c))] [] := by
              intro fu1
              induction fu1 with
              | zero => intro _ _ _ _ _ hmz; exact absurd hmz (Nat.not_lt_zero _)
              | succ fu1 ih1 =>
                intro i U hi hfU hR hmz
                have hLU := hL.ag hfU.N
                have hF := hFV.ag (U := U) (fun a j _ q => hfU a j (by omega) (by omega))
                have hE := hEV
                rw [← hfU 65 S.2.1 (by omega) (by omega)] at hE
                refine x_iload dX10_layOne_120 0 rfl ?_
                refine x_aload_n dX10_layOne_122 6 rfl ?_
                refine x_getI fl_X10_293 rfl rfl dX10_layOne_123 ?_
                refine x_topi (hLU.1) ?_
                refine x_icmp_ge 251 dX10_layOne_126 (by decide) (fun c12 => ?_) (fun c12 => ?_)
                · have c12n : n ≤ i := (nl_le (a := n) (b := i) (rfl) (rfl) (by omega) (by omega)).mp c12
                  refine x_vret dX10_layOne_251 rfl ?_
                  rw [hQ]
                  have ei : i = n := by omega
                  subst ei
                  exact ⟨rfl, hfU, hR⟩
                · have c12n : i < n := Nat.not_le.mp (fun q => c12 ((nl_le (a := n) (b := i) (rfl) (rfl) (by omega) (by omega)).mpr q))
                  refine x_iload dX10_layOne_129 1 rfl ?_
                  refine x_aload_n dX10_layOne_131 6 rfl ?_
                  refine x_iload dX10_layOne_132 0 rfl ?_
                  refine x_callV (K := jX10_widthOf) [.int (nI i)] lk_X10_305 ⟨⟨rfl, rfl⟩, Nat.le_of_ble_eq_true rfl, Nat.le_of_ble_eq_true rfl⟩ rfl rfl (mX10_widthL U n W T o md hLU i (by omega)) rfl (Nat.le_of_ble_eq_true rfl) rfl dX10_layOne_134 (kpI ?_)
                  refine x_iconst (v := 2) dX10_layOne_137 (by decide) ?_
                  have nz13 : ¬ (2 : Int32) = 0 := by decide
                  refine x_idiv dX10_layOne_138 nz13 ?_
                  refine x_iadd dX10_layOne_139 ?_
                  refine x_istore 8 [(8, .int ((ltB o T i) + ((W i) / 2))), (7, .int (nI i)), (4, .int (ltB o T i)), (6, .int (iB (md = 2 ∧ ¬ S.2.2 6 c = 0 ∧ ¬ L = 0))), (5, .int (iB (md = 1 ∧ L < ltE n o W T ∧ o < L))), (3, .int (ltE n o W T)), (2, .int L), (0, .ref (g.2.1 49)), (1, .int (nI c))] dX10_layOne_140 (by decide) rfl ?_
                  refine x_iload dX10_layOne_142 4 rfl ?_
                  refine x_if_eq 179 dX10_layOne_144 (by decide) (fun c14 => ?_) (fun c14 => ?_)
                  · have c14n : ¬ (md = 1 ∧ L < ltE n o W T ∧ o < L) := iB_0.mp c14
                    refine x_iload dX10_layOne_179 3 rfl ?_
                    refine x_if_eq 194 dX10_layOne_181 (by decide) (fun c15 => ?_) (fun c15 => ?_)
                    · have c15n : ¬ (md = 2 ∧ ¬ S.2.2 6 c = 0 ∧ ¬ L = 0) := iB_0.mp c15
                      refine YY.L (lv' := [(8, .int (ctr (S.2.2 6 c) o md n W T L i)), (7, .int (nI i)), (4, .int (ltB o T i)), (6, .int (iB (md = 2 ∧ ¬ S.2.2 6 c = 0 ∧ ¬ L = 0))), (5, .int (iB (md = 1 ∧ L < ltE n o W T ∧ o < L))), (3, .int (ltE n o W T)), (2, .int L), (0, .ref (g.2.1 49)), (1, .int (nI c))]) (by rw [ctr_p (f := S.2.2 6 c) (o := o) (md := md) (n := n) (W := W) (T := T) (L := L) (i := i) (by assumption) (by assumption)]) ?_
                      refine x_aload_n dX10_layOne_194 7 rfl ?_
                      refine x_getR fl_X10_74 rfl rfl dX10_layOne_195 ?_
                      refine x_iload dX10_layOne_198 1 rfl ?_
                      refine x_aload_n dX10_layOne_200 7 rfl ?_
                      refine x_iload_n dX10_layOne_201 8 rfl ?_
                      refine x_callV (K := jX10_hasSegments) [.int (nI c)] lk_X10_311 ⟨⟨rfl, rfl⟩, Nat.le_of_ble_eq_true rfl, Nat.le_of_ble_eq_true rfl⟩ rfl rfl (mX10_hasSegments hF hE hG h24 h15 c (by omega)) rfl (Nat.le_of_ble_eq_true rfl) rfl dX10_layOne_202 (kpI ?_)
                      refine x_if_eq 222 dX10_layOne_205 (by decide) (fun c16 => ?_) (fun c16 => ?_)
                      · have c16n : ¬ (1 < fb (c + 1) - fb c) := iB_0.mp c16
                        refine x_ldc ct_X10_103 dX10_layOne_222 ?_
                        have b17 : vp_in (nI i) 24 := by exact vp_in_nI (by omega) (by decide)
                        refine x_iast rfl b17 dX10_layOne_224 ?_
                        refine YY.V (V' := uM U 71 i (-1000006)) (by rw [nI_clamp (by omega)]) ?_
                        obtain ⟨U18, eU18⟩ : ∃ v_v : vM, v_v = uM U 71 i (-1000006) := ⟨_, rfl⟩
                        refine YY.V eU18.symm ?_
                        refine x_aload_n dX10_layOne_225 7 rfl ?_
                        refine x_getR fl_X10_77 rfl rfl dX10_layOne_226 ?_
                        refine x_iload dX10_layOne_229 1 rfl ?_
                        refine x_iload dX10_layOne_231 0 rfl ?_
                        have b19 : vp_in (nI i) 24 := by exact vp_in_nI (by omega) (by decide)
                        refine x_iast rfl b19 dX10_layOne_233 ?_
                        refine YY.V (V' := uM U18 72 i (ctr (S.2.2 6 c) o md n W T L i)) (by rw [nI_clamp (by omega)]) ?_
                        obtain ⟨U20, eU20⟩ : ∃ v_v : vM, v_v = uM U18 72 i (ctr (S.2.2 6 c) o md n W T L i) := ⟨_, rfl⟩
                        refine YY.V eU20.symm ?_
                        have hf2 := hfU.st (show U20 = uM (uM U 71 i _) 72 i _ by rw [eU20, eU18])
                        have hL2 := hL.ag hf2.N
                        refine x_iload dX10_layOne_234 2 rfl ?_
                        refine x_aload_n dX10_layOne_236 7 rfl ?_
                        refine x_iload dX10_layOne_237 1 rfl ?_
                        refine x_callV (K := jX10_advance) [.int (nI i)] lk_X10_308 ⟨⟨rfl, rfl⟩, Nat.le_of_ble_eq_true rfl, Nat.le_of_ble_eq_true rfl⟩ rfl rfl (mX10_advL U20 n W T o md hL2 i (by omega)) rfl (Nat.le_of_ble_eq_true rfl) rfl dX10_layOne_239 (kpI ?_)
                        refine x_iadd dX10_layOne_242 ?_
                        refine x_istore 4 [(4, .int ((ltB o T i) + (T i))), (8, .int (ctr (S.2.2 6 c) o md n W T L i)), (7, .int (nI i)), (6, .int (iB (md = 2 ∧ ¬ S.2.2 6 c = 0 ∧ ¬ L = 0))), (5, .int (iB (md = 1 ∧ L < ltE n o W T ∧ o < L))), (3, .int (ltE n o W T)), (2, .int L), (0, .ref (g.2.1 49)), (1, .int (nI c))] dX10_layOne_243 (by decide) rfl ?_
                        refine x_iinc 7 (v := (nI i) + 1) 2 [(7, .int ((nI i) + 1)), (4, .int ((ltB o T i) + (T i))), (8, .int (ctr (S.2.2 6 c) o md n W T L i)), (6, .int (iB (md = 2 ∧ ¬ S.2.2 6 c = 0 ∧ ¬ L = 0))), (5, .int (iB (md = 1 ∧ L < ltE n o W T ∧ o < L))), (3, .int (ltE n o W T)), (2, .int L), (0, .ref (g.2.1 49)), (1, .int (nI c))] dX10_layOne_245 rfl (by rfl) (by decide) rfl ?_
                        refine x_goto 120 dX10_layOne_248 (by decide) ?_
                        refine x_lv [0, 1, 3, 4, 5, 6, 7, 8] rfl ?_
                        refine YY.L (lv' := [(7, .int (nI (i + 1))), (4, .int (ltB o T (i + 1))), (6, .int (iB (md = 2 ∧ ¬ S.2.2 6 c = 0 ∧ ¬ L = 0))), (5, .int (iB (md = 1 ∧ L < ltE n o W T ∧ o < L))), (3, .int (ltE n o W T)), (2, .int L), (0, .ref (g.2.1 49)), (1, .int (nI c))]) (by rw [nI_1] <;> rfl) ?_
                        exact ih1 (i + 1) U20 (by omega) (by exact hfU.st (show U20 = uM (uM U 71 i _) 72 i _ by rw [eU20, eU18])) (by exact hR.put (show U20 = uM (uM U 71 i _) 72 i _ by rw [eU20, eU18]) (by rw [eL]; rfl) (by rw [ltOne_n eL (by first | exact Or.inl (by assumption) | exact Or.inr (by assumption))]; rfl)) (by omega)
                      · have c16n : (1 < fb (c + 1) - fb c) := Classical.not_not.mp (fun q => c16 (iB_0.mpr q))
                        refine x_iload dX10_layOne_208 0 rfl ?_
                        refine x_iconst (v := 0) dX10_layOne_210 (by decide) ?_
                        refine x_iload_n dX10_layOne_211 6 rfl ?_
                        refine x_callS (K := jX10_in) [.int (ctr (S.2.2 6 c) o md n W T L i), .int 0, .int L] lk_X10_80 ⟨⟨rfl, rfl⟩, Nat.le_of_ble_eq_true rfl, Nat.le_of_ble_eq_true rfl⟩ (mX10_in U (ctr (S.2.2 6 c) o md n W T L i) 0 L) rfl (Nat.le_of_ble_eq_true rfl) rfl dX10_layOne_212 (kpI ?_)
                        refine x_if_eq 222 dX10_layOne_215 (by decide) (fun c21 => ?_) (fun c21 => ?_)
                        · have c21n : ¬ (0 ≤ (ctr (S.2.2 6 c) o md n W T L i) ∧ (ctr (S.2.2 6 c) o md n W T L i) ≤ L) := iB_0.mp c21
                          refine x_ldc ct_X10_103 dX10_layOne_222 ?_
                          have b22 : vp_in (nI i) 24 := by exact vp_in_nI (by omega) (by decide)
                          refine x_iast rfl b22 dX10_layOne_224 ?_
                          refine YY.V (V' := uM U 71 i (-1000006)) (by rw [nI_clamp (by omega)]) ?_
                          obtain ⟨U23, eU23⟩ : ∃ v_v : vM, v_v = uM U 71 i (-1000006) := ⟨_, rfl⟩
                          refine YY.V eU23.symm ?_
                          refine x_aload_n dX10_layOne_225 7 rfl ?_
                          refine x_getR fl_X10_77 rfl rfl dX10_layOne_226 ?_
                          refine x_iload dX10_layOne_229 1 rfl ?_
                          refine x_iload dX10_layOne_231 0 rfl ?_
                          have b24 : vp_in (nI i) 24 := by exact vp_in_nI (by omega) (by decide)
                          refine x_iast rfl b24 dX10_layOne_233 ?_
                          refine YY.V (V' := uM U23 72 i (ctr (S.2.2 6 c) o md n W T L i)) (by rw [nI_clamp (by omega)]) ?_
                          obtain ⟨U25, eU25⟩ : ∃ v_v : vM, v_v = uM U23 72 i (ctr (S.2.2 6 c) o md n W T L i) := ⟨_, rfl⟩
                          refine YY.V eU25.symm ?_
                          have hf2 := hfU.st (show U25 = uM (uM U 71 i _) 72 i _ by rw [eU25, eU23])
                          have hL2 := hL.ag hf2.N
                          refine x_iload dX10_layOne_234 2 rfl ?_
                          refine x_aload_n dX10_layOne_236 7 rfl ?_
                          refine x_iload dX10_layOne_237 1 rfl ?_
                          refine x_callV (K := jX10_advance) [.int (nI i)] lk_X10_308 ⟨⟨rfl, rfl⟩, Nat.le_of_ble_eq_true rfl, Nat.le_of_ble_eq_true rfl⟩ rfl rfl (mX10_advL U25 n W T o md hL2 i (by omega)) rfl (Nat.le_of_ble_eq_true rfl) rfl dX10_layOne_239 (kpI ?_)
                          refine x_iadd dX10_layOne_242 ?_
                          refine x_istore 4 [(4, .int ((ltB o T i) + (T i))), (8, .int (ctr (S.2.2 6 c) o md n W T L i)), (7, .int (nI i)), (6, .int (iB (md = 2 ∧ ¬ S.2.2 6 c = 0 ∧ ¬ L = 0))), (5, .int (iB (md = 1 ∧ L < ltE n o W T ∧ o < L))), (3, .int (ltE n o W T)), (2, .int L), (0, .ref (g.2.1 49)), (1, .int (nI c))] dX10_layOne_243 (by decide) rfl ?_
                          refine x_iinc 7 (v := (nI i) + 1) 2 [(7, .int ((nI i) + 1)), (4, .int ((ltB o T i) + (T i))), (8, .int (ctr (S.2.2 6 c) o md n W T L i)), (6, .int (iB (md = 2 ∧ ¬ S.2.2 6 c = 0 ∧ ¬ L = 0))), (5, .int (iB (md = 1 ∧ L < ltE n o W T ∧ o < L))), (3, .int (ltE n o W T)), (2, .int L), (0, .ref (g.2.1 49)), (1, .int (nI c))] dX10_layOne_245 rfl (by rfl) (by decide) rfl ?_
                          refine x_goto 120 dX10_layOne_248 (by decide) ?_
                          refine x_lv [0, 1, 3, 4, 5, 6, 7, 8] rfl ?_
                          refine YY.L (lv' := [(7, .int (nI (i + 1))), (4, .int (ltB o T (i + 1))), (6, .int (iB (md = 2 ∧ ¬ S.2.2 6 c = 0 ∧ ¬ L = 0))), (5, .int (iB (md = 1 ∧ L < ltE n o W T ∧ o < L))), (3, .int (ltE n o W T)), (2, .int L), (0, .ref (g.2.1 49)), (1, .int (nI c))]) (by rw [nI_1] <;> rfl) ?_
                          exact ih1 (i + 1) U25 (by omega) (by exact hfU.st (show U25 = uM (uM U 71 i _) 72 i _ by rw [eU25, eU23])) (by exact hR.put (show U25 = uM (uM U 71 i _) 72 i _ by rw [eU25, eU23]) (by rw [eL]; rfl) (by rw [ltOne_n eL (by first | exact Or.inl (by assumption) | exact Or.inr (by assumption))]; rfl)) (by omega)
                        · have c21n : (0 ≤ (ctr (S.2.2 6 c) o md n W T L i) ∧ (ctr (S.2.2 6 c) o md n W T L i) ≤ L) := Classical.not_not.mp (fun q => c21 (iB_0.mpr q))
                          refine x_iload_n dX10_layOne_218 8 rfl ?_
                          refine x_goto 224 dX10_layOne_219 (by decide) ?_
                          have b26 : vp_in (nI i) 24 := by exact vp_in_nI (by omega) (by decide)
                          refine x_iast rfl b26 dX10_layOne_224 ?_
                          refine YY.V (V' := uM U 71 i (nI c)) (by rw [nI_clamp (by omega)]) ?_
                          obtain ⟨U27, eU27⟩ : ∃ v_v : vM, v_v = uM U 71 i (nI c) := ⟨_, rfl⟩
                          refine YY.V eU27.symm ?_
                          refine x_aload_n dX10_layOne_225 7 rfl ?_
                          refine x_getR fl_X10_77 rfl rfl dX10_layOne_226 ?_
                          refine x_iload dX10_layOne_229 1 rfl ?_
                          refine x_iload dX10_layOne_231 0 rfl ?_
                          have b28 : vp_in (nI i) 24 := by exact vp_in_nI (by omega) (by decide)
                          refine x_iast rfl b28 dX10_layOne_233 ?_
                          refine YY.V (V' := uM U27 72 i (ctr (S.2.2 6 c) o md n W T L i)) (by rw [nI_clamp (by omega)]) ?_
                          obtain ⟨U29, eU29⟩ : ∃ v_v : vM, v_v = uM U27 72 i (ctr (S.2.2 6 c) o md n W T L i) := ⟨_, rfl⟩
                          refine YY.V eU29.symm ?_
                          have hf2 := hfU.st (show U29 = uM (uM U 71 i _) 72 i _ by rw [eU29, eU27])
                          have hL2 := hL.ag hf2.N
                          refine x_iload dX10_layOne_234 2 rfl ?_
                          refine x_aload_n dX10_layOne_236 7 rfl ?_
                          refine x_iload dX10_layOne_237 1 rfl ?_
                          refine x_callV (K := jX10_advance) [.int (nI i)] lk_X10_308 ⟨⟨rfl, rfl⟩, Nat.le_of_ble_eq_true rfl, Nat.le_of_ble_eq_true rfl⟩ rfl rfl (mX10_advL U29 n W T o md hL2 i (by omega)) rfl (Nat.le_of_ble_eq_true rfl) rfl dX10_layOne_239 (kpI ?_)
                          refine x_iadd dX10_layOne_242 ?_
                          refine x_istore 4 [(4, .int ((ltB o T i) + (T i))), (8, .int (ctr (S.2.2 6 c) o md n W T L i)), (7, .int (nI i)), (6, .int (iB (md = 2 ∧ ¬ S.2.2 6 c = 0 ∧ ¬ L = 0))), (5, .int (iB (md = 1 ∧ L < ltE n o W T ∧ o < L))), (3, .int (ltE n o W T)), (2, .int L), (0, .ref (g.2.1 49)), (1, .int (nI c))] dX10_layOne_243 (by decide) rfl ?_
                          refine x_iinc 7 (v := (nI i) + 1) 2 [(7, .int ((nI i) + 1)), (4, .int ((ltB o T i) + (T i))), (8, .int (ctr (S.2.2 6 c) o md n W T L i)), (6, .int (iB (md = 2 ∧ ¬ S.2.2 6 c = 0 ∧ ¬ L = 0))), (5, .int (iB (md = 1 ∧ L < ltE n o W T ∧ o < L))), (3, .int (ltE n o W T)), (2, .int L), (0, .ref (g.2.1 49)), (1, .int (nI c))] dX10_layOne_245 rfl (by rfl) (by decide) rfl ?_
                          refine x_goto 120 dX10_layOne_248 (by decide) ?_
                          refine x_lv [0, 1, 3, 4, 5, 6, 7, 8] rfl ?_
                          refine YY.L (lv' := [(7, .int (nI (i + 1))), (4, .int (ltB o T (i + 1))), (6, .int (iB (md = 2 ∧ ¬ S.2.2 6 c = 0 ∧ ¬ L = 0))), (5, .int (iB (md = 1 ∧ L < ltE n o W T ∧ o < L))), (3, .int (ltE n o W T)), (2, .int L), (0, .ref (g.2.1 49)), (1, .int (nI c))]) (by rw [nI_1] <;> rfl) ?_
                          exact ih1 (i + 1) U29 (by omega) (by exact hfU.st (show U29 = uM (uM U 71 i _) 72 i _ by rw [eU29, eU27])) (by exact hR.put (show U29 = uM (uM U 71 i _) 72 i _ by rw [eU29, eU27]) (by rw [eL]; rfl) (by rw [ltOne_y eL (by assumption) (by assumption)]; rfl)) (by omega)
                    · have c15n : (md = 2 ∧ ¬ S.2.2 6 c = 0 ∧ ¬ L = 0) := Classical.not_not.mp (fun q => c15 (iB_0.mpr q))
                      refine x_iload dX10_layOne_184 0 rfl ?_
                      refine x_iload_n dX10_layOne_186 6 rfl ?_
                      have nz30 : ¬ (L : Int32) = 0 := by exact (show md = 2 ∧ ¬ S.2.2 6 c = 0 ∧ ¬ L = 0 by assumption).2.2
                      refine x_irem dX10_layOne_187 nz30 ?_
                      refine x_iload_n dX10_layOne_188 6 rfl ?_
                      refine x_iadd dX10_layOne_189 ?_
                      refine x_iload_n dX10_layOne_190 6 rfl ?_
                      have nz31 : ¬ (L : Int32) = 0 := by exact (show md = 2 ∧ ¬ S.2.2 6 c = 0 ∧ ¬ L = 0 by assumption).2.2
                      refine x_irem dX10_layOne_191 nz31 ?_
                      refine x_topi (y := modI (ltB o T i + W i / 2) L) (fm_mod (by have q := (show md = 2 ∧ ¬ S.2.2 6 c = 0 ∧ ¬ L = 0 by assumption).2.2; rcases Int.lt_or_le 0 L.toInt with z | z; exact z; exact absurd (Int32.toInt_inj.mp (show L.toInt = (0 : Int32).toInt by show L.toInt = 0; omega)) q) hlb.2) ?_
                      refine x_istore 8 [(8, .int (modI (ltB o T i + W i / 2) L)), (7, .int (nI i)), (4, .int (ltB o T i)), (6, .int (iB (md = 2 ∧ ¬ S.2.2 6 c = 0 ∧ ¬ L = 0))), (5, .int (iB (md = 1 ∧ L < ltE n o W T ∧ o < L))), (3, .int (ltE n o W T)), (2, .int L), (0, .ref (g.2.1 49)), (1, .int (nI c))] dX10_layOne_192 (by decide) rfl ?_
                      refine YY.L (lv' := [(8, .int (ctr (S.2.2 6 c) o md n W T L i)), (7, .int (nI i)), (4, .int (ltB o T i)), (6, .int (iB (md = 2 ∧ ¬ S.2.2 6 c = 0 ∧ ¬ L = 0))), (5, .int (iB (md = 1 ∧ L < ltE n o W T ∧ o < L))), (3, .int (ltE n o W T)), (2, .int L), (0, .ref (g.2.1 49)), (1, .int (nI c))]) (by rw [ctr_r (f := S.2.2 6 c) (o := o) (md := md) (n := n) (W := W) (T := T) (L := L) (i := i) (by assumption)]) ?_
                      refine x_aload_n dX10_layOne_194 7 rfl ?_
                      refine x_getR fl_X10_74 rfl rfl dX10_layOne_195 ?_
                      refine x_iload dX10_layOne_198 1 rfl ?_
                      refine x_aload_n dX10_layOne_200 7 rfl ?_
                      refine x_iload_n dX10_layOne_201 8 rfl ?_
                      refine x_callV (K := jX10_hasSegments) [.int (nI c)] lk_X10_311 ⟨⟨rfl, rfl⟩, Nat.le_of_ble_eq_true rfl, Nat.le_of_ble_eq_true rfl⟩ rfl rfl (mX10_hasSegments hF hE hG h24 h15 c (by omega)) rfl (Nat.le_of_ble_eq_true rfl) rfl dX10_layOne_202 (kpI ?_)
                      refine x_if_eq 222 dX10_layOne_205 (by decide) (fun c32 => ?_) (fun c32 => ?_)
                      · have c32n : ¬ (1 < fb (c + 1) - fb c) := iB_0.mp c32
                        refine x_ldc ct_X10_103 dX10_layOne_222 ?_
                        have b33 : vp_in (nI i) 24 := by exact vp_in_nI (by omega) (by decide)
                        refine x_iast rfl b33 dX10_layOne_224 ?_
                        refine YY.V (V' := uM U 71 i (-1000006)) (by rw [nI_clamp (by omega)]) ?_
                        obtain ⟨U34, eU34⟩ : ∃ v_v : vM, v_v = uM U 71 i (-1000006) := ⟨_, rfl⟩
                        refine YY.V eU34.symm ?_
                        refine x_aload_n dX10_layOne_225 7 rfl ?_
                        refine x_getR fl_X10_77 rfl rfl dX10_layOne_226 ?_
                        refine x_iload dX10_layOne_229 1 rfl ?_
                        refine x_iload dX10_layOne_231 0 rfl ?_
                        have b35 : vp_in (nI i) 24 := by exact vp_in_nI (by omega) (by decide)
                        refine x_iast rfl b35 dX10_layOne_233 ?_
                        refine YY.V (V' := uM U34 72 i (ctr (S.2.2 6 c) o md n W T L i)) (by rw [nI_clamp (by omega)]) ?_
                        obtain ⟨U36, eU36⟩ : ∃ v_v : vM, v_v = uM U34 72 i (ctr (S.2.2 6 c) o md n W T L i) := ⟨_, rfl⟩
                        refine YY.V eU36.symm ?_
                        have hf2 := hfU.st (show U36 = uM (uM U 71 i _) 72 i _ by rw [eU36, eU34])
                        have hL2 := hL.ag hf2.N
                        refine x_iload dX10_layOne_234 2 rfl ?_
                        refine x_aload_n dX10_layOne_236 7 rfl ?_
                        refine x_iload dX10_layOne_237 1 rfl ?_
                        refine x_callV (K := jX10_advance) [.int (nI i)] lk_X10_308 ⟨⟨rfl, rfl⟩, Nat.le_of_ble_eq_true rfl, Nat.le_of_ble_eq_true rfl⟩ rfl rfl (mX10_advL U36 n W T o md hL2 i (by omega)) rfl (Nat.le_of_ble_eq_true rfl) rfl dX10_layOne_239 (kpI ?_)
                        refine x_iadd dX10_layOne_242 ?_
                        refine x_istore 4 [(4, .int ((ltB o T i) + (T i))), (8, .int (ctr (S.2.2 6 c) o md n W T L i)), (7, .int (nI i)), (6, .int (iB (md = 2 ∧ ¬ S.2.2 6 c = 0 ∧ ¬ L = 0))), (5, .int (iB (md = 1 ∧ L < ltE n o W T ∧ o < L))), (3, .int (ltE n o W T)), (2, .int L), (0, .ref (g.2.1 49)), (1, .int (nI c))] dX10_layOne_243 (by decide) rfl ?_
                        refine x_iinc 7 (v := (nI i) + 1) 2 [(7, .int ((nI i) + 1)), (4, .int ((ltB o T i) + (T i))), (8, .int (ctr (S.2.2 6 c) o md n W T L i)), (6, .int (iB (md = 2 ∧ ¬ S.2.2 6 c = 0 ∧ ¬ L = 0))), (5, .int (iB (md = 1 ∧ L < ltE n o W T ∧ o < L))), (3, .int (ltE n o W T)), (2, .int L), (0, .ref (g.2.1 49)), (1, .int (nI c))] dX10_layOne_245 rfl (by rfl) (by decide) rfl ?_
                        refine x_goto 120 dX10_layOne_248 (by decide) ?_
                        refine x_lv [0, 1, 3, 4, 5, 6, 7, 8] rfl ?_
                        refine YY.L (lv' := [(7, .int (nI (i + 1))), (4, .int (ltB o T (i + 1))), (6, .int (iB (md = 2 ∧ ¬ S.2.2 6 c = 0 ∧ ¬ L = 0))), (5, .int (iB (md = 1 ∧ L < ltE n o W T ∧ o < L))), (3, .int (ltE n o W T)), (2, .int L), (0, .ref (g.2.1 49)), (1, .int (nI c))]) (by rw [nI_1] <;> rfl) ?_
                        exact ih1 (i + 1) U36 (by omega) (by exact hfU.st (show U36 = uM (uM U 71 i _) 72 i _ by rw [eU36, eU34])) (by exact hR.put (show U36 = uM (uM U 71 i _) 72 i _ by rw [eU36, eU34]) (by rw [eL]; rfl) (by rw [ltOne_n eL (by first | exact Or.inl (by assumption) | exact Or.inr (by assumption))]; rfl)) (by omega)
                      · have c32n : (1 < fb (c + 1) - fb c) := Classical.not_not.mp (fun q => c32 (iB_0.mpr q))
                        refine x_iload dX10_layOne_208 0 rfl ?_
                        refine x_iconst (v := 0) dX10_layOne_210 (by decide) ?_
                        refine x_iload_n dX10_layOne_211 6 rfl ?_
                        refine x_callS (K := jX10_in) [.int (ctr (S.2.2 6 c) o md n W T L i), .int 0, .int L] lk_X10_80 ⟨⟨rfl, rfl⟩, Nat.le_of_ble_eq_true rfl, Nat.le_of_ble_eq_true rfl⟩ (mX10_in U (ctr (S.2.2 6 c) o md n W T L i) 0 L) rfl (Nat.le_of_ble_eq_true rfl) rfl dX10_layOne_212 (kpI ?_)
                        refine x_if_eq 222 dX10_layOne_215 (by decide) (fun c37 => ?_) (fun c37 => ?_)
                        · have c37n : ¬ (0 ≤ (ctr (S.2.2 6 c) o md n W T L i) ∧ (ctr (S.2.2 6 c) o md n W T L i) ≤ L) := iB_0.mp c37
                          refine x_ldc ct_X10_103 dX10_layOne_222 ?_
                          have b38 : vp_in (nI i) 24 := by exact vp_in_nI (by omega) (by decide)
                          refine x_iast rfl b38 dX10_layOne_224 ?_
                          refine YY.V (V' := uM U 71 i (-1000006)) (by rw [nI_clamp (by omega)]) ?_
                          obtain ⟨U39, eU39⟩ : ∃ v_v : vM, v_v = uM U 71 i (-1000006) := ⟨_, rfl⟩
                          refine YY.V eU39.symm ?_
                          refine x_aload_n dX10_layOne_225 7 rfl ?_
                          refine x_getR fl_X10_77 rfl rfl dX10_layOne_226 ?_
                          refine x_iload dX10_layOne_229 1 rfl ?_
                          refine x_iload dX10_layOne_231 0 rfl ?_
                          have b40 : vp_in (nI i) 24 := by exact vp_in_nI (by omega) (by decide)
                          refine x_iast rfl b40 dX10_layOne_233 ?_
                          refine YY.V (V' := uM U39 72 i (ctr (S.2.2 6 c) o md n W T L i)) (by rw [nI_clamp (by omega)]) ?_
                          obtain ⟨U41, eU41⟩ : ∃ v_v : vM, v_v = uM U39 72 i (ctr (S.2.2 6 c) o md n W T L i) := ⟨_, rfl⟩
                          refine YY.V eU41.symm ?_
                          have hf2 := hfU.st (show U41 = uM (uM U 71 i _) 72 i _ by rw [eU41, eU39])
                          have hL2 := hL.ag hf2.N
                          refine x_iload dX10_layOne_234 2 rfl ?_
                          refine x_aload_n dX10_layOne_236 7 rfl ?_
                          refine x_iload dX10_layOne_237 1 rfl ?_
                          refine x_callV (K := jX10_advance) [.int (nI i)] lk_X10_308 ⟨⟨rfl, rfl⟩, Nat.le_of_ble_eq_true rfl, Nat.le_of_ble_eq_true rfl⟩ rfl rfl (mX10_advL U41 n W T o md hL2 i (by omega)) rfl (Nat.le_of_ble_eq_true rfl) rfl dX10_layOne_239 (kpI ?_)
                          refine x_iadd dX10_layOne_242 ?_
                          refine x_istore 4 [(4, .int ((ltB o T i) + (T i))), (8, .int (ctr (S.2.2 6 c) o md n W T L i)), (7, .int (nI i)), (6, .int (iB (md = 2 ∧ ¬ S.2.2 6 c = 0 ∧ ¬ L = 0))), (5, .int (iB (md = 1 ∧ L < ltE n o W T ∧ o < L))), (3, .int (ltE n o W T)), (2, .int L), (0, .ref (g.2.1 49)), (1, .int (nI c))] dX10_layOne_243 (by decide) rfl ?_
                          refine x_iinc 7 (v := (nI i) + 1) 2 [(7, .int ((nI i) + 1)), (4, .int ((ltB o T i) + (T i))), (8, .int (ctr (S.2.2 6 c) o md n W T L i)), (6, .int (iB (md = 2 ∧ ¬ S.2.2 6 c = 0 ∧ ¬ L = 0))), (5, .int (iB (md = 1 ∧ L < ltE n o W T ∧ o < L))), (3, .int (ltE n o W T)), (2, .int L), (0, .ref (g.2.1 49)), (1, .int (nI c))] dX10_layOne_245 rfl (by rfl) (by decide) rfl ?_
                          refine x_goto 120 dX10_layOne_248 (by decide) ?_
                          refine x_lv [0, 1, 3, 4, 5, 6, 7, 8] rfl ?_
                          refine YY.L (lv' := [(7, .int (nI (i + 1))), (4, .int (ltB o T (i + 1))), (6, .int (iB (md = 2 ∧ ¬ S.2.2 6 c = 0 ∧ ¬ L = 0))), (5, .int (iB (md = 1 ∧ L < ltE n o W T ∧ o < L))), (3, .int (ltE n o W T)), (2, .int L), (0, .ref (g.2.1 49)), (1, .int (nI c))]) (by rw [nI_1] <;> rfl) ?_
                          exact ih1 (i + 1) U41 (by omega) (by exact hfU.st (show U41 = uM (uM U 71 i _) 72 i _ by rw [eU41, eU39])) (by exact hR.put (show U41 = uM (uM U 71 i _) 72 i _ by rw [eU41, eU39]) (by rw [eL]; rfl) (by rw [ltOne_n eL (by first | exact Or.inl (by assumption) | exact Or.inr (by assumption))]; rfl)) (by omega)
                        · have c37n : (0 ≤ (ctr (S.2.2 6 c) o md n W T L i) ∧ (ctr (S.2.2 6 c) o md n W T L i) ≤ L) := Classical.not_not.mp (fun q => c37 (iB_0.mpr q))
                          refine x_iload_n dX10_layOne_218 8 rfl ?_
                          refine x_goto 224 dX10_layOne_219 (by decide) ?_
                          have b42 : vp_in (nI i) 24 := by exact vp_in_nI (by omega) (by decide)
                          refine x_iast rfl b42 dX10_layOne_224 ?_
                          refine YY.V (V' := uM U 71 i (nI c)) (by rw [nI_clamp (by omega)]) ?_
                          obtain ⟨U43, eU43⟩ : ∃ v_v : vM, v_v = uM U 71 i (nI c) := ⟨_, rfl⟩
                          refine YY.V eU43.symm ?_
                          refine x_aload_n dX10_layOne_225 7 rfl ?_
                          refine x_getR fl_X10_77 rfl rfl dX10_layOne_226 ?_
                          refine x_iload dX10_layOne_229 1 rfl ?_
                          refine x_iload dX10_layOne_231 0 rfl ?_
                          have b44 : vp_in (nI i) 24 := by exact vp_in_nI (by omega) (by decide)
                          refine x_iast rfl b44 dX10_layOne_233 ?_
                          refine YY.V (V' := uM U43 72 i (ctr (S.2.2 6 c) o md n W T L i)) (by rw [nI_clamp (by omega)]) ?_
                          obtain ⟨U45, eU45⟩ : ∃ v_v : vM, v_v = uM U43 72 i (ctr (S.2.2 6 c) o md n W T L i) := ⟨_, rfl⟩
                          refine YY.V eU45.symm ?_
                          have hf2 := hfU.st (show U45 = uM (uM U 71 i _) 72 i _ by rw [eU45, eU43])
                          have hL2 := hL.ag hf2.N
                          refine x_iload dX10_layOne_234 2 rfl ?_
                          refine x_aload_n dX10_layOne_236 7 rfl ?_
                          refine x_iload dX10_layOne_237 1 rfl ?_
                          refine x_callV (K := jX10_advance) [.int (nI i)] lk_X10_308 ⟨⟨rfl, rfl⟩, Nat.le_of_ble_eq_true rfl, Nat.le_of_ble_eq_true rfl⟩ rfl rfl (mX10_advL U45 n W T o md hL2 i (by omega)) rfl (Nat.le_of_ble_eq_true rfl) rfl dX10_layOne_239 (kpI ?_)
                          refine x_iadd dX10_layOne_242 ?_
                          refine x_istore 4 [(4, .int ((ltB o T i) + (T i))), (8, .int (ctr (S.2.2 6 c) o md n W T L i)), (7, .int (nI i)), (6, .int (iB (md = 2 ∧ ¬ S.2.2 6 c = 0 ∧ ¬ L = 0))), (5, .int (iB (md = 1 ∧ L < ltE n o W T ∧ o < L))), (3, .int (ltE n o W T)), (2, .int L), (0, .ref (g.2.1 49)), (1, .int (nI c))] dX10_layOne_243 (by decide) rfl ?_
                          refine x_iinc 7 (v := (nI i) + 1) 2 [(7, .int ((nI i) + 1)), (4, .int ((ltB o T i) + (T i))), (8, .int (ctr (S.2.2 6 c) o md n W T L i)), (6, .int (iB (md = 2 ∧ ¬ S.2.2 6 c = 0 ∧ ¬ L = 0))), (5, .int (iB (md = 1 ∧ L < ltE n o W T ∧ o < L))), (3, .int (ltE n o W T)), (2, .int L), (0, .ref (g.2.1 49)), (1, .int (nI c))] dX10_layOne_245 rfl (by rfl) (by decide) rfl ?_
                          refine x_goto 120 dX10_layOne_248 (by decide) ?_
                          refine x_lv [0, 1, 3, 4, 5, 6, 7, 8] rfl ?_
                          refine YY.L (lv' := [(7, .int (nI (i + 1))), (4, .int (ltB o T (i + 1))), (6, .int (iB (md = 2 ∧ ¬ S.2.2 6 c = 0 ∧ ¬ L = 0))), (5, .int (iB (md = 1 ∧ L < ltE n o W T ∧ o < L))), (3, .int (ltE n o W T)), (2, .int L), (0, .ref (g.2.1 49)), (1, .int (nI c))]) (by rw [nI_1] <;> rfl) ?_
                          exact ih1 (i + 1) U45 (by omega) (by exact hfU.st (show U45 = uM (uM U 71 i _) 72 i _ by rw [eU45, eU43])) (by exact hR.put (show U45 = uM (uM U 71 i _) 72 i _ by rw [eU45, eU43]) (by rw [eL]; rfl) (by rw [ltOne_y eL (by assumption) (by assumption)]; rfl)) (by omega)
                  · have c14n : (md = 1 ∧ L < ltE n o W T ∧ o < L) := Classical.not_not.mp (fun q => c14 (iB_0.mpr q))
                    refine x_aload_n dX10_layOne_147 7 rfl ?_
                    refine x_getI fl_X10_296 rfl rfl dX10_layOne_148 ?_
                    refine x_topi (hLU.2.1) ?_
                    refine x_iload dX10_layOne_151 0 rfl ?_
                    refine x_aload_n dX10_layOne_153 7 rfl ?_
                    refine x_getI fl_X10_296 rfl rfl dX10_layOne_154 ?_
                    refine x_topi (hLU.2.1) ?_
                    refine x_isub dX10_layOne_157 ?_
                    refine x_i2l dX10_layOne_158 ?_
                    refine x_iload_n dX10_layOne_159 6 rfl ?_
                    refine x_aload_n dX10_layOne_160 7 rfl ?_
                    refine x_getI fl_X10_296 rfl rfl dX10_layOne_161 ?_
                    refine x_topi (hLU.2.1) ?_
                    refine x_isub dX10_layOne_164 ?_
                    refine x_i2l dX10_layOne_165 ?_
                    refine x_lmul dX10_layOne_166 ?_
                    refine x_iload_n dX10_layOne_167 5 rfl ?_
                    refine x_aload_n dX10_layOne_168 7 rfl ?_
                    refine x_getI fl_X10_296 rfl rfl dX10_layOne_169 ?_
                    refine x_topi (hLU.2.1) ?_
                    refine x_isub dX10_layOne_172 ?_
                    refine x_i2l dX10_layOne_173 ?_
                    have nz46 : ¬ (((ltE n o W T) - o).toInt64 : Int64) = 0 := by intro z; have q := i64z z; have p := lt_pos hLB (show md = 1 ∧ L < ltE n o W T ∧ o < L by assumption).2.1 (show md = 1 ∧ L < ltE n o W T ∧ o < L by assumption).2.2; rw [q] at p; exact absurd p (by decide)
                    refine x_ldiv dX10_layOne_174 nz46 ?_
                    refine x_l2i dX10_layOne_175 ?_
                    refine x_iadd dX10_layOne_176 ?_
                    refine x_topi (y := ltQ o L (ltE n o W T) (ltB o T i + W i / 2)) rfl ?_
                    refine x_istore 8 [(8, .int (ltQ o L (ltE n o W T) (ltB o T i + W i / 2))), (7, .int (nI i)), (4, .int (ltB o T i)), (6, .int (iB (md = 2 ∧ ¬ S.2.2 6 c = 0 ∧ ¬ L = 0))), (5, .int (iB (md = 1 ∧ L < ltE n o W T ∧ o < L))), (3, .int (ltE n o W T)), (2, .int L), (0, .ref (g.2.1 49)), (1, .int (nI c))] dX10_layOne_177 (by decide) rfl ?_
                    refine x_iload dX10_layOne_179 3 rfl ?_
                    refine x_if_eq 194 dX10_layOne_181 (by decide) (fun c47 => ?_) (fun c47 => by exfalso; have z := Classical.not_not.mp (fun q => c47 (iB_0.mpr q)); have y := (show md = 1 ∧ L < ltE n o W T ∧ o < L by assumption).1; rw [y] at z; exact absurd z.1 (by decide))
                    refine YY.L (lv' := [(8, .int (ctr (S.2.2 6 c) o md n W T L i)), (7, .int (nI i)), (4, .int (ltB o T i)), (6, .int (iB (md = 2 ∧ ¬ S.2.2 6 c = 0 ∧ ¬ L = 0))), (5, .int (iB (md = 1 ∧ L < ltE n o W T ∧ o < L))), (3, .int (ltE n o W T)), (2, .int L), (0, .ref (g.2.1 49)), (1, .int (nI c))]) (by rw [ctr_q (f := S.2.2 6 c) (o := o) (md := md) (n := n) (W := W) (T := T) (L := L) (i := i) (by first | assumption | exact iB_0.mp (by assumption)) (by assumption)]) ?_
                    refine x_aload_n dX10_layOne_194 7 rfl ?_
                    refine x_getR fl_X10_74 rfl rfl dX10_layOne_195 ?_
                    refine x_iload dX10_layOne_198 1 rfl ?_
                    refine x_aload_n dX10_layOne_200 7 rfl ?_
                    refine x_iload_n dX10_layOne_201 8 rfl ?_
                    refine x_callV (K := jX10_hasSegments) [.int (nI c)] lk_X10_311 ⟨⟨rfl, rfl⟩, Nat.le_of_ble_eq_true rfl, Nat.le_of_ble_eq_true rfl⟩ rfl rfl (mX10_hasSegments hF hE hG h24 h15 c (by omega)) rfl (Nat.le_of_ble_eq_true rfl) rfl dX10_layOne_202 (kpI ?_)
                    refine x_if_eq 222 dX10_layOne_205 (by decide) (fun c48 => ?_) (fun c48 => ?_)
                    · have c48n : ¬ (1 < fb (c + 1) - fb c) := iB_0.mp c48
                      refine x_ldc ct_X10_103 dX10_layOne_222 ?_
                      have b49 : vp_in (nI i) 24 := by exact vp_in_nI (by omega) (by decide)
                      refine x_iast rfl b49 dX10_layOne_224 ?_
                      refine YY.V (V' := uM U 71 i (-1000006)) (by rw [nI_clamp (by omega)]) ?_
                      obtain ⟨U50, eU50⟩ : ∃ v_v : vM, v_v = uM U 71 i (-1000006) := ⟨_, rfl⟩
                      refine YY.V eU50.symm ?_
                      refine x_aload_n dX10_layOne_225 7 rfl ?_
                      refine x_getR fl_X10_77 rfl rfl dX10_layOne_226 ?_
                      refine x_iload dX10_layOne_229 1 rfl ?_
                      refine x_iload dX10_layOne_231 0 rfl ?_
                      have b51 : vp_in (nI i) 24 := by exact vp_in_nI (by omega) (by decide)
                      refine x_iast rfl b51 dX10_layOne_233 ?_
                      refine YY.V (V' := uM U50 72 i (ctr (S.2.2 6 c) o md n W T L i)) (by rw [nI_clamp (by omega)]) ?_
                      obtain ⟨U52, eU52⟩ : ∃ v_v : vM, v_v = uM U50 72 i (ctr (S.2.2 6 c) o md n W T L i) := ⟨_, rfl⟩
                      refine YY.V eU52.symm ?_
                      have hf2 := hfU.st (show U52 = uM (uM U 71 i _) 72 i _ by rw [eU52, eU50])
                      have hL2 := hL.ag hf2.N
                      refine x_iload dX10_layOne_234 2 rfl ?_
                      refine x_aload_n dX10_layOne_236 7 rfl ?_
                      refine x_iload dX10_layOne_237 1 rfl ?_
                      refine x_callV (K := jX10_advance) [.int (nI i)] lk_X10_308 ⟨⟨rfl, rfl⟩, Nat.le_of_ble_eq_true rfl, Nat.le_of_ble_eq_true rfl⟩ rfl rfl (mX10_advL U52 n W T o md hL2 i (by omega)) rfl (Nat.le_of_ble_eq_true rfl) rfl dX10_layOne_239 (kpI ?_)
                      refine x_iadd dX10_layOne_242 ?_
                      refine x_istore 4 [(4, .int ((ltB o T i) + (T i))), (8, .int (ctr (S.2.2 6 c) o md n W T L i)), (7, .int (nI i)), (6, .int (iB (md = 2 ∧ ¬ S.2.2 6 c = 0 ∧ ¬ L = 0))), (5, .int (iB (md = 1 ∧ L < ltE n o W T ∧ o < L))), (3, .int (ltE n o W T)), (2, .int L), (0, .ref (g.2.1 49)), (1, .int (nI c))] dX10_layOne_243 (by decide) rfl ?_
                      refine x_iinc 7 (v := (nI i) + 1) 2 [(7, .int ((nI i) + 1)), (4, .int ((ltB o T i) + (T i))), (8, .int (ctr (S.2.2 6 c) o md n W T L i)), (6, .int (iB (md = 2 ∧ ¬ S.2.2 6 c = 0 ∧ ¬ L = 0))), (5, .int (iB (md = 1 ∧ L < ltE n o W T ∧ o < L))), (3, .int (ltE n o W T)), (2, .int L), (0, .ref (g.2.1 49)), (1, .int (nI c))] dX10_layOne_245 rfl (by rfl) (by decide) rfl ?_
                      refine x_goto 120 dX10_layOne_248 (by decide) ?_
                      refine x_lv [0, 1, 3, 4, 5, 6, 7, 8] rfl ?_
                      refine YY.L (lv' := [(7, .int (nI (i + 1))), (4, .int (ltB o T (i + 1))), (6, .int (iB (md = 2 ∧ ¬ S.2.2 6 c = 0 ∧ ¬ L = 0))), (5, .int (iB (md = 1 ∧ L < ltE n o W T ∧ o < L))), (3, .int (ltE n o W T)), (2, .int L), (0, .ref (g.2.1 49)), (1, .int (nI c))]) (by rw [nI_1] <;> rfl) ?_
                      exact ih1 (i + 1) U52 (by omega) (by exact hfU.st (show U52 = uM (uM U 71 i _) 72 i _ by rw [eU52, eU50])) (by exact hR.put (show U52 = uM (uM U 71 i _) 72 i _ by rw [eU52, eU50]) (by rw [eL]; rfl) (by rw [ltOne_n eL (by first | exact Or.inl (by assumption) | exact Or.inr (by assumption))]; rfl)) (by omega)
                    · have c48n : (1 < fb (c + 1) - fb c) := Classical.not_not.mp (fun q => c48 (iB_0.mpr q))
                      refine x_iload dX10_layOne_208 0 rfl ?_
                      refine x_iconst (v := 0) dX10_layOne_210 (by decide) ?_
                      refine x_iload_n dX10_layOne_211 6 rfl ?_
                      refine x_callS (K := jX10_in) [.int (ctr (S.2.2 6 c) o md n W T L i), .int 0, .int L] lk_X10_80 ⟨⟨rfl, rfl⟩, Nat.le_of_ble_eq_true rfl, Nat.le_of_ble_eq_true rfl⟩ (mX10_in U (ctr (S.2.2 6 c) o md n W T L i) 0 L) rfl (Nat.le_of_ble_eq_true rfl) rfl dX10_layOne_212 (kpI ?_)
                      refine x_if_eq 222 dX10_layOne_215 (by decide) (fun c53 => ?_) (fun c53 => ?_)
                      · have c53n : ¬ (0 ≤ (ctr (S.2.2 6 c) o md n W T L i) ∧ (ctr (S.2.2 6 c) o md n W T L i) ≤ L) := iB_0.mp c53
                        refine x_ldc ct_X10_103 dX10_layOne_222 ?_
                        have b54 : vp_in (nI i) 24 := by exact vp_in_nI (by omega) (by decide)
                        refine x_iast rfl b54 dX10_layOne_224 ?_
                        refine YY.V (V' := uM U 71 i (-1000006)) (by rw [nI_clamp (by omega)]) ?_
                        obtain ⟨U55, eU55⟩ : ∃ v_v : vM, v_v = uM U 71 i (-1000006) := ⟨_, rfl⟩
                        refine YY.V eU55.symm ?_
                        refine x_aload_n dX10_layOne_225 7 rfl ?_
                        refine x_getR fl_X10_77 rfl rfl dX10_layOne_226 ?_
                        refine x_iload dX10_layOne_229 1 rfl ?_
                        refine x_iload dX10_layOne_231 0 rfl ?_
                        have b56 : vp_in (nI i) 24 := by exact vp_in_nI (by omega) (by decide)
                        refine x_iast rfl b56 dX10_layOne_233 ?_
                        refine YY.V (V' := uM U55 72 i (ctr (S.2.2 6 c) o md n W T L i)) (by rw [nI_clamp (by omega)]) ?_
                        obtain ⟨U57, eU57⟩ : ∃ v_v : vM, v_v = uM U55 72 i (ctr (S.2.2 6 c) o md n W T L i) := ⟨_, rfl⟩
                        refine YY.V eU57.symm ?_
                        have hf2 := hfU.st (show U57 = uM (uM U 71 i _) 72 i _ by rw [eU57, eU55])
                        have hL2 := hL.ag hf2.N
                        refine x_iload dX10_layOne_234 2 rfl ?_
                        refine x_aload_n dX10_layOne_236 7 rfl ?_
                        refine x_iload dX10_layOne_237 1 rfl ?_
                        refine x_callV (K := jX10_advance) [.int (nI i)] lk_X10_308 ⟨⟨rfl, rfl⟩, Nat.le_of_ble_eq_true rfl, Nat.le_of_ble_eq_true rfl⟩ rfl rfl (mX10_advL U57 n W T o md hL2 i (by omega)) rfl (Nat.le_of_ble_eq_true rfl) rfl dX10_layOne_239 (kpI ?_)
                        refine x_iadd dX10_layOne_242 ?_
                        refine x_istore 4 [(4, .int ((ltB o T i) + (T i))), (8, .int (ctr (S.2.2 6 c) o md n W T L i)), (7, .int (nI i)), (6, .int (iB (md = 2 ∧ ¬ S.2.2 6 c = 0 ∧ ¬ L = 0))), (5, .int (iB (md = 1 ∧ L < ltE n o W T ∧ o < L))), (3, .int (ltE n o W T)), (2, .int L), (0, .ref (g.2.1 49)), (1, .int (nI c))] dX10_layOne_243 (by decide) rfl ?_
                        refine x_iinc 7 (v := (nI i) + 1) 2 [(7, .int ((nI i) + 1)), (4, .int ((ltB o T i) + (T i))), (8, .int (ctr (S.2.2 6 c) o md n W T L i)), (6, .int (iB (md = 2 ∧ ¬ S.2.2 6 c = 0 ∧ ¬ L = 0))), (5, .int (iB (md = 1 ∧ L < ltE n o W T ∧ o < L))), (3, .int (ltE n o W T)), (2, .int L), (0, .ref (g.2.1 49)), (1, .int (nI c))] dX10_layOne_245 rfl (by rfl) (by decide) rfl ?_
                        refine x_goto 120 dX10_layOne_248 (by decide) ?_
                        refine x_lv [0, 1, 3, 4, 5, 6, 7, 8] rfl ?_
                        refine YY.L (lv' := [(7, .int (nI (i + 1))), (4, .int (ltB o T (i + 1))), (6, .int (iB (md = 2 ∧ ¬ S.2.2 6 c = 0 ∧ ¬ L = 0))), (5, .int (iB (md = 1 ∧ L < ltE n o W T ∧ o < L))), (3, .int (ltE n o W T)), (2, .int L), (0, .ref (g.2.1 49)), (1, .int (nI c))]) (by rw [nI_1] <;> rfl) ?_
                        exact ih1 (i + 1) U57 (by omega) (by exact hfU.st (show U57 = uM (uM U 71 i _) 72 i _ by rw [eU57, eU55])) (by exact hR.put (show U57 = uM (uM U 71 i _) 72 i _ by rw [eU57, eU55]) (by rw [eL]; rfl) (by rw [ltOne_n eL (by first | exact Or.inl (by assumption) | exact Or.inr (by assumption))]; rfl)) (by omega)
                      · have c53n : (0 ≤ (ctr (S.2.2 6 c) o md n W T L i) ∧ (ctr (S.2.2 6 c) o md n W T L i) ≤ L) := Classical.not_not.mp (fun q => c53 (iB_0.mpr q))
                        refine x_iload_n dX10_layOne_218 8 rfl ?_
                        refine x_goto 224 dX10_layOne_219 (by decide) ?_
                        have b58 : vp_in (nI i) 24 := by exact vp_in_nI (by omega) (by decide)
                        refine x_iast rfl b58 dX10_layOne_224 ?_
                        refine YY.V (V' := uM U 71 i (nI c)) (by rw [nI_clamp (by omega)]) ?_
                        obtain ⟨U59, eU59⟩ : ∃ v_v : vM, v_v = uM U 71 i (nI c) := ⟨_, rfl⟩
                        refine YY.V eU59.symm ?_
                        refine x_aload_n dX10_layOne_225 7 rfl ?_
                        refine x_getR fl_X10_77 rfl rfl dX10_layOne_226 ?_
                        refine x_iload dX10_layOne_229 1 rfl ?_
                        refine x_iload dX10_layOne_231 0 rfl ?_
                        have b60 : vp_in (nI i) 24 := by exact vp_in_nI (by omega) (by decide)
                        refine x_iast rfl b60 dX10_layOne_233 ?_
                        refine YY.V (V' := uM U59 72 i (ctr (S.2.2 6 c) o md n W T L i)) (by rw [nI_clamp (by omega)]) ?_
                        obtain ⟨U61, eU61⟩ : ∃ v_v : vM, v_v = uM U59 72 i (ctr (S.2.2 6 c) o md n W T L i) := ⟨_, rfl⟩
                        refine YY.V eU61.symm ?_
                        have hf2 := hfU.st (show U61 = uM (uM U 71 i _) 72 i _ by rw [eU61, eU59])
                        have hL2 := hL.ag hf2.N
                        refine x_iload dX10_layOne_234 2 rfl ?_
                        refine x_aload_n dX10_layOne_236 7 rfl ?_
                        refine x_iload dX10_layOne_237 1 rfl ?_
                        refine x_callV (K := jX10_advance) [.int (nI i)] lk_X10_308 ⟨⟨rfl, rfl⟩, Nat.le_of_ble_eq_true rfl, Nat.le_of_ble_eq_true rfl⟩ rfl rfl (mX10_advL U61 n W T o md hL2 i (by omega)) rfl (Nat.le_of_ble_eq_true rfl) rfl dX10_layOne_239 (kpI ?_)
                        refine x_iadd dX10_layOne_242 ?_
                        refine x_istore 4 [(4, .int ((ltB o T i) + (T i))), (8, .int (ctr (S.2.2 6 c) o md n W T L i)), (7, .int (nI i)), (6, .int (iB (md = 2 ∧ ¬ S.2.2 6 c = 0 ∧ ¬ L = 0))), (5, .int (iB (md = 1 ∧ L < ltE n o W T ∧ o < L))), (3, .int (ltE n o W T)), (2, .int L), (0, .ref (g.2.1 49)), (1, .int (nI c))] dX10_layOne_243 (by decide) rfl ?_
                        refine x_iinc 7 (v := (nI i) + 1) 2 [(7, .int ((nI i) + 1)), (4, .int ((ltB o T i) + (T i))), (8, .int (ctr (S.2.2 6 c) o md n W T L i)), (6, .int (iB (md = 2 ∧ ¬ S.2.2 6 c = 0 ∧ ¬ L = 0))), (5, .int (iB (md = 1 ∧ L < ltE n o W T ∧ o < L))), (3, .int (ltE n o W T)), (2, .int L), (0, .ref (g.2.1 49)), (1, .int (nI c))] dX10_layOne_245 rfl (by rfl) (by decide) rfl ?_
                        refine x_goto 120 dX10_layOne_248 (by decide) ?_
                        refine x_lv [0, 1, 3, 4, 5, 6, 7, 8] rfl ?_
                        refine YY.L (lv' := [(7, .int (nI (i + 1))), (4, .int (ltB o T (i + 1))), (6, .int (iB (md = 2 ∧ ¬ S.2.2 6 c = 0 ∧ ¬ L = 0))), (5, .int (iB (md = 1 ∧ L < ltE n o W T ∧ o < L))), (3, .int (ltE n o W T)), (2, .int L), (0, .ref (g.2.1 49)), (1, .int (nI c))]) (by rw [nI_1] <;> rfl) ?_
                        exact ih1 (i + 1) U61 (by omega) (by exact hfU.st (show U61 = uM (uM U 71 i _) 72 i _ by rw [eU61, eU59])) (by exact hR.put (show U61 = uM (uM U 71 i _) 72 i _ by rw [eU61, eU59]) (by rw [eL]; rfl) (by rw [ltOne_y eL (by assumption) (by assumption)]; rfl)) (by omega)
            refine YY.L (lv' := [(7, .int (nI 0)), (4, .int (ltB o T 0)), (6, .int (iB (md = 2 ∧ ¬ S.2.2 6 c = 0 ∧ ¬ L = 0))), (5, .int (iB (md = 1 ∧ L < ltE n o W T ∧ o < L))), (3, .int (ltE n o W T)), (2, .int L), (0, .ref (g.2.1 49)), (1, .int (nI c))]) (by rfl) ?_
            exact lp11 _ 0 V (by omega) (by exact fr71.refl V) (by exact fun i q => absurd q (Nat.not_lt_zero _)) (Nat.lt_succ_self _)
          refine x_icmp_ne 108 dX10_layOne_89 (by decide) (fun c7 => ?_) (fun c7 => ?_)
          · refine x_iconst (v := 0) dX10_layOne_108 (by decide) ?_
            exact jn9 _ (Or.inl ⟨c7, rfl⟩)
          · refine x_aload_n dX10_layOne_92 4 rfl ?_
            refine x_iload_n dX10_layOne_93 5 rfl ?_
            refine x_callV (K := jX10_isClosed) [.int (nI c)] lk_X10_251 ⟨⟨rfl, rfl⟩, Nat.le_of_ble_eq_true rfl, Nat.le_of_ble_eq_true rfl⟩ rfl rfl (by have := mX10_isClosed (g := g) hw hm50 hN8 h0 c (by omega); rw [iB_iff hcl6] at this; exact this) rfl (Nat.le_of_ble_eq_true rfl) rfl dX10_layOne_94 (kpI ?_)
            refine x_if_eq 108 dX10_layOne_97 (by decide) (fun c62 => ?_) (fun c62 => ?_)
            · have c62n : ¬ (¬ S.2.2 6 c = 0) := iB_0.mp c62
              refine x_iconst (v := 0) dX10_layOne_108 (by decide) ?_
              exact jn9 _ (Or.inr (Or.inl ⟨c7, c62n, rfl⟩))
            · have c62n : (¬ S.2.2 6 c = 0) := Classical.not_not.mp (fun q => c62 (iB_0.mpr q))
              refine x_iload_n dX10_layOne_100 3 rfl ?_
              refine x_if_eq 108 dX10_layOne_101 (by decide) (fun c63 => ?_) (fun c63 => ?_)
              · refine x_iconst (v := 0) dX10_layOne_108 (by decide) ?_
                exact jn9 _ (Or.inr (Or.inr (Or.inl ⟨c7, c62n, c63, rfl⟩)))
              · refine x_iconst (v := 1) dX10_layOne_104 (by decide) ?_
                refine x_goto 109 dX10_layOne_105 (by decide) ?_
                exact jn9 _ (Or.inr (Or.inr (Or.inr ⟨c7, c62n, c63, rfl⟩)))
        refine x_icmp_ne 81 dX10_layOne_61 (by decide) (fun c3 => ?_) (fun c3 => ?_)
        · refine x_iconst (v := 0) dX10_layOne_81 (by decide) ?_
          exact jn5 _ (Or.inl ⟨c3, rfl⟩)
        · refine x_iload_n dX10_layOne_64 2 rfl ?_
          refine x_iload_n dX10_layOne_65 3 rfl ?_
          refine x_icmp_le 81 dX10_layOne_66 (by decide) (fun c64 => ?_) (fun c64 => ?_)
          · refine x_iconst (v := 0) dX10_layOne_81 (by decide) ?_
            exact jn5 _ (Or.inr (Or.inl ⟨c3, c64, rfl⟩))
          · refine x_aload_n dX10_layOne_69 4 rfl ?_
            refine x_getI fl_X10_296 rfl rfl dX10_layOne_70 ?_
            refine x_topi (hL.2.1) ?_
            refine x_iload_n dX10_layOne_73 3 rfl ?_
            refine x_icmp_ge 81 dX10_layOne_74 (by decide) (fun c65 => ?_) (fun c65 => ?_)
            · refine x_iconst (v := 0) dX10_layOne_81 (by decide) ?_
              exact jn5 _ (Or.inr (Or.inr (Or.inl ⟨c3, c64, c65, rfl⟩)))
            · refine x_iconst (v := 1) dX10_layOne_77 (by decide) ?_
              refine x_goto 82 dX10_layOne_78 (by decide) ?_
              exact jn5 _ (Or.inr (Or.inr (Or.inr ⟨c3, c64, c65, rfl⟩)))
      · have c2n : i < n := Nat.not_le.mp (fun q => c2 ((nl_le (a := n) (b := i) (rfl) (rfl) (by omega) (by omega)).mpr q))
        refine x_iload dX10_layOne_29 1 rfl ?_
        refine x_aload_n dX10_layOne_31 4 rfl ?_
        refine x_iload dX10_layOne_32 0 rfl ?_
        refine x_callV (K := jX10_widthOf) [.int (nI i)] lk_X10_305 ⟨⟨rfl, rfl⟩, Nat.le_of_ble_eq_true rfl, Nat.le_of_ble_eq_true rfl⟩ rfl rfl (mX10_widthL V n W T o md hL i (by omega)) rfl (Nat.le_of_ble_eq_true rfl) rfl dX10_layOne_34 (kpI ?_)
        refine x_iadd dX10_layOne_37 ?_
        refine x_istore_n 3 [(3, .int ((ltB o T i) + (W i))), (5, .int (nI i)), (4, .int (ltB o T i)), (2, .int L), (0, .ref (g.2.1 49)), (1, .int (nI c))] dX10_layOne_38 rfl (by decide) rfl ?_
        refine x_iload dX10_layOne_39 2 rfl ?_
        refine x_aload_n dX10_layOne_41 4 rfl ?_
        refine x_iload dX10_layOne_42 1 rfl ?_
        refine x_callV (K := jX10_advance) [.int (nI i)] lk_X10_308 ⟨⟨rfl, rfl⟩, Nat.le_of_ble_eq_true rfl, Nat.le_of_ble_eq_true rfl⟩ rfl rfl (mX10_advL V n W T o md hL i (by omega)) rfl (Nat.le_of_ble_eq_true rfl) rfl dX10_layOne_44 (kpI ?_)
        refine x_iadd dX10_layOne_47 ?_
        refine x_istore 4 [(4, .int ((ltB o T i) + (T i))), (3, .int ((ltB o T i) + (W i))), (5, .int (nI i)), (2, .int L), (0, .ref (g.2.1 49)), (1, .int (nI c))] dX10_layOne_48 (by decide) rfl ?_
        refine x_iinc 5 (v := (nI i) + 1) 2 [(5, .int ((nI i) + 1)), (4, .int ((ltB o T i) + (T i))), (3, .int ((ltB o T i) + (W i))), (2, .int L), (0, .ref (g.2.1 49)), (1, .int (nI c))] dX10_layOne_50 rfl (by rfl) (by decide) rfl ?_
        refine x_goto 20 dX10_layOne_53 (by decide) ?_
        refine YY.L (lv' := [(5, .int (nI (i + 1))), (4, .int (ltB o T (i + 1))), (3, .int (ltE (i + 1) o W T)), (2, .int L), (0, .ref (g.2.1 49)), (1, .int (nI c))]) (by rw [nI_1, ltE_s] <;> rfl) ?_
        exact ih (i + 1) (by omega) (by omega)
  refine YY.L (lv' := [(5, .int (nI 0)), (4, .int (ltB o T 0)), (3, .int (ltE 0 o W T)), (2, .int L), (0, .ref (g.2.1 49)), (1, .int (nI c))]) (by rfl) ?_
  exact lp1 _ 0 (by omega) (Nat.lt_succ_self _)
set_option maxHeartbeats 2000000 in
set_option maxRecDepth 100000 in
theorem mX10_layOn {g : gX} {V : vM} {S : FS} {fb : Nat → Nat} {kc : Nat} (hF : FRM V S kc) (hE : V 65 S.2.1 = nI S.1) (hG : GI S fb) (h24 : S.2.1 ≤ 24) (h15 : S.1 ≤ 1536) (n : Nat) (W T : Nat → Int32) (o md : Int32) (hL : LCm V n W T o md) (c : Nat) (hc : c ≤ S.2.1) : MM g jX10_layOn V [.ref (g.2.1 49), .int (nI c)] (eV (fun U => fr71 V U ∧ LRm U n (ltMov S fb W T o c))) := by
  refine MM.of plX10_layOn (Nat.le_of_ble_eq_true rfl) ?_
  obtain ⟨Q, hQ⟩ : ∃ Q : Option Value → vM → Prop, Q = (eV (fun U => fr71 V U ∧ LRm U n (ltMov S fb W T o c))) := ⟨_, rfl⟩
  rw [← hQ]
  show XX g jX10_layOn Q V 0 [(0, .ref (g.2.1 49)), (1, .int (nI c))] []
  have hLB := hL.2.2.2.1
  have hn24 := hLB.1
  have hFV := hF
  have hEV := hE
  refine x_iload_n dX10_layOn_0 1 rfl ?_
  refine x_istore_n 2 [(2, .int (nI c)), (0, .ref (g.2.1 49)), (1, .int (nI c))] dX10_layOn_1 rfl (by decide) rfl ?_
  refine x_aload_n dX10_layOn_2 1 rfl ?_
  refine x_getI fl_X10_296 rfl rfl dX10_layOn_3 ?_
  refine x_topi (hL.2.1) ?_
  refine x_istore_n 3 [(3, .int o), (2, .int (nI c)), (0, .ref (g.2.1 49)), (1, .int (nI c))] dX10_layOn_6 rfl (by decide) rfl ?_
  refine x_iconst (v := 0) dX10_layOn_7 (by decide) ?_
  refine x_istore 4 [(4, .int 0), (3, .int o), (2, .int (nI c)), (0, .ref (g.2.1 49)), (1, .int (nI c))] dX10_layOn_8 (by decide) rfl ?_
  have lp1 : ∀ (fu : Nat) (i : Nat) (h : Nat) (b : Int32) (U : vM), (i ≤ n) → (h ≤ S.2.1) → (ltM S fb W T o c i = (h, b)) → (fr71 V U) → (LRm U i (ltMov S fb W T o c)) → (n - i) < fu → XX g jX10_layOn Q U 10 [(4, .int (nI i)), (3, .int b), (2, .int (nI h)), (0, .ref (g.2.1 49)), (1, .int (nI c))] [] := by
    intro fu
    induction fu with
    | zero => intro _ _ _ _ _ _ _ _ _ hmz; exact absurd hmz (Nat.not_lt_zero _)
    | succ fu ih =>
      intro i h b U hi hh hM hfU hR hmz
      have hLU := hL.ag hfU.N
      have hF := hFV.ag (U := U) (fun a j _ q => hfU a j (by omega) (by omega))
      have hE := hEV
      rw [← hfU 65 S.2.1 (by omega) (by omega)] at hE
      refine x_iload dX10_layOn_10 0 rfl ?_
      refine x_aload_n dX10_layOn_12 3 rfl ?_
      refine x_getI fl_X10_293 rfl rfl dX10_layOn_13 ?_
      refine x_topi (hLU.1) ?_
      refine x_icmp_ge 121 dX10_layOn_16 (by decide) (fun c2 => ?_) (fun c2 => ?_)
      · have c2n : n ≤ i := (nl_le (a := n) (b := i) (rfl) (rfl) (by omega) (by omega)).mp c2
        refine x_vret dX10_layOn_121 rfl ?_
        rw [hQ]
        have ei : i = n := by omega
        subst ei
        exact ⟨rfl, hfU, hR⟩
      · have c2n : i < n := Nat.not_le.mp (fun q => c2 ((nl_le (a := n) (b := i) (rfl) (rfl) (by omega) (by omega)).mpr q))
        have lp3 : ∀ (fu1 : Nat) (h2 : Nat) (b2 : Int32), (h2 ≤ S.2.1) → (skN S fb (W i) (S.2.1 - h2) h2 b2 = ltK S fb W T o c i) → (S.2.1 - h2) < fu1 → XX g jX10_layOn Q U 19 [(4, .int (nI i)), (3, .int b2), (2, .int (nI h2)), (0, .ref (g.2.1 49)), (1, .int (nI c))] [] := by
          intro fu1
          induction fu1 with
          | zero => intro _ _ _ _ hmz; exact absurd hmz (Nat.not_lt_zero _)
          | succ fu1 ih1 =>
            intro h2 b2 hh2 hK hmz
            refine x_iload_n dX10_layOn_19 2 rfl ?_
            refine x_aload_n dX10_layOn_20 3 rfl ?_
            refine x_getI fl_X10_211 rfl rfl dX10_layOn_21 ?_
            refine x_topi (hF.2.1) ?_
            refine x_icmp_ge 59 dX10_layOn_24 (by decide) (fun c4 => ?_) (fun c4 => ?_)
            · have c4n : S.2.1 ≤ h2 := (nl_le (a := S.2.1) (b := h2) (rfl) (rfl) (by omega) (by omega)).mp c4
              have hKe : ltK S fb W T o c i = (h2, b2) := by rw [← hK, show S.2.1 - h2 = 0 by omega]; rfl
              refine x_iload_n dX10_layOn_59 1 rfl ?_
              refine x_aload_n dX10_layOn_60 3 rfl ?_
              refine x_iload dX10_layOn_61 0 rfl ?_
              refine x_callV (K := jX10_widthOf) [.int (nI i)] lk_X10_305 ⟨⟨rfl, rfl⟩, Nat.le_of_ble_eq_true rfl, Nat.le_of_ble_eq_true rfl⟩ rfl rfl (mX10_widthL U n W T o md hLU i (by omega)) rfl (Nat.le_of_ble_eq_true rfl) rfl dX10_layOn_63 (kpI ?_)
              refine x_iconst (v := 2) dX10_layOn_66 (by decide) ?_
              have nz5 : ¬ (2 : Int32) = 0 := by decide
              refine x_idiv dX10_layOn_67 nz5 ?_
              refine x_iadd dX10_layOn_68 ?_
              refine x_istore 5 [(5, .int (b2 + ((W i) / 2))), (4, .int (nI i)), (3, .int b2), (2, .int (nI h2)), (0, .ref (g.2.1 49)), (1, .int (nI c))] dX10_layOn_69 (by decide) rfl ?_
              refine x_aload_n dX10_layOn_71 4 rfl ?_
              refine x_getR fl_X10_74 rfl rfl dX10_layOn_72 ?_
              refine x_iload dX10_layOn_75 1 rfl ?_
              refine x_iload_n dX10_layOn_77 3 rfl ?_
              refine x_aload_n dX10_layOn_78 4 rfl ?_
              refine x_getI fl_X10_211 rfl rfl dX10_layOn_79 ?_
              refine x_topi (hF.2.1) ?_
              refine x_icmp_ge 94 dX10_layOn_82 (by decide) (fun c6 => ?_) (fun c6 => ?_)
              · have c6n : S.2.1 ≤ h2 := (nl_le (a := S.2.1) (b := h2) (rfl) (rfl) (by omega) (by omega)).mp c6
                refine x_ldc ct_X10_103 dX10_layOn_94 ?_
                have b7 : vp_in (nI i) 24 := by exact vp_in_nI (by omega) (by decide)
                refine x_iast rfl b7 dX10_layOn_96 ?_
                refine YY.V (V' := uM U 71 i (-1000006)) (by rw [nI_clamp (by omega)]) ?_
                obtain ⟨U8, eU8⟩ : ∃ v_v : vM, v_v = uM U 71 i (-1000006) := ⟨_, rfl⟩
                refine YY.V eU8.symm ?_
                refine x_aload_n dX10_layOn_97 4 rfl ?_
                refine x_getR fl_X10_77 rfl rfl dX10_layOn_98 ?_
                refine x_iload dX10_layOn_101 1 rfl ?_
                refine x_iload dX10_layOn_103 0 rfl ?_
                have b9 : vp_in (nI i) 24 := by exact vp_in_nI (by omega) (by decide)
                refine x_iast rfl b9 dX10_layOn_105 ?_
                refine YY.V (V' := uM U8 72 i (b2 + ((W i) / 2))) (by rw [nI_clamp (by omega)]) ?_
                obtain ⟨U10, eU10⟩ : ∃ v_v : vM, v_v = uM U8 72 i (b2 + ((W i) / 2)) := ⟨_, rfl⟩
                refine YY.V eU10.symm ?_
                have hf2 := hfU.st (show U10 = uM (uM U 71 i _) 72 i _ by rw [eU10, eU8])
                have hL2 := hL.ag hf2.N
                refine x_iload_n dX10_layOn_106 2 rfl ?_
                refine x_aload_n dX10_layOn_107 4 rfl ?_
                refine x_iload dX10_layOn_108 1 rfl ?_
                refine x_callV (K := jX10_advance) [.int (nI i)] lk_X10_308 ⟨⟨rfl, rfl⟩, Nat.le_of_ble_eq_true rfl, Nat.le_of_ble_eq_true rfl⟩ rfl rfl (mX10_advL U10 n W T o md hL2 i (by omega)) rfl (Nat.le_of_ble_eq_true rfl) rfl dX10_layOn_110 (kpI ?_)
                refine x_iadd dX10_layOn_113 ?_
                refine x_istore_n 3 [(3, .int (b2 + (T i))), (5, .int (b2 + ((W i) / 2))), (4, .int (nI i)), (2, .int (nI h2)), (0, .ref (g.2.1 49)), (1, .int (nI c))] dX10_layOn_114 rfl (by decide) rfl ?_
                refine x_iinc 4 (v := (nI i) + 1) 2 [(4, .int ((nI i) + 1)), (3, .int (b2 + (T i))), (5, .int (b2 + ((W i) / 2))), (2, .int (nI h2)), (0, .ref (g.2.1 49)), (1, .int (nI c))] dX10_layOn_115 rfl (by rfl) (by decide) rfl ?_
                refine x_goto 10 dX10_layOn_118 (by decide) ?_
                refine x_lv [0, 1, 3, 4, 5] rfl ?_
                refine YY.L (lv' := [(4, .int (nI (i + 1))), (3, .int (b2 + T i)), (2, .int (nI h2)), (0, .ref (g.2.1 49)), (1, .int (nI c))]) (by rw [nI_1] <;> rfl) ?_
                exact ih (i + 1) h2 (b2 + T i) U10 (by omega) (by omega) (by rw [ltM_s, hKe]) (by exact hfU.st (show U10 = uM (uM U 71 i _) 72 i _ by rw [eU10, eU8])) (by exact hR.put (show U10 = uM (uM U 71 i _) 72 i _ by rw [eU10, eU8]) (ltMov_2 hKe) (by rw [ltMov_n hKe (by first | exact Or.inl (by omega) | exact Or.inr (Int32.not_le.mpr (by assumption)))]; rfl)) (by omega)
              · have c6n : h2 < S.2.1 := Nat.not_le.mp (fun q => c6 ((nl_le (a := S.2.1) (b := h2) (rfl) (rfl) (by omega) (by omega)).mpr q))
                refine x_iload dX10_layOn_85 0 rfl ?_
                refine x_if_lt 94 dX10_layOn_87 (by decide) (fun c11 => ?_) (fun c11 => ?_)
                · refine x_ldc ct_X10_103 dX10_layOn_94 ?_
                  have b12 : vp_in (nI i) 24 := by exact vp_in_nI (by omega) (by decide)
                  refine x_iast rfl b12 dX10_layOn_96 ?_
                  refine YY.V (V' := uM U 71 i (-1000006)) (by rw [nI_clamp (by omega)]) ?_
                  obtain ⟨U13, eU13⟩ : ∃ v_v : vM, v_v = uM U 71 i (-1000006) := ⟨_, rfl⟩
                  refine YY.V eU13.symm ?_
                  refine x_aload_n dX10_layOn_97 4 rfl ?_
                  refine x_getR fl_X10_77 rfl rfl dX10_layOn_98 ?_
                  refine x_iload dX10_layOn_101 1 rfl ?_
                  refine x_iload dX10_layOn_103 0 rfl ?_
                  have b14 : vp_in (nI i) 24 := by exact vp_in_nI (by omega) (by decide)
                  refine x_iast rfl b14 dX10_layOn_105 ?_
                  refine YY.V (V' := uM U13 72 i (b2 + ((W i) / 2))) (by rw [nI_clamp (by omega)]) ?_
                  obtain ⟨U15, eU15⟩ : ∃ v_v : vM, v_v = uM U13 72 i (b2 + ((W i) / 2)) := ⟨_, rfl⟩
                  refine YY.V eU15.symm ?_
                  have hf2 := hfU.st (show U15 = uM (uM U 71 i _) 72 i _ by rw [eU15, eU13])
                  have hL2 := hL.ag hf2.N
                  refine x_iload_n dX10_layOn_106 2 rfl ?_
                  refine x_aload_n dX10_layOn_107 4 rfl ?_
                  refine x_iload dX10_layOn_108 1 rfl ?_
                  refine x_callV (K := jX10_advance) [.int (nI i)] lk_X10_308 ⟨⟨rfl, rfl⟩, Nat.le_of_ble_eq_true rfl, Nat.le_of_ble_eq_true rfl⟩ rfl rfl (mX10_advL U15 n W T o md hL2 i (by omega)) rfl (Nat.le_of_ble_eq_true rfl) rfl dX10_layOn_110 (kpI ?_)
                  refine x_iadd dX10_layOn_113 ?_
                  refine x_istore_n 3 [(3, .int (b2 + (T i))), (5, .int (b2 + ((W i) / 2))), (4, .int (nI i)), (2, .int (nI h2)), (0, .ref (g.2.1 49)), (1, .int (nI c))] dX10_layOn_114 rfl (by decide) rfl ?_
                  refine x_iinc 4 (v := (nI i) + 1) 2 [(4, .int ((nI i) + 1)), (3, .int (b2 + (T i))), (5, .int (b2 + ((W i) / 2))), (2, .int (nI h2)), (0, .ref (g.2.1 49)), (1, .int (nI c))] dX10_layOn_115 rfl (by rfl) (by decide) rfl ?_
                  refine x_goto 10 dX10_layOn_118 (by decide) ?_
                  refine x_lv [0, 1, 3, 4, 5] rfl ?_
                  refine YY.L (lv' := [(4, .int (nI (i + 1))), (3, .int (b2 + T i)), (2, .int (nI h2)), (0, .ref (g.2.1 49)), (1, .int (nI c))]) (by rw [nI_1] <;> rfl) ?_
                  exact ih (i + 1) h2 (b2 + T i) U15 (by omega) (by omega) (by rw [ltM_s, hKe]) (by exact hfU.st (show U15 = uM (uM U 71 i _) 72 i _ by rw [eU15, eU13])) (by exact hR.put (show U15 = uM (uM U 71 i _) 72 i _ by rw [eU15, eU13]) (ltMov_2 hKe) (by rw [ltMov_n hKe (by first | exact Or.inl (by omega) | exact Or.inr (Int32.not_le.mpr (by assumption)))]; rfl)) (by omega)
                · refine x_iload_n dX10_layOn_90 3 rfl ?_
                  refine x_goto 96 dX10_layOn_91 (by decide) ?_
                  have b16 : vp_in (nI i) 24 := by exact vp_in_nI (by omega) (by decide)
                  refine x_iast rfl b16 dX10_layOn_96 ?_
                  refine YY.V (V' := uM U 71 i (nI h2)) (by rw [nI_clamp (by omega)]) ?_
                  obtain ⟨U17, eU17⟩ : ∃ v_v : vM, v_v = uM U 71 i (nI h2) := ⟨_, rfl⟩
                  refine YY.V eU17.symm ?_
                  refine x_aload_n dX10_layOn_97 4 rfl ?_
                  refine x_getR fl_X10_77 rfl rfl dX10_layOn_98 ?_
                  refine x_iload dX10_layOn_101 1 rfl ?_
                  refine x_iload dX10_layOn_103 0 rfl ?_
                  have b18 : vp_in (nI i) 24 := by exact vp_in_nI (by omega) (by decide)
                  refine x_iast rfl b18 dX10_layOn_105 ?_
                  refine YY.V (V' := uM U17 72 i (b2 + ((W i) / 2))) (by rw [nI_clamp (by omega)]) ?_
                  obtain ⟨U19, eU19⟩ : ∃ v_v : vM, v_v = uM U17 72 i (b2 + ((W i) / 2)) := ⟨_, rfl⟩
                  refine YY.V eU19.symm ?_
                  have hf2 := hfU.st (show U19 = uM (uM U 71 i _) 72 i _ by rw [eU19, eU17])
                  have hL2 := hL.ag hf2.N
                  refine x_iload_n dX10_layOn_106 2 rfl ?_
                  refine x_aload_n dX10_layOn_107 4 rfl ?_
                  refine x_iload dX10_layOn_108 1 rfl ?_
                  refine x_callV (K := jX10_advance) [.int (nI i)] lk_X10_308 ⟨⟨rfl, rfl⟩, Nat.le_of_ble_eq_true rfl, Nat.le_of_ble_eq_true rfl⟩ rfl rfl (mX10_advL U19 n W T o md hL2 i (by omega)) rfl (Nat.le_of_ble_eq_true rfl) rfl dX10_layOn_110 (kpI ?_)
                  refine x_iadd dX10_layOn_113 ?_
                  refine x_istore_n 3 [(3, .int (b2 + (T i))), (5, .int (b2 + ((W i) / 2))), (4, .int (nI i)), (2, .int (nI h2)), (0, .ref (g.2.1 49)), (1, .int (nI c))] dX10_layOn_114 rfl (by decide) rfl ?_
                  refine x_iinc 4 (v := (nI i) + 1) 2 [(4, .int ((nI i) + 1)), (3, .int (b2 + (T i))), (5, .int (b2 + ((W i) / 2))), (2, .int (nI h2)), (0, .ref (g.2.1 49)), (1, .int (nI c))] dX10_layOn_115 rfl (by rfl) (by decide) rfl ?_
                  refine x_goto 10 dX10_layOn_118 (by decide) ?_
                  refine x_lv [0, 1, 3, 4, 5] rfl ?_
                  refine YY.L (lv' := [(4, .int (nI (i + 1))), (3, .int (b2 + T i)), (2, .int (nI h2)), (0, .ref (g.2.1 49)), (1, .int (nI c))]) (by rw [nI_1] <;> rfl) ?_
                  exact ih (i + 1) h2 (b2 + T i) U19 (by omega) (by omega) (by rw [ltM_s, hKe]) (by exact hfU.st (show U19 = uM (uM U 71 i _) 72 i _ by rw [eU19, eU17])) (by exact hR.put (show U19 = uM (uM U 71 i _) 72 i _ by rw [eU19, eU17]) (ltMov_2 hKe) (by rw [ltMov_y hKe (by omega) (Int32.not_lt.mp (by assumption))]; rfl)) (by omega)
            · have c4n : h2 < S.2.1 := Nat.not_le.mp (fun q => c4 ((nl_le (a := S.2.1) (b := h2) (rfl) (rfl) (by omega) (by omega)).mpr q))
              refine x_aload_n dX10_layOn_27 3 rfl ?_
              refine x_iload_n dX10_layOn_28 2 rfl ?_
              refine x_callV (K := jX10_hasSegments) [.int (nI h2)] lk_X10_311 ⟨⟨rfl, rfl⟩, Nat.le_of_ble_eq_true rfl, Nat.le_of_ble_eq_true rfl⟩ rfl rfl (mX10_hasSegments hF hE hG h24 h15 h2 (by omega)) rfl (Nat.le_of_ble_eq_true rfl) rfl dX10_layOn_29 (kpI ?_)
              refine x_if_eq 51 dX10_layOn_32 (by decide) (fun c20 => ?_) (fun c20 => ?_)
              · have c20n : ¬ (1 < fb (h2 + 1) - fb h2) := iB_0.mp c20
                refine x_iinc 2 (v := (nI h2) + 1) 2 [(2, .int ((nI h2) + 1)), (4, .int (nI i)), (3, .int b2), (0, .ref (g.2.1 49)), (1, .int (nI c))] dX10_layOn_51 rfl (by rfl) (by decide) rfl ?_
                refine x_iconst (v := 0) dX10_layOn_54 (by decide) ?_
                refine x_istore_n 3 [(3, .int 0), (2, .int ((nI h2) + 1)), (4, .int (nI i)), (0, .ref (g.2.1 49)), (1, .int (nI c))] dX10_layOn_55 rfl (by decide) rfl ?_
                refine x_goto 19 dX10_layOn_56 (by decide) ?_
                refine x_lv [2, 0, 1, 3, 4] rfl ?_
                refine YY.L (lv' := [(4, .int (nI i)), (3, .int 0), (2, .int (nI (h2 + 1))), (0, .ref (g.2.1 49)), (1, .int (nI c))]) (by rw [nI_1] <;> rfl) ?_
                exact ih1 (h2 + 1) 0 (by omega) (by rw [← hK, show S.2.1 - h2 = (S.2.1 - (h2 + 1)) + 1 by omega, skN_miss (fun q => by first | exact absurd q.1 (by assumption) | exact absurd q.2 (by assumption))]) (by omega)
              · have c20n : (1 < fb (h2 + 1) - fb h2) := Classical.not_not.mp (fun q => c20 (iB_0.mpr q))
                refine x_iload_n dX10_layOn_35 1 rfl ?_
                refine x_aload_n dX10_layOn_36 3 rfl ?_
                refine x_iload dX10_layOn_37 0 rfl ?_
                refine x_callV (K := jX10_widthOf) [.int (nI i)] lk_X10_305 ⟨⟨rfl, rfl⟩, Nat.le_of_ble_eq_true rfl, Nat.le_of_ble_eq_true rfl⟩ rfl rfl (mX10_widthL U n W T o md hLU i (by omega)) rfl (Nat.le_of_ble_eq_true rfl) rfl dX10_layOn_39 (kpI ?_)
                refine x_iadd dX10_layOn_42 ?_
                refine x_aload_n dX10_layOn_43 3 rfl ?_
                refine x_iload_n dX10_layOn_44 2 rfl ?_
                refine x_callV (K := jX10_lengthOfContour) [.int (nI h2)] lk_X10_248 ⟨⟨rfl, rfl⟩, Nat.le_of_ble_eq_true rfl, Nat.le_of_ble_eq_true rfl⟩ rfl rfl (mX10_lengthOfContour hF hE hG h24 h15 h2 (by omega)) rfl (Nat.le_of_ble_eq_true rfl) rfl dX10_layOn_45 (kpI ?_)
                refine x_icmp_le 59 dX10_layOn_48 (by decide) (fun c21 => ?_) (fun c21 => ?_)
                · have hKe : ltK S fb W T o c i = (h2, b2) := by rw [← hK, skN_hit ⟨by assumption, by assumption⟩]
                  refine x_iload_n dX10_layOn_59 1 rfl ?_
                  refine x_aload_n dX10_layOn_60 3 rfl ?_
                  refine x_iload dX10_layOn_61 0 rfl ?_
                  refine x_callV (K := jX10_widthOf) [.int (nI i)] lk_X10_305 ⟨⟨rfl, rfl⟩, Nat.le_of_ble_eq_true rfl, Nat.le_of_ble_eq_true rfl⟩ rfl rfl (mX10_widthL U n W T o md hLU i (by omega)) rfl (Nat.le_of_ble_eq_true rfl) rfl dX10_layOn_63 (kpI ?_)
                  refine x_iconst (v := 2) dX10_layOn_66 (by decide) ?_
                  have nz22 : ¬ (2 : Int32) = 0 := by decide
                  refine x_idiv dX10_layOn_67 nz22 ?_
                  refine x_iadd dX10_layOn_68 ?_
                  refine x_istore 5 [(5, .int (b2 + ((W i) / 2))), (4, .int (nI i)), (3, .int b2), (2, .int (nI h2)), (0, .ref (g.2.1 49)), (1, .int (nI c))] dX10_layOn_69 (by decide) rfl ?_
                  refine x_aload_n dX10_layOn_71 4 rfl ?_
                  refine x_getR fl_X10_74 rfl rfl dX10_layOn_72 ?_
                  refine x_iload dX10_layOn_75 1 rfl ?_
                  refine x_iload_n dX10_layOn_77 3 rfl ?_
                  refine x_aload_n dX10_layOn_78 4 rfl ?_
                  refine x_getI fl_X10_211 rfl rfl dX10_layOn_79 ?_
                  refine x_topi (hF.2.1) ?_
                  refine x_icmp_ge 94 dX10_layOn_82 (by decide) (fun c23 => ?_) (fun c23 => ?_)
                  · have c23n : S.2.1 ≤ h2 := (nl_le (a := S.2.1) (b := h2) (rfl) (rfl) (by omega) (by omega)).mp c23
                    refine x_ldc ct_X10_103 dX10_layOn_94 ?_
                    have b24 : vp_in (nI i) 24 := by exact vp_in_nI (by omega) (by decide)
                    refine x_iast rfl b24 dX10_layOn_96 ?_
                    refine YY.V (V' := uM U 71 i (-1000006)) (by rw [nI_clamp (by omega)]) ?_
                    obtain ⟨U25, eU25⟩ : ∃ v_v : vM, v_v = uM U 71 i (-1000006) := ⟨_, rfl⟩
                    refine YY.V eU25.symm ?_
                    refine x_aload_n dX10_layOn_97 4 rfl ?_
                    refine x_getR fl_X10_77 rfl rfl dX10_layOn_98 ?_
                    refine x_iload dX10_layOn_101 1 rfl ?_
                    refine x_iload dX10_layOn_103 0 rfl ?_
                    have b26 : vp_in (nI i) 24 := by exact vp_in_nI (by omega) (by decide)
                    refine x_iast rfl b26 dX10_layOn_105 ?_
                    refine YY.V (V' := uM U25 72 i (b2 + ((W i) / 2))) (by rw [nI_clamp (by omega)]) ?_
                    obtain ⟨U27, eU27⟩ : ∃ v_v : vM, v_v = uM U25 72 i (b2 + ((W i) / 2)) := ⟨_, rfl⟩
                    refine YY.V eU27.symm ?_
                    have hf2 := hfU.st (show U27 = uM (uM U 71 i _) 72 i _ by rw [eU27, eU25])
                    have hL2 := hL.ag hf2.N
                    refine x_iload_n dX10_layOn_106 2 rfl ?_
                    refine x_aload_n dX10_layOn_107 4 rfl ?_
                    refine x_iload dX10_layOn_108 1 rfl ?_
                    refine x_callV (K := jX10_advance) [.int (nI i)] lk_X10_308 ⟨⟨rfl, rfl⟩, Nat.le_of_ble_eq_true rfl, Nat.le_of_ble_eq_true rfl⟩ rfl rfl (mX10_advL U27 n W T o md hL2 i (by omega)) rfl (Nat.le_of_ble_eq_true rfl) rfl dX10_layOn_110 (kpI ?_)
                    refine x_iadd dX10_layOn_113 ?_
                    refine x_istore_n 3 [(3, .int (b2 + (T i))), (5, .int (b2 + ((W i) / 2))), (4, .int (nI i)), (2, .int (nI h2)), (0, .ref (g.2.1 49)), (1, .int (nI c))] dX10_layOn_114 rfl (by decide) rfl ?_
                    refine x_iinc 4 (v := (nI i) + 1) 2 [(4, .int ((nI i) + 1)), (3, .int (b2 + (T i))), (5, .int (b2 + ((W i) / 2))), (2, .int (nI h2)), (0, .ref (g.2.1 49)), (1, .int (nI c))] dX10_layOn_115 rfl (by rfl) (by decide) rfl ?_
                    refine x_goto 10 dX10_layOn_118 (by decide) ?_
                    refine x_lv [0, 1, 3, 4, 5] rfl ?_
                    refine YY.L (lv' := [(4, .int (nI (i + 1))), (3, .int (b2 + T i)), (2, .int (nI h2)), (0, .ref (g.2.1 49)), (1, .int (nI c))]) (by rw [nI_1] <;> rfl) ?_
                    exact ih (i + 1) h2 (b2 + T i) U27 (by omega) (by omega) (by rw [ltM_s, hKe]) (by exact hfU.st (show U27 = uM (uM U 71 i _) 72 i _ by rw [eU27, eU25])) (by exact hR.put (show U27 = uM (uM U 71 i _) 72 i _ by rw [eU27, eU25]) (ltMov_2 hKe) (by rw [ltMov_n hKe (by first | exact Or.inl (by omega) | exact Or.inr (Int32.not_le.mpr (by assumption)))]; rfl)) (by omega)
                  · have c23n : h2 < S.2.1 := Nat.not_le.mp (fun q => c23 ((nl_le (a := S.2.1) (b := h2) (rfl) (rfl) (by omega) (by omega)).mpr q))
                    refine x_iload dX10_layOn_85 0 rfl ?_
                    refine x_if_lt 94 dX10_layOn_87 (by decide) (fun c28 => ?_) (fun c28 => ?_)
                    · refine x_ldc ct_X10_103 dX10_layOn_94 ?_
                      have b29 : vp_in (nI i) 24 := by exact vp_in_nI (by omega) (by decide)
                      refine x_iast rfl b29 dX10_layOn_96 ?_
                      refine YY.V (V' := uM U 71 i (-1000006)) (by rw [nI_clamp (by omega)]) ?_
                      obtain ⟨U30, eU30⟩ : ∃ v_v : vM, v_v = uM U 71 i (-1000006) := ⟨_, rfl⟩
                      refine YY.V eU30.symm ?_
                      refine x_aload_n dX10_layOn_97 4 rfl ?_
                      refine x_getR fl_X10_77 rfl rfl dX10_layOn_98 ?_
                      refine x_iload dX10_layOn_101 1 rfl ?_
                      refine x_iload dX10_layOn_103 0 rfl ?_
                      have b31 : vp_in (nI i) 24 := by exact vp_in_nI (by omega) (by decide)
                      refine x_iast rfl b31 dX10_layOn_105 ?_
                      refine YY.V (V' := uM U30 72 i (b2 + ((W i) / 2))) (by rw [nI_clamp (by omega)]) ?_
                      obtain ⟨U32, eU32⟩ : ∃ v_v : vM, v_v = uM U30 72 i (b2 + ((W i) / 2)) := ⟨_, rfl⟩
                      refine YY.V eU32.symm ?_
                      have hf2 := hfU.st (show U32 = uM (uM U 71 i _) 72 i _ by rw [eU32, eU30])
                      have hL2 := hL.ag hf2.N
                      refine x_iload_n dX10_layOn_106 2 rfl ?_
                      refine x_aload_n dX10_layOn_107 4 rfl ?_
                      refine x_iload dX10_layOn_108 1 rfl ?_
                      refine x_callV (K := jX10_advance) [.int (nI i)] lk_X10_308 ⟨⟨rfl, rfl⟩, Nat.le_of_ble_eq_true rfl, Nat.le_of_ble_eq_true rfl⟩ rfl rfl (mX10_advL U32 n W T o md hL2 i (by omega)) rfl (Nat.le_of_ble_eq_true rfl) rfl dX10_layOn_110 (kpI ?_)
                      refine x_iadd dX10_layOn_113 ?_
                      refine x_istore_n 3 [(3, .int (b2 + (T i))), (5, .int (b2 + ((W i) / 2))), (4, .int (nI i)), (2, .int (nI h2)), (0, .ref (g.2.1 49)), (1, .int (nI c))] dX10_layOn_114 rfl (by decide) rfl ?_
                      refine x_iinc 4 (v := (nI i) + 1) 2 [(4, .int ((nI i) + 1)), (3, .int (b2 + (T i))), (5, .int (b2 + ((W i) / 2))), (2, .int (nI h2)), (0, .ref (g.2.1 49)), (1, .int (nI c))] dX10_layOn_115 rfl (by rfl) (by decide) rfl ?_
                      refine x_goto 10 dX10_layOn_118 (by decide) ?_
                      refine x_lv [0, 1, 3, 4, 5] rfl ?_
                      refine YY.L (lv' := [(4, .int (nI (i + 1))), (3, .int (b2 + T i)), (2, .int (nI h2)), (0, .ref (g.2.1 49)), (1, .int (nI c))]) (by rw [nI_1] <;> rfl) ?_
                      exact ih (i + 1) h2 (b2 + T i) U32 (by omega) (by omega) (by rw [ltM_s, hKe]) (by exact hfU.st (show U32 = uM (uM U 71 i _) 72 i _ by rw [eU32, eU30])) (by exact hR.put (show U32 = uM (uM U 71 i _) 72 i _ by rw [eU32, eU30]) (ltMov_2 hKe) (by rw [ltMov_n hKe (by first | exact Or.inl (by omega) | exact Or.inr (Int32.not_le.mpr (by assumption)))]; rfl)) (by omega)
                    · refine x_iload_n dX10_layOn_90 3 rfl ?_
                      refine x_goto 96 dX10_layOn_91 (by decide) ?_
                      have b33 : vp_in (nI i) 24 := by exact vp_in_nI (by omega) (by decide)
                      refine x_iast rfl b33 dX10_layOn_96 ?_
                      refine YY.V (V' := uM U 71 i (nI h2)) (by rw [nI_clamp (by omega)]) ?_
                      obtain ⟨U34, eU34⟩ : ∃ v_v : vM, v_v = uM U 71 i (nI h2) := ⟨_, rfl⟩
                      refine YY.V eU34.symm ?_
                      refine x_aload_n dX10_layOn_97 4 rfl ?_
                      refine x_getR fl_X10_77 rfl rfl dX10_layOn_98 ?_
                      refine x_iload dX10_layOn_101 1 rfl ?_
                      refine x_iload dX10_layOn_103 0 rfl ?_
                      have b35 : vp_in (nI i) 24 := by exact vp_in_nI (by omega) (by decide)
                      refine x_iast rfl b35 dX10_layOn_105 ?_
                      refine YY.V (V' := uM U34 72 i (b2 + ((W i) / 2))) (by rw [nI_clamp (by omega)]) ?_
                      obtain ⟨U36, eU36⟩ : ∃ v_v : vM, v_v = uM U34 72 i (b2 + ((W i) / 2)) := ⟨_, rfl⟩
                      refine YY.V eU36.symm ?_
                      have hf2 := hfU.st (show U36 = uM (uM U 71 i _) 72 i _ by rw [eU36, eU34])
                      have hL2 := hL.ag hf2.N
                      refine x_iload_n dX10_layOn_106 2 rfl ?_
                      refine x_aload_n dX10_layOn_107 4 rfl ?_
                      refine x_iload dX10_layOn_108 1 rfl ?_
                      refine x_callV (K := jX10_advance) [.int (nI i)] lk_X10_308 ⟨⟨rfl, rfl⟩, Nat.le_of_ble_eq_true rfl, Nat.le_of_ble_eq_true rfl⟩ rfl rfl (mX10_advL U36 n W T o md hL2 i (by omega)) rfl (Nat.le_of_ble_eq_true rfl) rfl dX10_layOn_110 (kpI ?_)
                      refine x_iadd dX10_layOn_113 ?_
                      refine x_istore_n 3 [(3, .int (b2 + (T i))), (5, .int (b2 + ((W i) / 2))), (4, .int (nI i)), (2, .int (nI h2)), (0, .ref (g.2.1 49)), (1, .int (nI c))] dX10_layOn_114 rfl (by decide) rfl ?_
                      refine x_iinc 4 (v := (nI i) + 1) 2 [(4, .int ((nI i) + 1)), (3, .int (b2 + (T i))), (5, .int (b2 + ((W i) / 2))), (2, .int (nI h2)), (0, .ref (g.2.1 49)), (1, .int (nI c))] dX10_layOn_115 rfl (by rfl) (by decide) rfl ?_
                      refine x_goto 10 dX10_layOn_118 (by decide) ?_
                      refine x_lv [0, 1, 3, 4, 5] rfl ?_
                      refine YY.L (lv' := [(4, .int (nI (i + 1))), (3, .int (b2 + T i)), (2, .int (nI h2)), (0, .ref (g.2.1 49)), (1, .int (nI c))]) (by rw [nI_1] <;> rfl) ?_
                      exact ih (i + 1) h2 (b2 + T i) U36 (by omega) (by omega) (by rw [ltM_s, hKe]) (by exact hfU.st (show U36 = uM (uM U 71 i _) 72 i _ by rw [eU36, eU34])) (by exact hR.put (show U36 = uM (uM U 71 i _) 72 i _ by rw [eU36, eU34]) (ltMov_2 hKe) (by rw [ltMov_y hKe (by omega) (Int32.not_lt.mp (by assumption))]; rfl)) (by omega)
                · refine x_iinc 2 (v := (nI h2) + 1) 2 [(2, .int ((nI h2) + 1)), (4, .int (nI i)), (3, .int b2), (0, .ref (g.2.1 49)), (1, .int (nI c))] dX10_layOn_51 rfl (by rfl) (by decide) rfl ?_
                  refine x_iconst (v := 0) dX10_layOn_54 (by decide) ?_
                  refine x_istore_n 3 [(3, .int 0), (2, .int ((nI h2) + 1)), (4, .int (nI i)), (0, .ref (g.2.1 49)), (1, .int (nI c))] dX10_layOn_55 rfl (by decide) rfl ?_
                  refine x_goto 19 dX10_layOn_56 (by decide) ?_
                  refine x_lv [2, 0, 1, 3, 4] rfl ?_
                  refine YY.L (lv' := [(4, .int (nI i)), (3, .int 0), (2, .int (nI (h2 + 1))), (0, .ref (g.2.1 49)), (1, .int (nI c))]) (by rw [nI_1] <;> rfl) ?_
                  exact ih1 (h2 + 1) 0 (by omega) (by rw [← hK, show S.2.1 - h2 = (S.2.1 - (h2 + 1)) + 1 by omega, skN_miss (fun q => by first | exact absurd q.1 (by assumption) | exact absurd q.2 (by assumption))]) (by omega)
        exact lp3 _ h b (by omega) (by unfold ltK; rw [hM]) (Nat.lt_succ_self _)
  refine YY.L (lv' := [(4, .int (nI 0)), (3, .int o), (2, .int (nI c)), (0, .ref (g.2.1 49)), (1, .int (nI c))]) (by rfl) ?_
  exact lp1 _ 0 c o V (by omega) (by omega) (by rfl) (by exact fr71.refl V) (by exact fun i q => absurd q (Nat.not_lt_zero _)) (Nat.lt_succ_self _)
