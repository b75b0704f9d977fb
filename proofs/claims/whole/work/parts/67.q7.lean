theorem fall_inr {m : Nat → Int32} {N : Nat} {t : Int32} {S : FS} (hw : WF m N) (hS : fall m t N = S) : ∀ i, i < S.1 → inR (S.2.2 0 i) ∧ inR (S.2.2 1 i) := by
  obtain ⟨g1, g2, -, -⟩ := fall_ok hw t N (Nat.le_refl _)
  rw [hS] at g1 g2
  intro i hi
  rcases Nat.eq_zero_or_pos N with q | q
  · rw [q] at g2; omega
  · exact (g1 q).2.2.2 i hi
theorem inR_i {x : Int32} (h : inR x) : -4000 ≤ x.toInt ∧ x.toInt ≤ 4000 := ⟨Int32.le_iff_toInt_le.mp h.1, Int32.le_iff_toInt_le.mp h.2⟩
theorem mul_bd {a b : Int} (ha : -8000 ≤ a ∧ a ≤ 8000) (hb : -8000 ≤ b ∧ b ≤ 8000) : -64000000 ≤ a * b ∧ a * b ≤ 64000000 := by
  have h1 : (a * b).natAbs ≤ 64000000 := by
    rw [Int.natAbs_mul]
    calc a.natAbs * b.natAbs ≤ 8000 * 8000 := Nat.mul_le_mul (by omega) (by omega)
      _ = 64000000 := rfl
  omega
theorem nI_s1 {a : Nat} (h : 1 ≤ a) : nI a - 1 = nI (a - 1) := nsub (b := 1) h rfl rfl
def eL (P : Int64 → vM → Prop) : Option Value → vM → Prop := fun r U => ∃ z, r = some (.long z) ∧ P z U
def bef (p q i : Nat) : Nat := if p < i then i - 1 else q - 1
def ccy {M : Type} [Add M] (z : M) (h : Nat → Nat → M) (p q : Nat) : Nat → M
  | 0 => z
  | j + 1 => ccy z h p q j + h (bef p q (p + j)) (p + j)
def mcy {M : Type} [Add M] (z : M) (h : Nat → Nat → M) (p q : Nat) : Nat → M
  | 0 => z
  | j + 1 => mcy z h p q j + h (p + j) (if p + j + 1 < q then p + j + 1 else p)
theorem mcy_1 {M : Type} [Add M] {z : M} {h : Nat → Nat → M} {p q j : Nat} (c : p + j + 1 < q) : mcy z h p q j + h (p + j) (p + j + 1) = mcy z h p q (j + 1) := by
  rw [mcy, if_pos c]
theorem mcy_2 {M : Type} [Add M] {z : M} {h : Nat → Nat → M} {p q j : Nat} (c : ¬ p + j + 1 < q) : mcy z h p q j + h (p + j) p = mcy z h p q (j + 1) := by
  rw [mcy, if_neg c]
theorem ccy_s {M : Type} [Add M] {z : M} {h : Nat → Nat → M} {p q j : Nat} : ccy z h p q j + h (bef p q (p + j)) (p + j) = ccy z h p q (j + 1) := rfl
theorem cyc_eq {M : Type} [Add M] (hr : ∀ a b c : M, a + b + c = a + c + b) (z : M) (h : Nat → Nat → M) (p n : Nat) : ccy z h p (p + n + 1) (n + 1) = mcy z h p (p + n + 1) (n + 1) := by
  have key : ∀ j, j ≤ n → ccy z h p (p + n + 1) (j + 1) = mcy z h p (p + n + 1) j + h (p + n) p := by
    intro j
    induction j with
    | zero =>
      intro _
      show z + h (bef p (p + n + 1) (p + 0)) (p + 0) = z + h (p + n) p
      rw [bef, if_neg (by omega), Nat.add_sub_cancel]
      rfl
    | succ j ih =>
      intro hj
      rw [← ccy_s, ih (by omega), ← mcy_1 (by omega), hr, bef, if_pos (by omega)]
      rfl
  rw [key n (Nat.le_refl _), ← mcy_2 (by omega)]
theorem cyc_eq2 {M : Type} [Add M] (hr : ∀ a b c : M, a + b + c = a + c + b) (z : M) (h : Nat → Nat → M) {p q : Nat} (hpq : p < q) : ccy z h p q (q - p) = mcy z h p q (q - p) := by
  obtain ⟨n, rfl⟩ : ∃ n, q = p + n + 1 := ⟨q - p - 1, by omega⟩
  rw [show p + n + 1 - p = n + 1 by omega]
  exact cyc_eq hr z h p n
def g2 (S : FS) (a b : Nat) : Int64 := (S.2.2 0 a).toInt64 * (S.2.2 1 b).toInt64 - (S.2.2 0 b).toInt64 * (S.2.2 1 a).toInt64
/-- the same of two vertices, in 32 bits -/
def tn2 (S : FS) (a b : Nat) : Int32 := S.2.2 0 a * S.2.2 1 b - S.2.2 0 b * S.2.2 1 a
theorem tn2_g2 {S : FS} {a b : Nat} (ha : inR (S.2.2 0 a) ∧ inR (S.2.2 1 a)) (hb : inR (S.2.2 0 b) ∧ inR (S.2.2 1 b)) : (tn2 S a b).toInt64 = g2 S a b := by
  have a0 := inR_i ha.1
  have a1 := inR_i ha.2
  have b0 := inR_i hb.1
  have b1 := inR_i hb.2
  have m1 := mul_bd (a := (S.2.2 0 a).toInt) (b := (S.2.2 1 b).toInt) (by omega) (by omega)
  have m2 := mul_bd (a := (S.2.2 0 b).toInt) (b := (S.2.2 1 a).toInt) (by omega) (by omega)
  have f1 : (S.2.2 0 a * S.2.2 1 b).toInt = (S.2.2 0 a).toInt * (S.2.2 1 b).toInt := by rw [fb_mulI] <;> omega
  have f2 : (S.2.2 0 b * S.2.2 1 a).toInt = (S.2.2 0 b).toInt * (S.2.2 1 a).toInt := by rw [fb_mulI] <;> omega
  have e1 : ((S.2.2 0 a).toInt64 * (S.2.2 1 b).toInt64).toInt = (S.2.2 0 a).toInt * (S.2.2 1 b).toInt := by rw [fb_mulL] <;> rw [Int32.toInt_toInt64, Int32.toInt_toInt64] <;> omega
  have e2 : ((S.2.2 0 b).toInt64 * (S.2.2 1 a).toInt64).toInt = (S.2.2 0 b).toInt * (S.2.2 1 a).toInt := by rw [fb_mulL] <;> rw [Int32.toInt_toInt64, Int32.toInt_toInt64] <;> omega
  apply Int64.toInt_inj.mp
  unfold tn2 g2
  rw [Int32.toInt_toInt64, fb_subI, fb_subL, f1, f2, e1, e2] <;> first | (rw [f1, f2]; omega) | (rw [e1, e2]; omega)
def areaZ (S : FS) (fb : Nat → Nat) (c : Int32) : Int64 := if 0 ≤ c ∧ c < nI S.2.1 then ccy 0 (g2 S) (fb c.toNatClampNeg) (fb (c.toNatClampNeg + 1)) (fb (c.toNatClampNeg + 1) - fb c.toNatClampNeg) else -1000000000000000000
theorem areaZ_no {S : FS} {fb : Nat → Nat} {c : Int32} (h : ¬ (0 ≤ c ∧ c < nI S.2.1)) : areaZ S fb c = -1000000000000000000 := if_neg h
theorem areaZ_k {S : FS} {fb : Nat → Nat} {c : Int32} {k : Nat} (h24 : S.2.1 ≤ 24) (hk : c = nI k) (hS : k < S.2.1) : areaZ S fb c = ccy 0 (g2 S) (fb k) (fb (k + 1)) (fb (k + 1) - fb k) := by
  unfold areaZ
  rw [hk, if_pos (nI_bt (by omega) hS), nI_clamp (by omega)]
theorem rcI (a b c : Int32) : a + b + c = a + c + b := by rw [Int32.add_assoc, Int32.add_comm b c, ← Int32.add_assoc]
theorem rcL (a b c : Int64) : a + b + c = a + c + b := by rw [Int64.add_assoc, Int64.add_comm b c, ← Int64.add_assoc]
set_option maxHeartbeats 1000000 in
set_option maxRecDepth 100000 in
theorem mX1_vertexBefore {g : gX} {V : vM} {S : FS} {fb : Nat → Nat} (hF : FRC V S) (hG : GI S fb) (h24 : S.2.1 ≤ 24) (h15 : S.1 ≤ 1536) (c : Nat) (hc : c < S.2.1) (i : Nat) (hi : fb c ≤ i ∧ i < fb (c + 1)) : MM g jX1_vertexBefore V [.ref (g.2.1 6), .int (nI i), .int (nI c)] (pI V (nI (bef (fb c) (fb (c + 1)) i))) := by
  refine MM.of plX1_vertexBefore (Nat.le_of_ble_eq_true rfl) ?_
  obtain ⟨Q, hQ⟩ : ∃ Q : Option Value → vM → Prop, Q = (pI V (nI (bef (fb c) (fb (c + 1)) i))) := ⟨_, rfl⟩
  rw [← hQ]
  show XX g jX1_vertexBefore Q V 0 [(0, .ref (g.2.1 6)), (1, .int (nI i)), (2, .int (nI c))] []
  have hbd := hG.bd (j := c + 1) (by omega)
  have hlt := (hG.2.2.2 c hc).1
  have hV0 : V 24 c = nI (fb c) := by rw [hF.2.2.2.1 c (by omega), hG.2.2.1 c (by omega)]
  have hV1 : V 24 (c + 1) = nI (fb (c + 1)) := by rw [hF.2.2.2.1 (c + 1) (by omega), hG.2.2.1 (c + 1) (by omega)]
  refine x_iload_n dX1_vertexBefore_0 1 rfl ?_
  refine x_aload_n dX1_vertexBefore_1 0 rfl ?_
  refine x_iload_n dX1_vertexBefore_2 2 rfl ?_
  refine x_callV (K := jX1_firstOf) [.int (nI c)] lk_X1_101 ⟨⟨rfl, rfl⟩, Nat.le_of_ble_eq_true rfl, Nat.le_of_ble_eq_true rfl⟩ rfl rfl (mX1_firstOf hF hG h24 h15 c (by omega)) rfl (Nat.le_of_ble_eq_true rfl) rfl dX1_vertexBefore_3 (kpI ?_)
  refine x_icmp_le 15 dX1_vertexBefore_6 (by decide) (fun c1 => ?_) (fun c1 => ?_)
  · have c1n : i ≤ fb c := (nl_le (a := i) (b := fb c) (rfl) (rfl) (by omega) (by omega)).mp c1
    refine x_aload_n dX1_vertexBefore_15 0 rfl ?_
    refine x_iload_n dX1_vertexBefore_16 2 rfl ?_
    refine x_iconst (v := 1) dX1_vertexBefore_17 (by decide) ?_
    refine x_iadd dX1_vertexBefore_18 ?_
    have q2 : ((nI c) + 1 : Int32) = nI (c + 1) := nadd (rfl) (rfl)
    refine YY.S (st' := [.int (nI (c + 1)), .ref (g.2.1 6)]) (by rw [q2]) ?_
    refine x_callV (K := jX1_firstOf) [.int (nI (c + 1))] lk_X1_101 ⟨⟨rfl, rfl⟩, Nat.le_of_ble_eq_true rfl, Nat.le_of_ble_eq_true rfl⟩ rfl rfl (mX1_firstOf hF hG h24 h15 (c + 1) (by omega)) rfl (Nat.le_of_ble_eq_true rfl) rfl dX1_vertexBefore_19 (kpI ?_)
    refine x_iconst (v := 1) dX1_vertexBefore_22 (by decide) ?_
    refine x_isub dX1_vertexBefore_23 ?_
    refine x_iret dX1_vertexBefore_24 rfl ?_
    rw [hQ]
    refine ⟨rfl, ?_⟩
    unfold bef
    first | rw [if_pos (by omega), nI_s1 (a := i) (by omega)] | rw [if_neg (by omega), nI_s1 (a := fb (c + 1)) (by omega)]
  · have c1n : fb c < i := Nat.not_le.mp (fun q => c1 ((nl_le (a := i) (b := fb c) (rfl) (rfl) (by omega) (by omega)).mpr q))
    refine x_iload_n dX1_vertexBefore_9 1 rfl ?_
    refine x_iconst (v := 1) dX1_vertexBefore_10 (by decide) ?_
    refine x_isub dX1_vertexBefore_11 ?_
    refine x_goto 24 dX1_vertexBefore_12 (by decide) ?_
    refine x_iret dX1_vertexBefore_24 rfl ?_
    rw [hQ]
    refine ⟨rfl, ?_⟩
    unfold bef
    first | rw [if_pos (by omega), nI_s1 (a := i) (by omega)] | rw [if_neg (by omega), nI_s1 (a := fb (c + 1)) (by omega)]
set_option maxHeartbeats 1000000 in
set_option maxRecDepth 100000 in
theorem mX1_turn {g : gX} {V : vM} {S : FS} {fb : Nat → Nat} (hF : FRC V S) (hG : GI S fb) (h24 : S.2.1 ≤ 24) (h15 : S.1 ≤ 1536) (a b : Nat) (ha : a < S.1) (hb : b < S.1) : MM g jX1_turn V [.ref (g.2.1 6), .int (nI a), .int (nI b)] (pI V (tn2 S a b)) := by
  refine MM.of plX1_turn (Nat.le_of_ble_eq_true rfl) ?_
  obtain ⟨Q, hQ⟩ : ∃ Q : Option Value → vM → Prop, Q = (pI V (tn2 S a b)) := ⟨_, rfl⟩
  rw [← hQ]
  show XX g jX1_turn Q V 0 [(0, .ref (g.2.1 6)), (1, .int (nI a)), (2, .int (nI b))] []
  refine x_aload_n dX1_turn_0 0 rfl ?_
  refine x_iload_n dX1_turn_1 1 rfl ?_
  refine x_callV (K := jX1_isVertex) [.int (nI a)] lk_X1_117 ⟨⟨rfl, rfl⟩, Nat.le_of_ble_eq_true rfl, Nat.le_of_ble_eq_true rfl⟩ rfl rfl (mX1_isVertex hF hG h24 h15 a (by omega)) rfl (Nat.le_of_ble_eq_true rfl) rfl dX1_turn_2 (kpI ?_)
  refine x_if_eq 46 dX1_turn_5 (by decide) (fun c1 => by exfalso; revert c1; decide) (fun c1 => ?_)
  refine x_aload_n dX1_turn_8 0 rfl ?_
  refine x_iload_n dX1_turn_9 2 rfl ?_
  refine x_callV (K := jX1_isVertex) [.int (nI b)] lk_X1_117 ⟨⟨rfl, rfl⟩, Nat.le_of_ble_eq_true rfl, Nat.le_of_ble_eq_true rfl⟩ rfl rfl (mX1_isVertex hF hG h24 h15 b (by omega)) rfl (Nat.le_of_ble_eq_true rfl) rfl dX1_turn_10 (kpI ?_)
  refine x_if_eq 46 dX1_turn_13 (by decide) (fun c2 => by exfalso; revert c2; decide) (fun c2 => ?_)
  refine x_aload_n dX1_turn_16 0 rfl ?_
  refine x_getR fl_X1_9 rfl rfl dX1_turn_17 ?_
  refine x_iload_n dX1_turn_20 1 rfl ?_
  have b3 : vp_in (nI a) 1536 := by exact vp_in_nI (by omega) (by decide)
  refine x_iald rfl b3 dX1_turn_21 ?_
  refine x_topi (y := V 20 a) (by rw [nI_clamp (by omega)]) ?_
  refine x_topi ((hF.2.2.1 a (by omega)).1) ?_
  refine x_aload_n dX1_turn_22 0 rfl ?_
  refine x_getR fl_X1_15 rfl rfl dX1_turn_23 ?_
  refine x_iload_n dX1_turn_26 2 rfl ?_
  have b4 : vp_in (nI b) 1536 := by exact vp_in_nI (by omega) (by decide)
  refine x_iald rfl b4 dX1_turn_27 ?_
  refine x_topi (y := V 21 b) (by rw [nI_clamp (by omega)]) ?_
  refine x_topi ((hF.2.2.1 b (by omega)).2.1) ?_
  refine x_imul dX1_turn_28 ?_
  refine x_aload_n dX1_turn_29 0 rfl ?_
  refine x_getR fl_X1_9 rfl rfl dX1_turn_30 ?_
  refine x_iload_n dX1_turn_33 2 rfl ?_
  have b5 : vp_in (nI b) 1536 := by exact vp_in_nI (by omega) (by decide)
  refine x_iald rfl b5 dX1_turn_34 ?_
  refine x_topi (y := V 20 b) (by rw [nI_clamp (by omega)]) ?_
  refine x_topi ((hF.2.2.1 b (by omega)).1) ?_
  refine x_aload_n dX1_turn_35 0 rfl ?_
  refine x_getR fl_X1_15 rfl rfl dX1_turn_36 ?_
  refine x_iload_n dX1_turn_39 1 rfl ?_
  have b6 : vp_in (nI a) 1536 := by exact vp_in_nI (by omega) (by decide)
  refine x_iald rfl b6 dX1_turn_40 ?_
  refine x_topi (y := V 21 a) (by rw [nI_clamp (by omega)]) ?_
  refine x_topi ((hF.2.2.1 a (by omega)).2.1) ?_
  refine x_imul dX1_turn_41 ?_
  refine x_isub dX1_turn_42 ?_
  refine x_goto 47 dX1_turn_43 (by decide) ?_
  refine x_iret dX1_turn_47 rfl ?_
  rw [hQ]
  exact ⟨rfl, rfl⟩
set_option maxHeartbeats 1000000 in
set_option maxRecDepth 100000 in
theorem mX1_twiceTheArea {g : gX} {V : vM} {S : FS} {fb : Nat → Nat} (hF : FRC V S) (hG : GI S fb) (h24 : S.2.1 ≤ 24) (h15 : S.1 ≤ 1536) (hR : ∀ i, i < S.1 → inR (S.2.2 0 i) ∧ inR (S.2.2 1 i)) (c : Nat) (hc : c < S.2.1) : MM g jX1_twiceTheArea V [.ref (g.2.1 6), .int (nI c)] (pL V (ccy 0 (g2 S) (fb c) (fb (c + 1)) (fb (c + 1) - fb c))) := by
  refine MM.of plX1_twiceTheArea (Nat.le_of_ble_eq_true rfl) ?_
  obtain ⟨Q, hQ⟩ : ∃ Q : Option Value → vM → Prop, Q = (pL V (ccy 0 (g2 S) (fb c) (fb (c + 1)) (fb (c + 1) - fb c))) := ⟨_, rfl⟩
  rw [← hQ]
  show XX g jX1_twiceTheArea Q V 0 [(0, .ref (g.2.1 6)), (1, .int (nI c))] []
  have hbd := hG.bd (j := c + 1) (by omega)
  have hlt := (hG.2.2.2 c hc).1
  refine x_lconst (v := 0) dX1_twiceTheArea_0 (by decide) ?_
  refine x_lstore_n 2 [(2, .long 0), (0, .ref (g.2.1 6)), (1, .int (nI c))] dX1_twiceTheArea_1 rfl (by decide) rfl ?_
  refine x_aload_n dX1_twiceTheArea_2 1 rfl ?_
  refine x_iload_n dX1_twiceTheArea_3 2 rfl ?_
  refine x_callV (K := jX1_firstOf) [.int (nI c)] lk_X1_101 ⟨⟨rfl, rfl⟩, Nat.le_of_ble_eq_true rfl, Nat.le_of_ble_eq_true rfl⟩ rfl rfl (mX1_firstOf hF hG h24 h15 c (by omega)) rfl (Nat.le_of_ble_eq_true rfl) rfl dX1_twiceTheArea_4 (kpI ?_)
  refine x_istore 4 [(4, .int (nI (fb c))), (2, .long 0), (0, .ref (g.2.1 6)), (1, .int (nI c))] dX1_twiceTheArea_7 (by decide) rfl ?_
  have lp1 : ∀ (fu : Nat) (j : Nat), (fb c + j ≤ fb (c + 1)) → (fb (c + 1) - (fb c + j)) < fu → XX g jX1_twiceTheArea Q V 9 [(4, .int (nI (fb c + j))), (2, .long (ccy 0 (g2 S) (fb c) (fb (c + 1)) j)), (0, .ref (g.2.1 6)), (1, .int (nI c))] [] := by
    intro fu
    induction fu with
    | zero => intro _ _ hmz; exact absurd hmz (Nat.not_lt_zero _)
    | succ fu ih =>
      intro j hj hmz
      refine x_iload dX1_twiceTheArea_9 0 rfl ?_
      refine x_aload_n dX1_twiceTheArea_11 2 rfl ?_
      refine x_iload_n dX1_twiceTheArea_12 3 rfl ?_
      refine x_iconst (v := 1) dX1_twiceTheArea_13 (by decide) ?_
      refine x_iadd dX1_twiceTheArea_14 ?_
      have q2 : ((nI c) + 1 : Int32) = nI (c + 1) := nadd (rfl) (rfl)
      refine YY.S (st' := [.int (nI (c + 1)), .ref (g.2.1 6), .int (nI (fb c + j))]) (by rw [q2]) ?_
      refine x_callV (K := jX1_firstOf) [.int (nI (c + 1))] lk_X1_101 ⟨⟨rfl, rfl⟩, Nat.le_of_ble_eq_true rfl, Nat.le_of_ble_eq_true rfl⟩ rfl rfl (mX1_firstOf hF hG h24 h15 (c + 1) (by omega)) rfl (Nat.le_of_ble_eq_true rfl) rfl dX1_twiceTheArea_15 (kpI ?_)
      refine x_icmp_ge 44 dX1_twiceTheArea_18 (by decide) (fun c3 => ?_) (fun c3 => ?_)
      · have c3n : fb (c + 1) ≤ fb c + j := (nl_le (a := fb (c + 1)) (b := fb c + j) (rfl) (rfl) (by omega) (by omega)).mp c3
        refine x_lload_n dX1_twiceTheArea_44 1 rfl ?_
        refine x_lret dX1_twiceTheArea_45 rfl ?_
        rw [hQ]
        refine ⟨rfl, ?_⟩
        rw [show fb (c + 1) - fb c = j by omega]
      · have c3n : fb c + j < fb (c + 1) := Nat.not_le.mp (fun q => c3 ((nl_le (a := fb (c + 1)) (b := fb c + j) (rfl) (rfl) (by omega) (by omega)).mpr q))
        refine x_lload_n dX1_twiceTheArea_21 1 rfl ?_
        refine x_aload_n dX1_twiceTheArea_22 2 rfl ?_
        refine x_aload_n dX1_twiceTheArea_23 2 rfl ?_
        refine x_iload dX1_twiceTheArea_24 0 rfl ?_
        refine x_iload_n dX1_twiceTheArea_26 3 rfl ?_
        refine x_callV (K := jX1_vertexBefore) [.int (nI (fb c + j)), .int (nI c)] lk_X1_156 ⟨⟨rfl, rfl⟩, Nat.le_of_ble_eq_true rfl, Nat.le_of_ble_eq_true rfl⟩ rfl rfl (mX1_vertexBefore hF hG h24 h15 c (by omega) (fb c + j) ⟨by omega, by omega⟩) rfl (Nat.le_of_ble_eq_true rfl) rfl dX1_twiceTheArea_27 (kpI ?_)
        have hbef : bef (fb c) (fb (c + 1)) (fb c + j) < S.1 := by unfold bef; split <;> omega
        refine x_iload dX1_twiceTheArea_30 0 rfl ?_
        refine x_callV (K := jX1_turn) [.int (nI (bef (fb c) (fb (c + 1)) (fb c + j))), .int (nI (fb c + j))] lk_X1_163 ⟨⟨rfl, rfl⟩, Nat.le_of_ble_eq_true rfl, Nat.le_of_ble_eq_true rfl⟩ rfl rfl (mX1_turn hF hG h24 h15 (bef (fb c) (fb (c + 1)) (fb c + j)) (fb c + j) (by omega) (by omega)) rfl (Nat.le_of_ble_eq_true rfl) rfl dX1_twiceTheArea_32 (kpI ?_)
        refine x_i2l dX1_twiceTheArea_35 ?_
        refine x_topl (y := g2 S (bef (fb c) (fb (c + 1)) (fb c + j)) (fb c + j)) (tn2_g2 (hR _ (by omega)) (hR _ (by omega))) ?_
        refine x_ladd dX1_twiceTheArea_36 ?_
        refine x_lstore_n 2 [(2, .long ((ccy 0 (g2 S) (fb c) (fb (c + 1)) j) + (g2 S (bef (fb c) (fb (c + 1)) (fb c + j)) (fb c + j)))), (4, .int (nI (fb c + j))), (0, .ref (g.2.1 6)), (1, .int (nI c))] dX1_twiceTheArea_37 rfl (by decide) rfl ?_
        refine x_iinc 4 (v := (nI (fb c + j)) + 1) 1 [(4, .int ((nI (fb c + j)) + 1)), (2, .long ((ccy 0 (g2 S) (fb c) (fb (c + 1)) j) + (g2 S (bef (fb c) (fb (c + 1)) (fb c + j)) (fb c + j)))), (0, .ref (g.2.1 6)), (1, .int (nI c))] dX1_twiceTheArea_38 rfl (by rfl) (by decide) rfl ?_
        refine x_goto 9 dX1_twiceTheArea_41 (by decide) ?_
        refine YY.L (lv' := [(4, .int (nI (fb c + (j + 1)))), (2, .long (ccy 0 (g2 S) (fb c) (fb (c + 1)) (j + 1))), (0, .ref (g.2.1 6)), (1, .int (nI c))]) (by simp only [nI_1]; rfl) ?_
        exact ih (j + 1) (by omega) (by omega)
  refine YY.L (lv' := [(4, .int (nI (fb c + 0))), (2, .long (ccy 0 (g2 S) (fb c) (fb (c + 1)) 0)), (0, .ref (g.2.1 6)), (1, .int (nI c))]) (by rfl) ?_
  exact lp1 _ 0 (by omega) (Nat.lt_succ_self _)
set_option maxHeartbeats 1000000 in
set_option maxRecDepth 100000 in
theorem mX9_area {g : gX} {V : vM} {m : Nat → Int32} {N : Nat} {t : Int32} {S : FS} {fb : Nat → Nat} (hCQ : CQ V m N t S fb) (c : Int32) : MM g jX9_area V [.ref (g.2.1 0), .int c] (eL (fun z U => z = areaZ S fb c ∧ CQ U m N t S fb ∧ frQ V U)) := by
  refine MM.of plX9_area (Nat.le_of_ble_eq_true rfl) ?_
  obtain ⟨Q, hQ⟩ : ∃ Q : Option Value → vM → Prop, Q = (eL (fun z U => z = areaZ S fb c ∧ CQ U m N t S fb ∧ frQ V U)) := ⟨_, rfl⟩
  rw [← hQ]
  show XX g jX9_area Q V 0 [(0, .ref (g.2.1 0)), (1, .int c)] []
  obtain ⟨hC, hS, hG, h24, h15, hcn, hL⟩ := id hCQ
  have hP0 := hC.1
  have hV13 : V 1 3 = nI S.2.1 := by rw [hP0.2.1, hcn]
  have hN24 := hP0.2.2.1.1
  have hcl := cntM_le (kd7 m) N
  refine x_aload_n dX9_area_0 0 rfl ?_
  refine x_iload_n dX9_area_1 1 rfl ?_
  refine x_callV (K := jX9_isContour) [.int c] lk_X9_133 ⟨⟨rfl, rfl⟩, Nat.le_of_ble_eq_true rfl, Nat.le_of_ble_eq_true rfl⟩ rfl rfl (by have := mX9_isContour (g := g) V c; rw [hV13] at this; exact this) rfl (Nat.le_of_ble_eq_true rfl) rfl dX9_area_2 (kpI ?_)
  refine x_if_ne 12 dX9_area_5 (by decide) (fun c1 => ?_) (fun c1 => ?_)
  · have c1n : (0 ≤ c ∧ c < nI S.2.1) := Classical.not_not.mp (fun q => c1 (iB_0.mpr q))
    obtain ⟨k, hk0, hkS⟩ := nI_ex (c := c) (n := S.2.1) (by omega) (by assumption)
    refine YY.L (lv' := [(0, .ref (g.2.1 0)), (1, .int (nI k))]) (by rw [hk0]) ?_
    have hkb := hG.bd (j := k + 1) (by omega)
    have hkl := (hG.2.2.2 k hkS).1
    refine x_aload_n dX9_area_12 0 rfl ?_
    refine x_callV (K := jX9_flattened) [] lk_X9_118 ⟨⟨rfl, rfl⟩, Nat.le_of_ble_eq_true rfl, Nat.le_of_ble_eq_true rfl⟩ rfl rfl (mX9_flattened hC) rfl (Nat.le_of_ble_eq_true rfl) rfl dX9_area_13 (keR fun U2 hU3 => ?_)
    have hCQ2 := hCQ.aft hU3
    have hFr := hU3.2.2
    have hF : FRC U2 S := by rw [← hS]; exact hU3.1
    have hPU := hCQ2.1.1
    have hU13 : U2 1 3 = nI (S.2.1) := by rw [hPU.2.1, hcn]
    refine x_iload_n dX9_area_16 1 rfl ?_
    refine x_callV (K := jX1_twiceTheArea) [.int (nI k)] lk_X9_212 ⟨⟨rfl, rfl⟩, Nat.le_of_ble_eq_true rfl, Nat.le_of_ble_eq_true rfl⟩ rfl rfl (mX1_twiceTheArea hF hG h24 h15 (fall_inr hP0.2.2.1 hS) k (by omega)) rfl (Nat.le_of_ble_eq_true rfl) rfl dX9_area_17 (kpL ?_)
    refine x_lret dX9_area_20 rfl ?_
    rw [hQ]
    first
      | exact ⟨_, rfl, (areaZ_no (by assumption)).symm, hCQ, frQ.refl V⟩
      | exact ⟨_, rfl, (areaZ_k h24 hk0 hkS).symm, hCQ2, hFr⟩
  · have c1n : ¬ (0 ≤ c ∧ c < nI S.2.1) := iB_0.mp c1
    refine x_ldc2 ct_X9_210 dX9_area_8 ?_
    refine x_lret dX9_area_11 rfl ?_
    rw [hQ]
    first
      | exact ⟨_, rfl, (areaZ_no (by assumption)).symm, hCQ, frQ.refl V⟩
      | exact ⟨_, rfl, (areaZ_k h24 hk0 hkS).symm, hCQ2, hFr⟩
set_option maxHeartbeats 1000000 in
set_option maxRecDepth 100000 in
theorem mX10_area {g : gX} {V : vM} {m : Nat → Int32} {N : Nat} {t : Int32} {S : FS} {fb : Nat → Nat} (hMQ : MZ V m N t S fb) (c : Int32) : MM g jX10_area V [.ref (g.2.1 49), .int c] (eL (fun z U => z = areaZ S fb c ∧ MZ U m N t S fb ∧ frM V U)) := by
  refine MM.of plX10_area (Nat.le_of_ble_eq_true rfl) ?_
  obtain ⟨Q, hQ⟩ : ∃ Q : Option Value → vM → Prop, Q = (eL (fun z U => z = areaZ S fb c ∧ MZ U m N t S fb ∧ frM V U)) := ⟨_, rfl⟩
  rw [← hQ]
  show XX g jX10_area Q V 0 [(0, .ref (g.2.1 49)), (1, .int c)] []
  obtain ⟨hw, hm50, hN8, ht9, hS, hG, h24, h15, hcn, hL⟩ := id hMQ
  have hN24 := hw.1
  have hcl := cntM_le (kd7 m) N
  refine x_aload_n dX10_area_0 0 rfl ?_
  refine x_iload_n dX10_area_1 1 rfl ?_
  refine x_callV (K := jX10_isContour) [.int c] lk_X10_123 ⟨⟨rfl, rfl⟩, Nat.le_of_ble_eq_true rfl, Nat.le_of_ble_eq_true rfl⟩ rfl rfl (by have := mX10_isContour (g := g) V N hw.1 (by rw [hm50]; exact hN8) (by rw [hm50]; exact hw) c; rw [hm50, ← hcn] at this; exact this) rfl (Nat.le_of_ble_eq_true rfl) rfl dX10_area_2 (kpI ?_)
  refine x_if_ne 12 dX10_area_5 (by decide) (fun c1 => ?_) (fun c1 => ?_)
  · have c1n : (0 ≤ c ∧ c < nI S.2.1) := Classical.not_not.mp (fun q => c1 (iB_0.mpr q))
    obtain ⟨k, hk0, hkS⟩ := nI_ex (c := c) (n := S.2.1) (by omega) (by assumption)
    refine YY.L (lv' := [(0, .ref (g.2.1 49)), (1, .int (nI k))]) (by rw [hk0]) ?_
    have hkb := hG.bd (j := k + 1) (by omega)
    have hkl := (hG.2.2.2 k hkS).1
    refine x_aload_n dX10_area_12 0 rfl ?_
    refine x_callV (K := jX10_flatten) [] lk_X10_111 ⟨⟨rfl, rfl⟩, Nat.le_of_ble_eq_true rfl, Nat.le_of_ble_eq_true rfl⟩ rfl rfl (mX10_flatten V hw hm50 hN8 t ht9) rfl (Nat.le_of_ble_eq_true rfl) rfl dX10_area_13 (keV fun U2 hU3 => ?_)
    have hMQ2 := hMQ.aft hU3
    have hFr := hU3.2.2
    have hF : FRM U2 S N := by rw [← hS]; exact hU3.1
    have hE : U2 65 S.2.1 = nI S.1 := by rw [← hS]; exact hU3.2.1
    have hmU := hMQ2.2.1
    have hUk : U2 65 k = nI (fb k) := hF.bo hE hG (by omega)
    have hUk1 : U2 65 (k + 1) = nI (fb (k + 1)) := hF.bo hE hG (by omega)
    refine x_lconst (v := 0) dX10_area_16 (by decide) ?_
    refine x_lstore_n 2 [(2, .long 0), (0, .ref (g.2.1 49)), (1, .int (nI k))] dX10_area_17 rfl (by decide) rfl ?_
    refine x_aload_n dX10_area_18 1 rfl ?_
    refine x_getR fl_X10_56 rfl rfl dX10_area_19 ?_
    refine x_iload_n dX10_area_22 2 rfl ?_
    have b4 : vp_in (nI k) 26 := by exact vp_in_nI (by omega) (by decide)
    refine x_iald rfl b4 dX10_area_23 ?_
    refine x_topi (y := U2 65 k) (by rw [nI_clamp (by omega)]) ?_
    refine x_topi (hUk) ?_
    refine x_istore 4 [(4, .int (nI (fb k))), (2, .long 0), (0, .ref (g.2.1 49)), (1, .int (nI k))] dX10_area_24 (by decide) rfl ?_
    have lp5 : ∀ (fu : Nat) (j : Nat), (fb k + j ≤ fb (k + 1)) → (fb (k + 1) - (fb k + j)) < fu → XX g jX10_area Q U2 26 [(4, .int (nI (fb k + j))), (2, .long (mcy 0 (g2 S) (fb k) (fb (k + 1)) j)), (0, .ref (g.2.1 49)), (1, .int (nI k))] [] := by
      intro fu
      induction fu with
      | zero => intro _ _ hmz; exact absurd hmz (Nat.not_lt_zero _)
      | succ fu ih =>
        intro j hj hmz
        refine x_iload dX10_area_26 0 rfl ?_
        refine x_aload_n dX10_area_28 2 rfl ?_
        refine x_getR fl_X10_56 rfl rfl dX10_area_29 ?_
        refine x_iload_n dX10_area_32 3 rfl ?_
        refine x_iconst (v := 1) dX10_area_33 (by decide) ?_
        refine x_iadd dX10_area_34 ?_
        have q6 : ((nI k) + 1 : Int32) = nI (k + 1) := nadd (rfl) (rfl)
        refine YY.S (st' := [.int (nI (k + 1)), .ref (g.2.1 65), .int (nI (fb k + j))]) (by rw [q6]) ?_
        have b7 : vp_in (nI (k + 1)) 26 := by exact vp_in_nI (by omega) (by decide)
        refine x_iald rfl b7 dX10_area_35 ?_
        refine x_topi (y := U2 65 (k + 1)) (by rw [nI_clamp (by omega)]) ?_
        refine x_topi (hUk1) ?_
        refine x_icmp_ge 113 dX10_area_36 (by decide) (fun c8 => ?_) (fun c8 => ?_)
        · have c8n : fb (k + 1) ≤ fb k + j := (nl_le (a := fb (k + 1)) (b := fb k + j) (rfl) (rfl) (by omega) (by omega)).mp c8
          refine x_lload_n dX10_area_113 1 rfl ?_
          refine x_lret dX10_area_114 rfl ?_
          rw [hQ]
          first
            | exact ⟨_, rfl, (areaZ_no (by assumption)).symm, hMQ, frM.refl V⟩
            | (refine ⟨_, rfl, ?_, hMQ2, hFr⟩
               rw [areaZ_k h24 hk0 hkS, cyc_eq2 rcL 0 (g2 S) hkl, show fb (k + 1) - fb k = j by omega])
        · have c8n : fb k + j < fb (k + 1) := Nat.not_le.mp (fun q => c8 ((nl_le (a := fb (k + 1)) (b := fb k + j) (rfl) (rfl) (by omega) (by omega)).mpr q))
          refine x_iload dX10_area_39 0 rfl ?_
          refine x_iconst (v := 1) dX10_area_41 (by decide) ?_
          refine x_iadd dX10_area_42 ?_
          refine x_aload_n dX10_area_43 2 rfl ?_
          refine x_getR fl_X10_56 rfl rfl dX10_area_44 ?_
          refine x_iload_n dX10_area_47 3 rfl ?_
          refine x_iconst (v := 1) dX10_area_48 (by decide) ?_
          refine x_iadd dX10_area_49 ?_
          have q9 : ((nI k) + 1 : Int32) = nI (k + 1) := nadd (rfl) (rfl)
          refine YY.S (st' := [.int (nI (k + 1)), .ref (g.2.1 65), .int ((nI (fb k + j)) + 1)]) (by rw [q9]) ?_
          have b10 : vp_in (nI (k + 1)) 26 := by exact vp_in_nI (by omega) (by decide)
          refine x_iald rfl b10 dX10_area_50 ?_
          refine x_topi (y := U2 65 (k + 1)) (by rw [nI_clamp (by omega)]) ?_
          refine x_topi (hUk1) ?_
          refine x_icmp_ge 61 dX10_area_51 (by decide) (fun c11 => ?_) (fun c11 => ?_)
          · have c11n : fb (k + 1) ≤ (fb k + j) + 1 := (nl_le (a := fb (k + 1)) (b := (fb k + j) + 1) (rfl) (nadd (rfl) (rfl)) (by omega) (by omega)).mp c11
            refine x_aload_n dX10_area_61 2 rfl ?_
            refine x_getR fl_X10_56 rfl rfl dX10_area_62 ?_
            refine x_iload_n dX10_area_65 3 rfl ?_
            have b12 : vp_in (nI k) 26 := by exact vp_in_nI (by omega) (by decide)
            refine x_iald rfl b12 dX10_area_66 ?_
            refine x_topi (y := U2 65 k) (by rw [nI_clamp (by omega)]) ?_
            refine x_topi (hUk) ?_
            refine x_istore 5 [(5, .int (nI (fb k))), (4, .int (nI (fb k + j))), (2, .long (mcy 0 (g2 S) (fb k) (fb (k + 1)) j)), (0, .ref (g.2.1 49)), (1, .int (nI k))] dX10_area_67 (by decide) rfl ?_
            refine x_lload_n dX10_area_69 2 rfl ?_
            refine x_aload_n dX10_area_70 3 rfl ?_
            refine x_getR fl_X10_47 rfl rfl dX10_area_71 ?_
            refine x_iload dX10_area_74 1 rfl ?_
            have b13 : vp_in (nI (fb k + j)) 1700 := by exact vp_in_nI (by omega) (by decide)
            refine x_iald rfl b13 dX10_area_76 ?_
            refine x_topi (y := U2 62 (fb k + j)) (by rw [nI_clamp (by omega)]) ?_
            refine x_topi (show U2 62 (fb k + j) = S.2.2 0 (fb k + j) from (hF.2.2.1 (fb k + j) (by omega)).1) ?_
            refine x_i2l dX10_area_77 ?_
            refine x_aload_n dX10_area_78 3 rfl ?_
            refine x_getR fl_X10_50 rfl rfl dX10_area_79 ?_
            refine x_iload dX10_area_82 0 rfl ?_
            have b14 : vp_in (nI (fb k)) 1700 := by exact vp_in_nI (by omega) (by decide)
            refine x_iald rfl b14 dX10_area_84 ?_
            refine x_topi (y := U2 63 (fb k)) (by rw [nI_clamp (by omega)]) ?_
            refine x_topi (show U2 63 (fb k) = S.2.2 1 (fb k) from (hF.2.2.1 (fb k) (by omega)).2.1) ?_
            refine x_i2l dX10_area_85 ?_
            refine x_lmul dX10_area_86 ?_
            refine x_aload_n dX10_area_87 3 rfl ?_
            refine x_getR fl_X10_47 rfl rfl dX10_area_88 ?_
            refine x_iload dX10_area_91 0 rfl ?_
            have b15 : vp_in (nI (fb k)) 1700 := by exact vp_in_nI (by omega) (by decide)
            refine x_iald rfl b15 dX10_area_93 ?_
            refine x_topi (y := U2 62 (fb k)) (by rw [nI_clamp (by omega)]) ?_
            refine x_topi (show U2 62 (fb k) = S.2.2 0 (fb k) from (hF.2.2.1 (fb k) (by omega)).1) ?_
            refine x_i2l dX10_area_94 ?_
            refine x_aload_n dX10_area_95 3 rfl ?_
            refine x_getR fl_X10_50 rfl rfl dX10_area_96 ?_
            refine x_iload dX10_area_99 1 rfl ?_
            have b16 : vp_in (nI (fb k + j)) 1700 := by exact vp_in_nI (by omega) (by decide)
            refine x_iald rfl b16 dX10_area_101 ?_
            refine x_topi (y := U2 63 (fb k + j)) (by rw [nI_clamp (by omega)]) ?_
            refine x_topi (show U2 63 (fb k + j) = S.2.2 1 (fb k + j) from (hF.2.2.1 (fb k + j) (by omega)).2.1) ?_
            refine x_i2l dX10_area_102 ?_
            refine x_lmul dX10_area_103 ?_
            refine x_lsub dX10_area_104 ?_
            refine x_ladd dX10_area_105 ?_
            refine x_lstore_n 2 [(2, .long ((mcy 0 (g2 S) (fb k) (fb (k + 1)) j) + ((((S.2.2 0 (fb k + j)).toInt64) * ((S.2.2 1 (fb k)).toInt64)) - (((S.2.2 0 (fb k)).toInt64) * ((S.2.2 1 (fb k + j)).toInt64))))), (5, .int (nI (fb k))), (4, .int (nI (fb k + j))), (0, .ref (g.2.1 49)), (1, .int (nI k))] dX10_area_106 rfl (by decide) rfl ?_
            refine x_iinc 4 (v := (nI (fb k + j)) + 1) 2 [(4, .int ((nI (fb k + j)) + 1)), (2, .long ((mcy 0 (g2 S) (fb k) (fb (k + 1)) j) + ((((S.2.2 0 (fb k + j)).toInt64) * ((S.2.2 1 (fb k)).toInt64)) - (((S.2.2 0 (fb k)).toInt64) * ((S.2.2 1 (fb k + j)).toInt64))))), (5, .int (nI (fb k))), (0, .ref (g.2.1 49)), (1, .int (nI k))] dX10_area_107 rfl (by rfl) (by decide) rfl ?_
            refine x_goto 26 dX10_area_110 (by decide) ?_
            refine x_lv [0, 1, 3, 4] rfl ?_
            refine YY.L (lv' := [(4, .int (nI (fb k + (j + 1)))), (2, .long (mcy 0 (g2 S) (fb k) (fb (k + 1)) (j + 1))), (0, .ref (g.2.1 49)), (1, .int (nI k))]) (by first | (rw [← mcy_1 (by omega), nI_1]; rfl) | (rw [← mcy_2 (by omega), nI_1]; rfl)) ?_
            exact ih (j + 1) (by omega) (by omega)
          · have c11n : (fb k + j) + 1 < fb (k + 1) := Nat.not_le.mp (fun q => c11 ((nl_le (a := fb (k + 1)) (b := (fb k + j) + 1) (rfl) (nadd (rfl) rfl) (by omega) (by omega)).mpr q))
            refine x_iload dX10_area_54 0 rfl ?_
            refine x_iconst (v := 1) dX10_area_56 (by decide) ?_
            refine x_iadd dX10_area_57 ?_
            refine x_goto 67 dX10_area_58 (by decide) ?_
            refine x_istore 5 [(5, .int ((nI (fb k + j)) + 1)), (4, .int (nI (fb k + j))), (2, .long (mcy 0 (g2 S) (fb k) (fb (k + 1)) j)), (0, .ref (g.2.1 49)), (1, .int (nI k))] dX10_area_67 (by decide) rfl ?_
            refine x_lload_n dX10_area_69 2 rfl ?_
            refine x_aload_n dX10_area_70 3 rfl ?_
            refine x_getR fl_X10_47 rfl rfl dX10_area_71 ?_
            refine x_iload dX10_area_74 1 rfl ?_
            have b17 : vp_in (nI (fb k + j)) 1700 := by exact vp_in_nI (by omega) (by decide)
            refine x_iald rfl b17 dX10_area_76 ?_
            refine x_topi (y := U2 62 (fb k + j)) (by rw [nI_clamp (by omega)]) ?_
            refine x_topi (show U2 62 (fb k + j) = S.2.2 0 (fb k + j) from (hF.2.2.1 (fb k + j) (by omega)).1) ?_
            refine x_i2l dX10_area_77 ?_
            refine x_aload_n dX10_area_78 3 rfl ?_
            refine x_getR fl_X10_50 rfl rfl dX10_area_79 ?_
            refine x_iload dX10_area_82 0 rfl ?_
            have q18 : ((nI (fb k + j)) + 1 : Int32) = nI ((fb k + j) + 1) := nadd (rfl) (rfl)
            refine YY.S (st' := [.int (nI ((fb k + j) + 1)), .ref (g.2.1 63), .long ((S.2.2 0 (fb k + j)).toInt64), .long (mcy 0 (g2 S) (fb k) (fb (k + 1)) j)]) (by rw [q18]) ?_
            have b19 : vp_in (nI ((fb k + j) + 1)) 1700 := by exact vp_in_nI (by omega) (by decide)
            refine x_iald rfl b19 dX10_area_84 ?_
            refine x_topi (y := U2 63 ((fb k + j) + 1)) (by rw [nI_clamp (by omega)]) ?_
            refine x_topi (show U2 63 ((fb k + j) + 1) = S.2.2 1 ((fb k + j) + 1) from (hF.2.2.1 ((fb k + j) + 1) (by omega)).2.1) ?_
            refine x_i2l dX10_area_85 ?_
            refine x_lmul dX10_area_86 ?_
            refine x_aload_n dX10_area_87 3 rfl ?_
            refine x_getR fl_X10_47 rfl rfl dX10_area_88 ?_
            refine x_iload dX10_area_91 0 rfl ?_
            have q20 : ((nI (fb k + j)) + 1 : Int32) = nI ((fb k + j) + 1) := nadd (rfl) (rfl)
            refine YY.S (st' := [.int (nI ((fb k + j) + 1)), .ref (g.2.1 62), .long (((S.2.2 0 (fb k + j)).toInt64) * ((S.2.2 1 ((fb k + j) + 1)).toInt64)), .long (mcy 0 (g2 S) (fb k) (fb (k + 1)) j)]) (by rw [q20]) ?_
            have b21 : vp_in (nI ((fb k + j) + 1)) 1700 := by exact vp_in_nI (by omega) (by decide)
            refine x_iald rfl b21 dX10_area_93 ?_
            refine x_topi (y := U2 62 ((fb k + j) + 1)) (by rw [nI_clamp (by omega)]) ?_
            refine x_topi (show U2 62 ((fb k + j) + 1) = S.2.2 0 ((fb k + j) + 1) from (hF.2.2.1 ((fb k + j) + 1) (by omega)).1) ?_
            refine x_i2l dX10_area_94 ?_
            refine x_aload_n dX10_area_95 3 rfl ?_
            refine x_getR fl_X10_50 rfl rfl dX10_area_96 ?_
            refine x_iload dX10_area_99 1 rfl ?_
            have b22 : vp_in (nI (fb k + j)) 1700 := by exact vp_in_nI (by omega) (by decide)
            refine x_iald rfl b22 dX10_area_101 ?_
            refine x_topi (y := U2 63 (fb k + j)) (by rw [nI_clamp (by omega)]) ?_
            refine x_topi (show U2 63 (fb k + j) = S.2.2 1 (fb k + j) from (hF.2.2.1 (fb k + j) (by omega)).2.1) ?_
            refine x_i2l dX10_area_102 ?_
            refine x_lmul dX10_area_103 ?_
            refine x_lsub dX10_area_104 ?_
            refine x_ladd dX10_area_105 ?_
            refine x_lstore_n 2 [(2, .long ((mcy 0 (g2 S) (fb k) (fb (k + 1)) j) + ((((S.2.2 0 (fb k + j)).toInt64) * ((S.2.2 1 ((fb k + j) + 1)).toInt64)) - (((S.2.2 0 ((fb k + j) + 1)).toInt64) * ((S.2.2 1 (fb k + j)).toInt64))))), (5, .int ((nI (fb k + j)) + 1)), (4, .int (nI (fb k + j))), (0, .ref (g.2.1 49)), (1, .int (nI k))] dX10_area_106 rfl (by decide) rfl ?_
            refine x_iinc 4 (v := (nI (fb k + j)) + 1) 2 [(4, .int ((nI (fb k + j)) + 1)), (2, .long ((mcy 0 (g2 S) (fb k) (fb (k + 1)) j) + ((((S.2.2 0 (fb k + j)).toInt64) * ((S.2.2 1 ((fb k + j) + 1)).toInt64)) - (((S.2.2 0 ((fb k + j) + 1)).toInt64) * ((S.2.2 1 (fb k + j)).toInt64))))), (5, .int ((nI (fb k + j)) + 1)), (0, .ref (g.2.1 49)), (1, .int (nI k))] dX10_area_107 rfl (by rfl) (by decide) rfl ?_
            refine x_goto 26 dX10_area_110 (by decide) ?_
            refine x_lv [0, 1, 3, 4] rfl ?_
            refine YY.L (lv' := [(4, .int (nI (fb k + (j + 1)))), (2, .long (mcy 0 (g2 S) (fb k) (fb (k + 1)) (j + 1))), (0, .ref (g.2.1 49)), (1, .int (nI k))]) (by first | (rw [← mcy_1 (by omega), nI_1]; rfl) | (rw [← mcy_2 (by omega), nI_1]; rfl)) ?_
            exact ih (j + 1) (by omega) (by omega)
    refine YY.L (lv' := [(4, .int (nI (fb k + 0))), (2, .long (mcy 0 (g2 S) (fb k) (fb (k + 1)) 0)), (0, .ref (g.2.1 49)), (1, .int (nI k))]) (by rfl) ?_
    exact lp5 _ 0 (by omega) (Nat.lt_succ_self _)
  · have c1n : ¬ (0 ≤ c ∧ c < nI S.2.1) := iB_0.mp c1
    refine x_ldc2 ct_X10_272 dX10_area_8 ?_
    refine x_lret dX10_area_11 rfl ?_
    rw [hQ]
    first
      | exact ⟨_, rfl, (areaZ_no (by assumption)).symm, hMQ, frM.refl V⟩
      | (refine ⟨_, rfl, ?_, hMQ2, hFr⟩
         rw [areaZ_k h24 hk0 hkS, cyc_eq2 rcL 0 (g2 S) hkl, show fb (k + 1) - fb k = j by omega])
