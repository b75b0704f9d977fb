/-! Path: what its reads answer, by the cells -/
def szok (V : vM) (a : Nat) : Prop := 0 ≤ V a 2 ∧ V a 2 ≤ 24
def kdV (V : vM) (a k : Nat) (i : Int32) : Int32 := if 0 ≤ i ∧ i < V a 2 then V k i.toNatClampNeg else 0
def kok (V : vM) (a k : Nat) : Prop := szok V a ∧ ∀ i : Nat, nI i < V a 2 → i < 24 → 0 ≤ V k i ∧ V k i ≤ 4
def ptV (V : vM) (a k : Nat) (i : Int32) : Int32 := pV (kdV V a k i).toNatClampNeg
def nbV (V : vM) (a n : Nat) (i p : Int32) : Int32 := if 0 ≤ i ∧ i < V a 2 ∧ 0 ≤ p ∧ p < 6 then V n (i * 6 + p).toNatClampNeg else 0
theorem kdV_ok {V : vM} {a k : Nat} (h : kok V a k) (i : Int32) : 0 ≤ kdV V a k i ∧ kdV V a k i ≤ 4 := by
  unfold kdV
  by_cases c : 0 ≤ i ∧ i < V a 2
  · rw [if_pos c]
    have hlt : i < 24 := by have := h.1.2; grind
    obtain ⟨j, hj, rfl⟩ := vp_in_of (vp_lit 24 (by decide) rfl c.1 hlt) (by decide)
    rw [nI_clamp (by omega)]
    exact h.2 j c.2 hj
  · rw [if_neg c]
    decide

set_option maxHeartbeats 1000000 in
set_option maxRecDepth 100000 in
theorem mX5_kindOf {g : gX} (V : vM) {a k n : Nat} (h : isP a k n) (hs : szok V a) (i : Int32) : MM g jX5_kindOf V [.ref (g.2.1 a), .int i] (pI V (kdV V a k i)) := by
  refine MM.of plX5_kindOf (Nat.le_of_ble_eq_true rfl) ?_
  obtain ⟨Q, hQ⟩ : ∃ Q : Option Value → vM → Prop, Q = (pI V (kdV V a k i)) := ⟨_, rfl⟩
  rw [← hQ]
  show XX g jX5_kindOf Q V 0 [(0, .ref (g.2.1 a)), (1, .int i)] []
  obtain ⟨hs1, hs2⟩ := hs
  refine x_iload_n dX5_kindOf_0 1 rfl ?_
  have jn3 : ∀ (z2 : Int32), ((i < 0 ∧ z2 = 0) ∨ (¬ i < 0 ∧ (V a 2) ≤ i ∧ z2 = 0) ∨ (¬ i < 0 ∧ ¬ (V a 2) ≤ i ∧ z2 = V k i.toNatClampNeg)) → XX g jX5_kindOf Q V 22 [(0, .ref (g.2.1 a)), (1, .int i)] [.int z2] := by
    intro z2 hj4
    refine x_iret rfl dX5_kindOf_22 ?_
    rw [hQ]
    refine ⟨rfl, ?_⟩
    unfold kdV
    congr 2
    grind
  refine x_if_lt 21 dX5_kindOf_1 (by decide) (fun c1 => ?_) (fun c1 => ?_)
  · refine x_iconst (v := 0) dX5_kindOf_21 (by decide) ?_
    exact jn3 _ (Or.inl ⟨c1, rfl⟩)
  · refine x_iload_n dX5_kindOf_4 1 rfl ?_
    refine x_aload_n dX5_kindOf_5 0 rfl ?_
    refine x_getI fl_X5_18 h.1 rfl dX5_kindOf_6 ?_
    refine x_icmp_ge 21 dX5_kindOf_9 (by decide) (fun c5 => ?_) (fun c5 => ?_)
    · refine x_iconst (v := 0) dX5_kindOf_21 (by decide) ?_
      exact jn3 _ (Or.inr (Or.inl ⟨c1, c5, rfl⟩))
    · refine x_aload_n dX5_kindOf_12 0 rfl ?_
      refine x_getR fl_X5_9 h.1 rfl dX5_kindOf_13 ?_
      refine x_iload_n dX5_kindOf_16 1 rfl ?_
      have b6 : vp_in i 24 := by exact vp_lit 24 (by decide) rfl (by grind) (by grind)
      refine x_iald h.2.1 b6 dX5_kindOf_17 ?_
      refine x_goto 22 dX5_kindOf_18 (by decide) ?_
      exact jn3 _ (Or.inr (Or.inr ⟨c1, c5, rfl⟩))
set_option maxHeartbeats 1000000 in
set_option maxRecDepth 100000 in
theorem mX5_pointsOf {g : gX} (V : vM) {a k n : Nat} (h : isP a k n) (hk : kok V a k) (i : Int32) : MM g jX5_pointsOf V [.ref (g.2.1 a), .int i] (pI V (ptV V a k i)) := by
  refine MM.of plX5_pointsOf (Nat.le_of_ble_eq_true rfl) ?_
  obtain ⟨Q, hQ⟩ : ∃ Q : Option Value → vM → Prop, Q = (pI V (ptV V a k i)) := ⟨_, rfl⟩
  rw [← hQ]
  show XX g jX5_pointsOf Q V 0 [(0, .ref (g.2.1 a)), (1, .int i)] []
  refine x_gpts (own := "") (nwr4 (g := g)) dX5_pointsOf_0 ?_
  refine x_aload_n dX5_pointsOf_3 0 rfl ?_
  refine x_iload_n dX5_pointsOf_4 1 rfl ?_
  refine x_callV (K := jX5_kindOf) [.int i] lk_X5_38 ⟨⟨rfl, rfl⟩, Nat.le_of_ble_eq_true rfl, Nat.le_of_ble_eq_true rfl⟩ h.1 rfl (mX5_kindOf V h (by first | assumption | exact hk.1) i) rfl (Nat.le_of_ble_eq_true rfl) rfl dX5_pointsOf_5 (kpI ?_)
  have b1 : vp_in (kdV V a k i) 5 := by exact vp_lit 5 (by decide) rfl (kdV_ok hk i).1 (by have := (kdV_ok hk i).2; grind)
  refine x_pald b1 dX5_pointsOf_8 ?_
  refine x_iret rfl dX5_pointsOf_9 ?_
  rw [hQ]
  exact ⟨rfl, rfl⟩
set_option maxHeartbeats 1000000 in
set_option maxRecDepth 100000 in
theorem mX5_numberOf {g : gX} (V : vM) {a k n : Nat} (h : isP a k n) (hs : szok V a) (i p : Int32) : MM g jX5_numberOf V [.ref (g.2.1 a), .int i, .int p] (pI V (nbV V a n i p)) := by
  refine MM.of plX5_numberOf (Nat.le_of_ble_eq_true rfl) ?_
  obtain ⟨Q, hQ⟩ : ∃ Q : Option Value → vM → Prop, Q = (pI V (nbV V a n i p)) := ⟨_, rfl⟩
  rw [← hQ]
  show XX g jX5_numberOf Q V 0 [(0, .ref (g.2.1 a)), (1, .int i), (2, .int p)] []
  obtain ⟨hs1, hs2⟩ := hs
  refine x_iload_n dX5_numberOf_0 1 rfl ?_
  have jn3 : ∀ (z2 : Int32), ((i < 0 ∧ z2 = 0) ∨ (¬ i < 0 ∧ (V a 2) ≤ i ∧ z2 = 0) ∨ (¬ i < 0 ∧ ¬ (V a 2) ≤ i ∧ p < 0 ∧ z2 = 0) ∨ (¬ i < 0 ∧ ¬ (V a 2) ≤ i ∧ ¬ p < 0 ∧ 6 ≤ p ∧ z2 = 0) ∨ (¬ i < 0 ∧ ¬ (V a 2) ≤ i ∧ ¬ p < 0 ∧ ¬ 6 ≤ p ∧ z2 = 1)) → XX g jX5_numberOf Q V 27 [(0, .ref (g.2.1 a)), (1, .int i), (2, .int p)] [.int z2] := by
    intro z2 hj4
    refine x_istore_n 3 [(3, .int z2), (0, .ref (g.2.1 a)), (1, .int i), (2, .int p)] dX5_numberOf_27 rfl (by decide) rfl ?_
    refine x_iload_n dX5_numberOf_28 0 rfl ?_
    have jn7 : ∀ (z6 : Int32), ((z2 = 0 ∧ z6 = 0) ∨ (¬ z2 = 0 ∧ z6 = V n ((i * 6) + p).toNatClampNeg)) → XX g jX5_numberOf Q V 47 [(3, .int z2), (0, .ref (g.2.1 a)), (1, .int i), (2, .int p)] [.int z6] := by
      intro z6 hj8
      refine x_iret rfl dX5_numberOf_47 ?_
      rw [hQ]
      refine ⟨rfl, ?_⟩
      unfold nbV
      congr 2
      grind
    refine x_if_eq 46 dX5_numberOf_29 (by decide) (fun c5 => ?_) (fun c5 => ?_)
    · refine x_iconst (v := 0) dX5_numberOf_46 (by decide) ?_
      exact jn7 _ (Or.inl ⟨c5, rfl⟩)
    · refine x_aload_n dX5_numberOf_32 1 rfl ?_
      refine x_getR fl_X5_15 h.1 rfl dX5_numberOf_33 ?_
      refine x_iload_n dX5_numberOf_36 2 rfl ?_
      refine x_bipush (v := 6) dX5_numberOf_37 (by decide) ?_
      refine x_imul dX5_numberOf_39 ?_
      refine x_iload_n dX5_numberOf_40 3 rfl ?_
      refine x_iadd dX5_numberOf_41 ?_
      have b9 : vp_in ((i * 6) + p) 144 := by exact vp_lit 144 (by decide) rfl (by grind) (by grind)
      refine x_iald h.2.2.1 b9 dX5_numberOf_42 ?_
      refine x_goto 47 dX5_numberOf_43 (by decide) ?_
      exact jn7 _ (Or.inr ⟨c5, rfl⟩)
  refine x_if_lt 26 dX5_numberOf_1 (by decide) (fun c1 => ?_) (fun c1 => ?_)
  · refine x_iconst (v := 0) dX5_numberOf_26 (by decide) ?_
    exact jn3 _ (Or.inl ⟨c1, rfl⟩)
  · refine x_iload_n dX5_numberOf_4 1 rfl ?_
    refine x_aload_n dX5_numberOf_5 0 rfl ?_
    refine x_getI fl_X5_18 h.1 rfl dX5_numberOf_6 ?_
    refine x_icmp_ge 26 dX5_numberOf_9 (by decide) (fun c10 => ?_) (fun c10 => ?_)
    · refine x_iconst (v := 0) dX5_numberOf_26 (by decide) ?_
      exact jn3 _ (Or.inr (Or.inl ⟨c1, c10, rfl⟩))
    · refine x_iload_n dX5_numberOf_12 2 rfl ?_
      refine x_if_lt 26 dX5_numberOf_13 (by decide) (fun c11 => ?_) (fun c11 => ?_)
      · refine x_iconst (v := 0) dX5_numberOf_26 (by decide) ?_
        exact jn3 _ (Or.inr (Or.inr (Or.inl ⟨c1, c10, c11, rfl⟩)))
      · refine x_iload_n dX5_numberOf_16 2 rfl ?_
        refine x_bipush (v := 6) dX5_numberOf_17 (by decide) ?_
        refine x_icmp_ge 26 dX5_numberOf_19 (by decide) (fun c12 => ?_) (fun c12 => ?_)
        · refine x_iconst (v := 0) dX5_numberOf_26 (by decide) ?_
          exact jn3 _ (Or.inr (Or.inr (Or.inr (Or.inl ⟨c1, c10, c11, c12, rfl⟩))))
        · refine x_iconst (v := 1) dX5_numberOf_22 (by decide) ?_
          refine x_goto 27 dX5_numberOf_23 (by decide) ?_
          exact jn3 _ (Or.inr (Or.inr (Or.inr (Or.inr ⟨c1, c10, c11, c12, rfl⟩))))
set_option maxHeartbeats 1000000 in
set_option maxRecDepth 100000 in
theorem mX5_endX {g : gX} (V : vM) {a k n : Nat} (h : isP a k n) (hk : kok V a k) (i : Int32) : MM g jX5_endX V [.ref (g.2.1 a), .int i] (pI V (nbV V a n i (2 * ptV V a k i - 2))) := by
  refine MM.of plX5_endX (Nat.le_of_ble_eq_true rfl) ?_
  obtain ⟨Q, hQ⟩ : ∃ Q : Option Value → vM → Prop, Q = (pI V (nbV V a n i (2 * ptV V a k i - 2))) := ⟨_, rfl⟩
  rw [← hQ]
  show XX g jX5_endX Q V 0 [(0, .ref (g.2.1 a)), (1, .int i)] []
  refine x_aload_n dX5_endX_0 0 rfl ?_
  refine x_iload_n dX5_endX_1 1 rfl ?_
  refine x_iconst (v := 2) dX5_endX_2 (by decide) ?_
  refine x_aload_n dX5_endX_3 0 rfl ?_
  refine x_iload_n dX5_endX_4 1 rfl ?_
  refine x_callV (K := jX5_pointsOf) [.int i] lk_X5_42 ⟨⟨rfl, rfl⟩, Nat.le_of_ble_eq_true rfl, Nat.le_of_ble_eq_true rfl⟩ h.1 rfl (mX5_pointsOf V h (by assumption) i) rfl (Nat.le_of_ble_eq_true rfl) rfl dX5_endX_5 (kpI ?_)
  refine x_imul dX5_endX_8 ?_
  refine x_iconst (v := 2) dX5_endX_9 (by decide) ?_
  refine x_isub dX5_endX_10 ?_
  refine x_callV (K := jX5_numberOf) [.int i, .int ((2 * (ptV V a k i)) - 2)] lk_X5_45 ⟨⟨rfl, rfl⟩, Nat.le_of_ble_eq_true rfl, Nat.le_of_ble_eq_true rfl⟩ h.1 rfl (mX5_numberOf V h (by first | assumption | exact hk.1) i ((2 * (ptV V a k i)) - 2)) rfl (Nat.le_of_ble_eq_true rfl) rfl dX5_endX_11 (kpI ?_)
  refine x_iret rfl dX5_endX_14 ?_
  rw [hQ]
  exact ⟨rfl, rfl⟩
set_option maxHeartbeats 1000000 in
set_option maxRecDepth 100000 in
theorem mX5_endY {g : gX} (V : vM) {a k n : Nat} (h : isP a k n) (hk : kok V a k) (i : Int32) : MM g jX5_endY V [.ref (g.2.1 a), .int i] (pI V (nbV V a n i (2 * ptV V a k i - 1))) := by
  refine MM.of plX5_endY (Nat.le_of_ble_eq_true rfl) ?_
  obtain ⟨Q, hQ⟩ : ∃ Q : Option Value → vM → Prop, Q = (pI V (nbV V a n i (2 * ptV V a k i - 1))) := ⟨_, rfl⟩
  rw [← hQ]
  show XX g jX5_endY Q V 0 [(0, .ref (g.2.1 a)), (1, .int i)] []
  refine x_aload_n dX5_endY_0 0 rfl ?_
  refine x_iload_n dX5_endY_1 1 rfl ?_
  refine x_iconst (v := 2) dX5_endY_2 (by decide) ?_
  refine x_aload_n dX5_endY_3 0 rfl ?_
  refine x_iload_n dX5_endY_4 1 rfl ?_
  refine x_callV (K := jX5_pointsOf) [.int i] lk_X5_42 ⟨⟨rfl, rfl⟩, Nat.le_of_ble_eq_true rfl, Nat.le_of_ble_eq_true rfl⟩ h.1 rfl (mX5_pointsOf V h (by assumption) i) rfl (Nat.le_of_ble_eq_true rfl) rfl dX5_endY_5 (kpI ?_)
  refine x_imul dX5_endY_8 ?_
  refine x_iconst (v := 1) dX5_endY_9 (by decide) ?_
  refine x_isub dX5_endY_10 ?_
  refine x_callV (K := jX5_numberOf) [.int i, .int ((2 * (ptV V a k i)) - 1)] lk_X5_45 ⟨⟨rfl, rfl⟩, Nat.le_of_ble_eq_true rfl, Nat.le_of_ble_eq_true rfl⟩ h.1 rfl (mX5_numberOf V h (by first | assumption | exact hk.1) i ((2 * (ptV V a k i)) - 1)) rfl (Nat.le_of_ble_eq_true rfl) rfl dX5_endY_11 (kpI ?_)
  refine x_iret rfl dX5_endY_14 ?_
  rw [hQ]
  exact ⟨rfl, rfl⟩
set_option maxHeartbeats 1000000 in
set_option maxRecDepth 100000 in
theorem mX5_control {g : gX} (V : vM) {a k n : Nat} (h : isP a k n) (hk : kok V a k) (i p : Int32) : MM g jX5_control V [.ref (g.2.1 a), .int i, .int p] (pI V (if p < 2 * ptV V a k i - 2 then nbV V a n i p else -1000006)) := by
  refine MM.of plX5_control (Nat.le_of_ble_eq_true rfl) ?_
  obtain ⟨Q, hQ⟩ : ∃ Q : Option Value → vM → Prop, Q = (pI V (if p < 2 * ptV V a k i - 2 then nbV V a n i p else -1000006)) := ⟨_, rfl⟩
  rw [← hQ]
  show XX g jX5_control Q V 0 [(0, .ref (g.2.1 a)), (1, .int i), (2, .int p)] []
  refine x_iload_n dX5_control_0 2 rfl ?_
  refine x_iconst (v := 2) dX5_control_1 (by decide) ?_
  refine x_aload_n dX5_control_2 0 rfl ?_
  refine x_iload_n dX5_control_3 1 rfl ?_
  refine x_callV (K := jX5_pointsOf) [.int i] lk_X5_42 ⟨⟨rfl, rfl⟩, Nat.le_of_ble_eq_true rfl, Nat.le_of_ble_eq_true rfl⟩ h.1 rfl (mX5_pointsOf V h (by assumption) i) rfl (Nat.le_of_ble_eq_true rfl) rfl dX5_control_4 (kpI ?_)
  refine x_imul dX5_control_7 ?_
  refine x_iconst (v := 2) dX5_control_8 (by decide) ?_
  refine x_isub dX5_control_9 ?_
  have jn3 : ∀ (z2 : Int32), ((((2 * (ptV V a k i)) - 2) ≤ p ∧ z2 = (-1000006)) ∨ (¬ ((2 * (ptV V a k i)) - 2) ≤ p ∧ z2 = nbV V a n i p)) → XX g jX5_control Q V 24 [(0, .ref (g.2.1 a)), (1, .int i), (2, .int p)] [.int z2] := by
    intro z2 hj4
    refine x_iret rfl dX5_control_24 ?_
    rw [hQ]
    refine ⟨rfl, ?_⟩
    congr 2
    grind
  refine x_icmp_ge 22 dX5_control_10 (by decide) (fun c1 => ?_) (fun c1 => ?_)
  · refine x_ldc ct_X5_49 dX5_control_22 ?_
    exact jn3 _ (Or.inl ⟨c1, rfl⟩)
  · refine x_aload_n dX5_control_13 0 rfl ?_
    refine x_iload_n dX5_control_14 1 rfl ?_
    refine x_iload_n dX5_control_15 2 rfl ?_
    refine x_callV (K := jX5_numberOf) [.int i, .int p] lk_X5_45 ⟨⟨rfl, rfl⟩, Nat.le_of_ble_eq_true rfl, Nat.le_of_ble_eq_true rfl⟩ h.1 rfl (mX5_numberOf V h (by first | assumption | exact hk.1) i p) rfl (Nat.le_of_ble_eq_true rfl) rfl dX5_control_16 (kpI ?_)
    refine x_goto 24 dX5_control_19 (by decide) ?_
    exact jn3 _ (Or.inr ⟨c1, rfl⟩)
set_option maxHeartbeats 1000000 in
set_option maxRecDepth 100000 in
theorem mX5_isOpen {g : gX} (V : vM) {a k n : Nat} (h : isP a k n) (hs : szok V a) : MM g jX5_isOpen V [.ref (g.2.1 a)] (pI V (if 0 < V a 2 ∧ ¬ V k (V a 2 - 1).toNatClampNeg = 4 then 1 else 0)) := by
  refine MM.of plX5_isOpen (Nat.le_of_ble_eq_true rfl) ?_
  obtain ⟨Q, hQ⟩ : ∃ Q : Option Value → vM → Prop, Q = (pI V (if 0 < V a 2 ∧ ¬ V k (V a 2 - 1).toNatClampNeg = 4 then 1 else 0)) := ⟨_, rfl⟩
  rw [← hQ]
  show XX g jX5_isOpen Q V 0 [(0, .ref (g.2.1 a))] []
  obtain ⟨hs1, hs2⟩ := hs
  refine x_aload_n dX5_isOpen_0 0 rfl ?_
  refine x_getI fl_X5_18 h.1 rfl dX5_isOpen_1 ?_
  have jn3 : ∀ (z2 : Int32), (((V a 2) ≤ 0 ∧ z2 = 0) ∨ (¬ (V a 2) ≤ 0 ∧ (V k ((V a 2) - 1).toNatClampNeg) = 4 ∧ z2 = 0) ∨ (¬ (V a 2) ≤ 0 ∧ ¬ (V k ((V a 2) - 1).toNatClampNeg) = 4 ∧ z2 = 1)) → XX g jX5_isOpen Q V 27 [(0, .ref (g.2.1 a))] [.int z2] := by
    intro z2 hj4
    refine x_zret rfl (by first | decide +kernel | exact nar01 (by first | exact Or.inl rfl | exact Or.inr rfl | grind)) dX5_isOpen_27 ?_
    rw [hQ]
    refine ⟨rfl, ?_⟩
    congr 2
    grind
  refine x_if_le 26 dX5_isOpen_4 (by decide) (fun c1 => ?_) (fun c1 => ?_)
  · refine x_iconst (v := 0) dX5_isOpen_26 (by decide) ?_
    exact jn3 _ (Or.inl ⟨c1, rfl⟩)
  · refine x_aload_n dX5_isOpen_7 0 rfl ?_
    refine x_getR fl_X5_9 h.1 rfl dX5_isOpen_8 ?_
    refine x_aload_n dX5_isOpen_11 0 rfl ?_
    refine x_getI fl_X5_18 h.1 rfl dX5_isOpen_12 ?_
    refine x_iconst (v := 1) dX5_isOpen_15 (by decide) ?_
    refine x_isub dX5_isOpen_16 ?_
    have b6 : vp_in ((V a 2) - 1) 24 := by exact vp_lit 24 (by decide) rfl (by grind) (by grind)
    refine x_iald h.2.1 b6 dX5_isOpen_17 ?_
    refine x_iconst (v := 4) dX5_isOpen_18 (by decide) ?_
    refine x_icmp_eq 26 dX5_isOpen_19 (by decide) (fun c7 => ?_) (fun c7 => ?_)
    · refine x_iconst (v := 0) dX5_isOpen_26 (by decide) ?_
      exact jn3 _ (Or.inr (Or.inl ⟨c1, c7, rfl⟩))
    · refine x_iconst (v := 1) dX5_isOpen_22 (by decide) ?_
      refine x_goto 27 dX5_isOpen_23 (by decide) ?_
      exact jn3 _ (Or.inr (Or.inr ⟨c1, c7, rfl⟩))
set_option maxHeartbeats 1000000 in
set_option maxRecDepth 100000 in
theorem mX5_clear {g : gX} (V : vM) {a k n : Nat} (h : isP a k n) : MM g jX5_clear V [.ref (g.2.1 a)] (eV (fun U => U = uM (uM V a 2 0) a 3 0)) := by
  refine MM.of plX5_clear (Nat.le_of_ble_eq_true rfl) ?_
  obtain ⟨Q, hQ⟩ : ∃ Q : Option Value → vM → Prop, Q = (eV (fun U => U = uM (uM V a 2 0) a 3 0)) := ⟨_, rfl⟩
  rw [← hQ]
  show XX g jX5_clear Q V 0 [(0, .ref (g.2.1 a))] []
  refine x_aload_n dX5_clear_0 0 rfl ?_
  refine x_iconst (v := 0) dX5_clear_1 (by decide) ?_
  refine x_putI fp_X5_18 h.1 rfl dX5_clear_2 ?_
  obtain ⟨U1, eU1⟩ : ∃ y : vM, y = uM V a 2 0 := ⟨_, rfl⟩
  refine YY.V eU1.symm ?_
  refine x_aload_n dX5_clear_5 0 rfl ?_
  refine x_iconst (v := 0) dX5_clear_6 (by decide) ?_
  refine x_putI fp_X5_22 h.1 rfl dX5_clear_7 ?_
  obtain ⟨U2, eU2⟩ : ∃ y : vM, y = uM U1 a 3 0 := ⟨_, rfl⟩
  refine YY.V eU2.symm ?_
  refine x_vret rfl dX5_clear_10 ?_
  rw [hQ]
  refine ⟨rfl, ?_⟩
  rw [eU2, eU1]
set_option maxHeartbeats 1000000 in
set_option maxRecDepth 100000 in
theorem mX5_dropLast {g : gX} (V : vM) {a k n : Nat} (h : isP a k n) (hs : szok V a) : MM g jX5_dropLast V [.ref (g.2.1 a)] (eV (fun U => U = if V a 2 = 0 then V else if V k (V a 2 - 1).toNatClampNeg = 0 then uM (uM V a 2 (V a 2 - 1)) a 3 (V a 3 - 1) else uM V a 2 (V a 2 - 1))) := by
  refine MM.of plX5_dropLast (Nat.le_of_ble_eq_true rfl) ?_
  obtain ⟨Q, hQ⟩ : ∃ Q : Option Value → vM → Prop, Q = (eV (fun U => U = if V a 2 = 0 then V else if V k (V a 2 - 1).toNatClampNeg = 0 then uM (uM V a 2 (V a 2 - 1)) a 3 (V a 3 - 1) else uM V a 2 (V a 2 - 1))) := ⟨_, rfl⟩
  rw [← hQ]
  show XX g jX5_dropLast Q V 0 [(0, .ref (g.2.1 a))] []
  obtain ⟨hs1, hs2⟩ := hs
  obtain ⟨-, -, -, n1, n2, n3⟩ := id h
  refine x_aload_n dX5_dropLast_0 0 rfl ?_
  refine x_getI fl_X5_18 h.1 rfl dX5_dropLast_1 ?_
  refine x_if_ne 8 dX5_dropLast_4 (by decide) (fun c1 => ?_) (fun c1 => ?_)
  · refine x_aload_n dX5_dropLast_8 0 rfl ?_
    refine x_dup dX5_dropLast_9 rfl ?_
    refine x_getI fl_X5_18 h.1 rfl dX5_dropLast_10 ?_
    refine x_iconst (v := 1) dX5_dropLast_13 (by decide) ?_
    refine x_isub dX5_dropLast_14 ?_
    refine x_putI fp_X5_18 h.1 rfl dX5_dropLast_15 ?_
    obtain ⟨U2, eU2⟩ : ∃ y : vM, y = uM V a 2 ((V a 2) - 1) := ⟨_, rfl⟩
    refine YY.V eU2.symm ?_
    refine x_aload_n dX5_dropLast_18 0 rfl ?_
    refine x_getR fl_X5_9 h.1 rfl dX5_dropLast_19 ?_
    refine x_aload_n dX5_dropLast_22 0 rfl ?_
    refine x_getI fl_X5_18 h.1 rfl dX5_dropLast_23 ?_
    have b3 : vp_in (U2 a 2) 24 := by exact vp_lit 24 (by decide) rfl (by grind) (by grind)
    refine x_iald h.2.1 b3 dX5_dropLast_26 ?_
    have jn6 : ∀ (z5 : vM), ((¬ (U2 k (U2 a 2).toNatClampNeg) = 0 ∧ z5 = U2) ∨ (¬ (¬ (U2 k (U2 a 2).toNatClampNeg) = 0) ∧ z5 = (uM U2 a 3 ((U2 a 3) - 1)))) → XX g jX5_dropLast Q z5 40 [(0, .ref (g.2.1 a))] [] := by
      intro z5 hj7
      refine x_vret rfl dX5_dropLast_40 ?_
      rw [hQ]
      refine ⟨rfl, ?_⟩
      grind [uM_at]
    refine x_if_ne 40 dX5_dropLast_27 (by decide) (fun c4 => ?_) (fun c4 => ?_)
    · exact jn6 _ (Or.inl ⟨c4, rfl⟩)
    · refine x_aload_n dX5_dropLast_30 0 rfl ?_
      refine x_dup dX5_dropLast_31 rfl ?_
      refine x_getI fl_X5_22 h.1 rfl dX5_dropLast_32 ?_
      refine x_iconst (v := 1) dX5_dropLast_35 (by decide) ?_
      refine x_isub dX5_dropLast_36 ?_
      refine x_putI fp_X5_22 h.1 rfl dX5_dropLast_37 ?_
      exact jn6 _ (Or.inr ⟨c4, rfl⟩)
  · refine x_vret rfl dX5_dropLast_7 ?_
    rw [hQ]
    refine ⟨rfl, ?_⟩
    grind [uM_at]
