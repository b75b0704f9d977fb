/-! Path: what its reads answer, by the cells -/
def szok (V : vM) (a : Nat) : Prop := 0 ≤ V a 2 ∧ V a 2 ≤ 24
def kiV (V : vM) (a k : Nat) (i : Int32) : Int32 := if 0 ≤ i ∧ i < V a 2 then V k i.toNatClampNeg else 0
def kok (V : vM) (a k : Nat) : Prop := szok V a ∧ ∀ i : Nat, nI i < V a 2 → i < 24 → 0 ≤ V k i ∧ V k i ≤ 4
def ptV (V : vM) (a k : Nat) (i : Int32) : Int32 := pV (kiV V a k i).toNatClampNeg
def nbV (V : vM) (a n : Nat) (i p : Int32) : Int32 := if 0 ≤ i ∧ i < V a 2 ∧ 0 ≤ p ∧ p < 6 then V n (i * 6 + p).toNatClampNeg else 0
theorem kiV_ok {V : vM} {a k : Nat} (h : kok V a k) (i : Int32) : 0 ≤ kiV V a k i ∧ kiV V a k i ≤ 4 := by
  unfold kiV
  by_cases c : 0 ≤ i ∧ i < V a 2
  · rw [if_pos c]
    have hlt : i < 24 := by have := h.1.2; grind
    obtain ⟨j, hj, rfl⟩ := vp_in_of (vp_lit (N := 24) 24 (by decide) rfl c.1 hlt) (by decide)
    rw [nI_clamp (by omega)]
    exact h.2 j c.2 hj
  · rw [if_neg c]
    decide

set_option maxHeartbeats 1000000 in
set_option maxRecDepth 100000 in
theorem mX5_kindOf {g : gX} (V : vM) {a k n : Nat} (h : isP a k n) (hs : szok V a) (i : Int32) : MM g jX5_kindOf V [.ref (g.2.1 a), .int i] (pI V (kiV V a k i)) := by
  refine MM.of plX5_kindOf (Nat.le_of_ble_eq_true rfl) ?_
  obtain ⟨Q, hQ⟩ : ∃ Q : Option Value → vM → Prop, Q = (pI V (kiV V a k i)) := ⟨_, rfl⟩
  rw [← hQ]
  show XX g jX5_kindOf Q V 0 [(0, .ref (g.2.1 a)), (1, .int i)] []
  obtain ⟨hs1, hs2⟩ := hs
  refine x_iload_n dX5_kindOf_0 1 rfl ?_
  have jn3 : ∀ (z2 : Int32), ((i < 0 ∧ z2 = 0) ∨ (¬ i < 0 ∧ (V a 2) ≤ i ∧ z2 = 0) ∨ (¬ i < 0 ∧ ¬ (V a 2) ≤ i ∧ z2 = V k i.toNatClampNeg)) → XX g jX5_kindOf Q V 22 [(0, .ref (g.2.1 a)), (1, .int i)] [.int z2] := by
    intro z2 hj4
    refine x_iret dX5_kindOf_22 rfl ?_
    rw [hQ]
    refine ⟨rfl, ?_⟩
    unfold kiV
    congr 2
    grind
  refine x_if_lt 21 dX5_kindOf_1 (by decide) (fun c1 => ?_) (fun c1 => ?_)
  · refine x_iconst (v := 0) dX5_kindOf_21 (by decide) ?_
    exact jn3 _ (Or.inl ⟨c1, rfl⟩)
  · refine x_iload_n dX5_kindOf_4 1 rfl ?_
    refine x_aload_n dX5_kindOf_5 0 rfl ?_
    refine x_getI fl_X5_18 h.1 rfl dX5_kindOf_6 ?_
    refine x_icmp_ge 21 dX5_kindOf_9 (by decide) (fun c5 => ?_) (fun c5 => ?_)
    · refine x_iconst (v := 0) dX5_kindOf_21 (by decide) ?_
      exact jn3 _ (Or.inr (Or.inl ⟨c1, c5, rfl⟩))
    · refine x_aload_n dX5_kindOf_12 0 rfl ?_
      refine x_getR fl_X5_9 h.1 rfl dX5_kindOf_13 ?_
      refine x_iload_n dX5_kindOf_16 1 rfl ?_
      have b6 : vp_in i 24 := by exact vp_lit (N := 24) 24 (by decide) rfl (by grind) (by grind)
      refine x_iald h.2.1 b6 dX5_kindOf_17 ?_
      refine x_goto 22 dX5_kindOf_18 (by decide) ?_
      exact jn3 _ (Or.inr (Or.inr ⟨c1, c5, rfl⟩))
set_option maxHeartbeats 1000000 in
set_option maxRecDepth 100000 in
theorem mX5_pointsOf {g : gX} (V : vM) {a k n : Nat} (h : isP a k n) (hk : kok V a k) (i : Int32) : MM g jX5_pointsOf V [.ref (g.2.1 a), .int i] (pI V (ptV V a k i)) := by
  refine MM.of plX5_pointsOf (Nat.le_of_ble_eq_true rfl) ?_
  obtain ⟨Q, hQ⟩ : ∃ Q : Option Value → vM → Prop, Q = (pI V (ptV V a k i)) := ⟨_, rfl⟩
  rw [← hQ]
  show XX g jX5_pointsOf Q V 0 [(0, .ref (g.2.1 a)), (1, .int i)] []
  refine x_gpts (own := "") (nwr4 (g := g)) dX5_pointsOf_0 ?_
  refine x_aload_n dX5_pointsOf_3 0 rfl ?_
  refine x_iload_n dX5_pointsOf_4 1 rfl ?_
  refine x_callV (K := jX5_kindOf) [.int i] lk_X5_38 ⟨⟨rfl, rfl⟩, Nat.le_of_ble_eq_true rfl, Nat.le_of_ble_eq_true rfl⟩ h.1 rfl (mX5_kindOf V h (by first | assumption | exact hk.1) i) rfl (Nat.le_of_ble_eq_true rfl) rfl dX5_pointsOf_5 (kpI ?_)
  have b1 : vp_in (kiV V a k i) 5 := by exact vp_lit (N := 5) 5 (by decide) rfl (kiV_ok hk i).1 (by have := (kiV_ok hk i).2; grind)
  refine x_pald b1 dX5_pointsOf_8 ?_
  refine x_iret dX5_pointsOf_9 rfl ?_
  rw [hQ]
  exact ⟨rfl, rfl⟩
set_option maxHeartbeats 1000000 in
set_option maxRecDepth 100000 in
theorem mX5_numberOf {g : gX} (V : vM) {a k n : Nat} (h : isP a k n) (hs : szok V a) (i p : Int32) : MM g jX5_numberOf V [.ref (g.2.1 a), .int i, .int p] (pI V (nbV V a n i p)) := by
  refine MM.of plX5_numberOf (Nat.le_of_ble_eq_true rfl) ?_
  obtain ⟨Q, hQ⟩ : ∃ Q : Option Value → vM → Prop, Q = (pI V (nbV V a n i p)) := ⟨_, rfl⟩
  rw [← hQ]
  show XX g jX5_numberOf Q V 0 [(0, .ref (g.2.1 a)), (1, .int i), (2, .int p)] []
  obtain ⟨hs1, hs2⟩ := hs
  refine x_iload_n dX5_numberOf_0 1 rfl ?_
  have jn3 : ∀ (z2 : Int32), ((i < 0 ∧ z2 = 0) ∨ (¬ i < 0 ∧ (V a 2) ≤ i ∧ z2 = 0) ∨ (¬ i < 0 ∧ ¬ (V a 2) ≤ i ∧ p < 0 ∧ z2 = 0) ∨ (¬ i < 0 ∧ ¬ (V a 2) ≤ i ∧ ¬ p < 0 ∧ 6 ≤ p ∧ z2 = 0) ∨ (¬ i < 0 ∧ ¬ (V a 2) ≤ i ∧ ¬ p < 0 ∧ ¬ 6 ≤ p ∧ z2 = 1)) → XX g jX5_numberOf Q V 27 [(0, .ref (g.2.1 a)), (1, .int i), (2, .int p)] [.int z2] := by
    intro z2 hj4
    refine x_istore_n 3 [(3, .int z2), (0, .ref (g.2.1 a)), (1, .int i), (2, .int p)] dX5_numberOf_27 rfl (by decide) rfl ?_
    refine x_iload_n dX5_numberOf_28 0 rfl ?_
    have jn7 : ∀ (z6 : Int32), ((z2 = 0 ∧ z6 = 0) ∨ (¬ z2 = 0 ∧ z6 = V n ((i * 6) + p).toNatClampNeg)) → XX g jX5_numberOf Q V 47 [(3, .int z2), (0, .ref (g.2.1 a)), (1, .int i), (2, .int p)] [.int z6] := by
      intro z6 hj8
      refine x_iret dX5_numberOf_47 rfl ?_
      rw [hQ]
      refine ⟨rfl, ?_⟩
      unfold nbV
      congr 2
      grind
    refine x_if_eq 46 dX5_numberOf_29 (by decide) (fun c5 => ?_) (fun c5 => ?_)
    · refine x_iconst (v := 0) dX5_numberOf_46 (by decide) ?_
      exact jn7 _ (Or.inl ⟨c5, rfl⟩)
    · refine x_aload_n dX5_numberOf_32 1 rfl ?_
      refine x_getR fl_X5_15 h.1 rfl dX5_numberOf_33 ?_
      refine x_iload_n dX5_numberOf_36 2 rfl ?_
      refine x_bipush (v := 6) dX5_numberOf_37 (by decide) ?_
      refine x_imul dX5_numberOf_39 ?_
      refine x_iload_n dX5_numberOf_40 3 rfl ?_
      refine x_iadd dX5_numberOf_41 ?_
      have b9 : vp_in ((i * 6) + p) 144 := by exact vp_lit (N := 144) 144 (by decide) rfl (by grind) (by grind)
      refine x_iald h.2.2.1 b9 dX5_numberOf_42 ?_
      refine x_goto 47 dX5_numberOf_43 (by decide) ?_
      exact jn7 _ (Or.inr ⟨c5, rfl⟩)
  refine x_if_lt 26 dX5_numberOf_1 (by decide) (fun c1 => ?_) (fun c1 => ?_)
  · refine x_iconst (v := 0) dX5_numberOf_26 (by decide) ?_
    exact jn3 _ (Or.inl ⟨c1, rfl⟩)
  · refine x_iload_n dX5_numberOf_4 1 rfl ?_
    refine x_aload_n dX5_numberOf_5 0 rfl ?_
    refine x_getI fl_X5_18 h.1 rfl dX5_numberOf_6 ?_
    refine x_icmp_ge 26 dX5_numberOf_9 (by decide) (fun c10 => ?_) (fun c10 => ?_)
    · refine x_iconst (v := 0) dX5_numberOf_26 (by decide) ?_
      exact jn3 _ (Or.inr (Or.inl ⟨c1, c10, rfl⟩))
    · refine x_iload_n dX5_numberOf_12 2 rfl ?_
      refine x_if_lt 26 dX5_numberOf_13 (by decide) (fun c11 => ?_) (fun c11 => ?_)
      · refine x_iconst (v := 0) dX5_numberOf_26 (by decide) ?_
        exact jn3 _ (Or.inr (Or.inr (Or.inl ⟨c1, c10, c11, rfl⟩)))
      · refine x_iload_n dX5_numberOf_16 2 rfl ?_
        refine x_bipush (v := 6) dX5_numberOf_17 (by decide) ?_
        refine x_icmp_ge 26 dX5_numberOf_19 (by decide) (fun c12 => ?_) (fun c12 => ?_)
        · refine x_iconst (v := 0) dX5_numberOf_26 (by decide) ?_
          exact jn3 _ (Or.inr (Or.inr (Or.inr (Or.inl ⟨c1, c10, c11, c12, rfl⟩))))
        · refine x_iconst (v := 1) dX5_numberOf_22 (by decide) ?_
          refine x_goto 27 dX5_numberOf_23 (by decide) ?_
          exact jn3 _ (Or.inr (Or.inr (Or.inr (Or.inr ⟨c1, c10, c11, c12, rfl⟩))))
set_option maxHeartbeats 1000000 in
set_option maxRecDepth 100000 in
theorem mX5_endX {g : gX} (V : vM) {a k n : Nat} (h : isP a k n) (hk : kok V a k) (i : Int32) : MM g jX5_endX V [.ref (g.2.1 a), .int i] (pI V (nbV V a n i (2 * ptV V a k i - 2))) := by
  refine MM.of plX5_endX (Nat.le_of_ble_eq_true rfl) ?_
  obtain ⟨Q, hQ⟩ : ∃ Q : Option Value → vM → Prop, Q = (pI V (nbV V a n i (2 * ptV V a k i - 2))) := ⟨_, rfl⟩
  rw [← hQ]
  show XX g jX5_endX Q V 0 [(0, .ref (g.2.1 a)), (1, .int i)] []
  refine x_aload_n dX5_endX_0 0 rfl ?_
  refine x_iload_n dX5_endX_1 1 rfl ?_
  refine x_iconst (v := 2) dX5_endX_2 (by decide) ?_
  refine x_aload_n dX5_endX_3 0 rfl ?_
  refine x_iload_n dX5_endX_4 1 rfl ?_
  refine x_callV (K := jX5_pointsOf) [.int i] lk_X5_42 ⟨⟨rfl, rfl⟩, Nat.le_of_ble_eq_true rfl, Nat.le_of_ble_eq_true rfl⟩ h.1 rfl (mX5_pointsOf V h (by assumption) i) rfl (Nat.le_of_ble_eq_true rfl) rfl dX5_endX_5 (kpI ?_)
  refine x_imul dX5_endX_8 ?_
  refine x_iconst (v := 2) dX5_endX_9 (by decide) ?_
  refine x_isub dX5_endX_10 ?_
  refine x_callV (K := jX5_numberOf) [.int i, .int ((2 * (ptV V a k i)) - 2)] lk_X5_45 ⟨⟨rfl, rfl⟩, Nat.le_of_ble_eq_true rfl, Nat.le_of_ble_eq_true rfl⟩ h.1 rfl (mX5_numberOf V h (by first | assumption | exact hk.1) i ((2 * (ptV V a k i)) - 2)) rfl (Nat.le_of_ble_eq_true rfl) rfl dX5_endX_11 (kpI ?_)
  refine x_iret dX5_endX_14 rfl ?_
  rw [hQ]
  exact ⟨rfl, rfl⟩
set_option maxHeartbeats 1000000 in
set_option maxRecDepth 100000 in
theorem mX5_endY {g : gX} (V : vM) {a k n : Nat} (h : isP a k n) (hk : kok V a k) (i : Int32) : MM g jX5_endY V [.ref (g.2.1 a), .int i] (pI V (nbV V a n i (2 * ptV V a k i - 1))) := by
  refine MM.of plX5_endY (Nat.le_of_ble_eq_true rfl) ?_
  obtain ⟨Q, hQ⟩ : ∃ Q : Option Value → vM → Prop, Q = (pI V (nbV V a n i (2 * ptV V a k i - 1))) := ⟨_, rfl⟩
  rw [← hQ]
  show XX g jX5_endY Q V 0 [(0, .ref (g.2.1 a)), (1, .int i)] []
  refine x_aload_n dX5_endY_0 0 rfl ?_
  refine x_iload_n dX5_endY_1 1 rfl ?_
  refine x_iconst (v := 2) dX5_endY_2 (by decide) ?_
  refine x_aload_n dX5_endY_3 0 rfl ?_
  refine x_iload_n dX5_endY_4 1 rfl ?_
  refine x_callV (K := jX5_pointsOf) [.int i] lk_X5_42 ⟨⟨rfl, rfl⟩, Nat.le_of_ble_eq_true rfl, Nat.le_of_ble_eq_true rfl⟩ h.1 rfl (mX5_pointsOf V h (by assumption) i) rfl (Nat.le_of_ble_eq_true rfl) rfl dX5_endY_5 (kpI ?_)
  refine x_imul dX5_endY_8 ?_
  refine x_iconst (v := 1) dX5_endY_9 (by decide) ?_
  refine x_isub dX5_endY_10 ?_
  refine x_callV (K := jX5_numberOf) [.int i, .int ((2 * (ptV V a k i)) - 1)] lk_X5_45 ⟨⟨rfl, rfl⟩, Nat.le_of_ble_eq_true rfl, Nat.le_of_ble_eq_true rfl⟩ h.1 rfl (mX5_numberOf V h (by first | assumption | exact hk.1) i ((2 * (ptV V a k i)) - 1)) rfl (Nat.le_of_ble_eq_true rfl) rfl dX5_endY_11 (kpI ?_)
  refine x_iret dX5_endY_14 rfl ?_
  rw [hQ]
  exact ⟨rfl, rfl⟩
set_option maxHeartbeats 1000000 in
set_option maxRecDepth 100000 in
theorem mX5_control {g : gX} (V : vM) {a k n : Nat} (h : isP a k n) (hk : kok V a k) (i p : Int32) : MM g jX5_control V [.ref (g.2.1 a), .int i, .int p] (pI V (if p < 2 * ptV V a k i - 2 then nbV V a n i p else -1000006)) := by
  refine MM.of plX5_control (Nat.le_of_ble_eq_true rfl) ?_
  obtain ⟨Q, hQ⟩ : ∃ Q : Option Value → vM → Prop, Q = (pI V (if p < 2 * ptV V a k i - 2 then nbV V a n i p else -1000006)) := ⟨_, rfl⟩
  rw [← hQ]
  show XX g jX5_control Q V 0 [(0, .ref (g.2.1 a)), (1, .int i), (2, .int p)] []
  refine x_iload_n dX5_control_0 2 rfl ?_
  refine x_iconst (v := 2) dX5_control_1 (by decide) ?_
  refine x_aload_n dX5_control_2 0 rfl ?_
  refine x_iload_n dX5_control_3 1 rfl ?_
  refine x_callV (K := jX5_pointsOf) [.int i] lk_X5_42 ⟨⟨rfl, rfl⟩, Nat.le_of_ble_eq_true rfl, Nat.le_of_ble_eq_true rfl⟩ h.1 rfl (mX5_pointsOf V h (by assumption) i) rfl (Nat.le_of_ble_eq_true rfl) rfl dX5_control_4 (kpI ?_)
  refine x_imul dX5_control_7 ?_
  refine x_iconst (v := 2) dX5_control_8 (by decide) ?_
  refine x_isub dX5_control_9 ?_
  have jn3 : ∀ (z2 : Int32), ((((2 * (ptV V a k i)) - 2) ≤ p ∧ z2 = (-1000006)) ∨ (¬ ((2 * (ptV V a k i)) - 2) ≤ p ∧ z2 = nbV V a n i p)) → XX g jX5_control Q V 24 [(0, .ref (g.2.1 a)), (1, .int i), (2, .int p)] [.int z2] := by
    intro z2 hj4
    refine x_iret dX5_control_24 rfl ?_
    rw [hQ]
    refine ⟨rfl, ?_⟩
    congr 2
    grind
  refine x_icmp_ge 22 dX5_control_10 (by decide) (fun c1 => ?_) (fun c1 => ?_)
  · refine x_ldc ct_X5_49 dX5_control_22 ?_
    exact jn3 _ (Or.inl ⟨c1, rfl⟩)
  · refine x_aload_n dX5_control_13 0 rfl ?_
    refine x_iload_n dX5_control_14 1 rfl ?_
    refine x_iload_n dX5_control_15 2 rfl ?_
    refine x_callV (K := jX5_numberOf) [.int i, .int p] lk_X5_45 ⟨⟨rfl, rfl⟩, Nat.le_of_ble_eq_true rfl, Nat.le_of_ble_eq_true rfl⟩ h.1 rfl (mX5_numberOf V h (by first | assumption | exact hk.1) i p) rfl (Nat.le_of_ble_eq_true rfl) rfl dX5_control_16 (kpI ?_)
    refine x_goto 24 dX5_control_19 (by decide) ?_
    exact jn3 _ (Or.inr ⟨c1, rfl⟩)
set_option maxHeartbeats 1000000 in
set_option maxRecDepth 100000 in
theorem mX5_isOpen {g : gX} (V : vM) {a k n : Nat} (h : isP a k n) (hs : szok V a) : MM g jX5_isOpen V [.ref (g.2.1 a)] (pI V (if 0 < V a 2 ∧ ¬ V k (V a 2 - 1).toNatClampNeg = 4 then 1 else 0)) := by
  refine MM.of plX5_isOpen (Nat.le_of_ble_eq_true rfl) ?_
  obtain ⟨Q, hQ⟩ : ∃ Q : Option Value → vM → Prop, Q = (pI V (if 0 < V a 2 ∧ ¬ V k (V a 2 - 1).toNatClampNeg = 4 then 1 else 0)) := ⟨_, rfl⟩
  rw [← hQ]
  show XX g jX5_isOpen Q V 0 [(0, .ref (g.2.1 a))] []
  obtain ⟨hs1, hs2⟩ := hs
  refine x_aload_n dX5_isOpen_0 0 rfl ?_
  refine x_getI fl_X5_18 h.1 rfl dX5_isOpen_1 ?_
  have jn3 : ∀ (z2 : Int32), (((V a 2) ≤ 0 ∧ z2 = 0) ∨ (¬ (V a 2) ≤ 0 ∧ (V k ((V a 2) - 1).toNatClampNeg) = 4 ∧ z2 = 0) ∨ (¬ (V a 2) ≤ 0 ∧ ¬ (V k ((V a 2) - 1).toNatClampNeg) = 4 ∧ z2 = 1)) → XX g jX5_isOpen Q V 27 [(0, .ref (g.2.1 a))] [.int z2] := by
    intro z2 hj4
    refine x_zret dX5_isOpen_27 rfl (by exact nar01 (by first | exact Or.inl rfl | exact Or.inr rfl | grind)) ?_
    rw [hQ]
    refine ⟨rfl, ?_⟩
    congr 2
    grind
  refine x_if_le 26 dX5_isOpen_4 (by decide) (fun c1 => ?_) (fun c1 => ?_)
  · refine x_iconst (v := 0) dX5_isOpen_26 (by decide) ?_
    exact jn3 _ (Or.inl ⟨c1, rfl⟩)
  · refine x_aload_n dX5_isOpen_7 0 rfl ?_
    refine x_getR fl_X5_9 h.1 rfl dX5_isOpen_8 ?_
    refine x_aload_n dX5_isOpen_11 0 rfl ?_
    refine x_getI fl_X5_18 h.1 rfl dX5_isOpen_12 ?_
    refine x_iconst (v := 1) dX5_isOpen_15 (by decide) ?_
    refine x_isub dX5_isOpen_16 ?_
    have b6 : vp_in ((V a 2) - 1) 24 := by exact vp_lit (N := 24) 24 (by decide) rfl (by grind) (by grind)
    refine x_iald h.2.1 b6 dX5_isOpen_17 ?_
    refine x_iconst (v := 4) dX5_isOpen_18 (by decide) ?_
    refine x_icmp_eq 26 dX5_isOpen_19 (by decide) (fun c7 => ?_) (fun c7 => ?_)
    · refine x_iconst (v := 0) dX5_isOpen_26 (by decide) ?_
      exact jn3 _ (Or.inr (Or.inl ⟨c1, c7, rfl⟩))
    · refine x_iconst (v := 1) dX5_isOpen_22 (by decide) ?_
      refine x_goto 27 dX5_isOpen_23 (by decide) ?_
      exact jn3 _ (Or.inr (Or.inr ⟨c1, c7, rfl⟩))
set_option maxHeartbeats 1000000 in
set_option maxRecDepth 100000 in
theorem mX5_clear {g : gX} (V : vM) {a k n : Nat} (h : isP a k n) : MM g jX5_clear V [.ref (g.2.1 a)] (dV (uM (uM V a 2 0) a 3 0)) := by
  refine MM.of plX5_clear (Nat.le_of_ble_eq_true rfl) ?_
  obtain ⟨Q, hQ⟩ : ∃ Q : Option Value → vM → Prop, Q = (dV (uM (uM V a 2 0) a 3 0)) := ⟨_, rfl⟩
  rw [← hQ]
  show XX g jX5_clear Q V 0 [(0, .ref (g.2.1 a))] []
  refine x_aload_n dX5_clear_0 0 rfl ?_
  refine x_iconst (v := 0) dX5_clear_1 (by decide) ?_
  refine x_putI fp_X5_18 h.1 rfl dX5_clear_2 ?_
  obtain ⟨U1, eU1⟩ : ∃ v_v : vM, v_v = uM V a 2 0 := ⟨_, rfl⟩
  refine YY.V eU1.symm ?_
  refine x_aload_n dX5_clear_5 0 rfl ?_
  refine x_iconst (v := 0) dX5_clear_6 (by decide) ?_
  refine x_putI fp_X5_22 h.1 rfl dX5_clear_7 ?_
  obtain ⟨U2, eU2⟩ : ∃ v_v : vM, v_v = uM U1 a 3 0 := ⟨_, rfl⟩
  refine YY.V eU2.symm ?_
  refine x_vret dX5_clear_10 rfl ?_
  rw [hQ]
  refine ⟨?_, rfl⟩
  rw [eU2, eU1]
set_option maxHeartbeats 1000000 in
set_option maxRecDepth 100000 in
theorem mX5_dropLast {g : gX} (V : vM) {a k n : Nat} (h : isP a k n) (hs : szok V a) : MM g jX5_dropLast V [.ref (g.2.1 a)] (dV (if V a 2 = 0 then V else if V k (V a 2 - 1).toNatClampNeg = 0 then uM (uM V a 2 (V a 2 - 1)) a 3 (V a 3 - 1) else uM V a 2 (V a 2 - 1))) := by
  refine MM.of plX5_dropLast (Nat.le_of_ble_eq_true rfl) ?_
  obtain ⟨Q, hQ⟩ : ∃ Q : Option Value → vM → Prop, Q = (dV (if V a 2 = 0 then V else if V k (V a 2 - 1).toNatClampNeg = 0 then uM (uM V a 2 (V a 2 - 1)) a 3 (V a 3 - 1) else uM V a 2 (V a 2 - 1))) := ⟨_, rfl⟩
  rw [← hQ]
  show XX g jX5_dropLast Q V 0 [(0, .ref (g.2.1 a))] []
  obtain ⟨hs1, hs2⟩ := hs
  obtain ⟨-, -, -, n1, n2, n3⟩ := id h
  refine x_aload_n dX5_dropLast_0 0 rfl ?_
  refine x_getI fl_X5_18 h.1 rfl dX5_dropLast_1 ?_
  refine x_if_ne 8 dX5_dropLast_4 (by decide) (fun c1 => ?_) (fun c1 => ?_)
  · refine x_aload_n dX5_dropLast_8 0 rfl ?_
    refine x_dup dX5_dropLast_9 rfl ?_
    refine x_getI fl_X5_18 h.1 rfl dX5_dropLast_10 ?_
    refine x_iconst (v := 1) dX5_dropLast_13 (by decide) ?_
    refine x_isub dX5_dropLast_14 ?_
    refine x_putI fp_X5_18 h.1 rfl dX5_dropLast_15 ?_
    obtain ⟨U2, eU2⟩ : ∃ v_v : vM, v_v = uM V a 2 ((V a 2) - 1) := ⟨_, rfl⟩
    refine YY.V eU2.symm ?_
    refine x_aload_n dX5_dropLast_18 0 rfl ?_
    refine x_getR fl_X5_9 h.1 rfl dX5_dropLast_19 ?_
    refine x_aload_n dX5_dropLast_22 0 rfl ?_
    refine x_getI fl_X5_18 h.1 rfl dX5_dropLast_23 ?_
    refine x_topi (y := (V a 2) - 1) (by rw [eU2, uM_hit]) ?_
    have b3 : vp_in ((V a 2) - 1) 24 := by exact vp_lit (N := 24) 24 (by decide) rfl (by grind) (by grind)
    refine x_iald h.2.1 b3 dX5_dropLast_26 ?_
    refine x_topi (y := V k (((V a 2) - 1).toNatClampNeg)) (by rw [eU2, uM_na (Ne.symm n1)]) ?_
    refine x_if_ne 40 dX5_dropLast_27 (by decide) (fun c4 => ?_) (fun c4 => ?_)
    · refine x_vret dX5_dropLast_40 rfl ?_
      rw [hQ]
      refine ⟨?_, rfl⟩
      subst_vars
      simp [*]
    · refine x_aload_n dX5_dropLast_30 0 rfl ?_
      refine x_dup dX5_dropLast_31 rfl ?_
      refine x_getI fl_X5_22 h.1 rfl dX5_dropLast_32 ?_
      refine x_topi (y := V a 3) (by rw [eU2, uM_ni (by decide)]) ?_
      refine x_iconst (v := 1) dX5_dropLast_35 (by decide) ?_
      refine x_isub dX5_dropLast_36 ?_
      refine x_putI fp_X5_22 h.1 rfl dX5_dropLast_37 ?_
      obtain ⟨U5, eU5⟩ : ∃ v_v : vM, v_v = uM U2 a 3 ((V a 3) - 1) := ⟨_, rfl⟩
      refine YY.V eU5.symm ?_
      refine x_vret dX5_dropLast_40 rfl ?_
      rw [hQ]
      refine ⟨?_, rfl⟩
      subst_vars
      simp [*]
  · refine x_vret dX5_dropLast_7 rfl ?_
    rw [hQ]
    refine ⟨?_, rfl⟩
    subst_vars
    simp [*]
/-- add's work on the cells: one command more behind N others -/
def adK (V : vM) (a k N : Nat) (kd : Int32) : vM := if kd = 0 then uM (uM (uM V k N kd) a 2 (nI (N + 1))) a 3 (V a 3 + 1) else uM (uM V k N kd) a 2 (nI (N + 1))
def adN (V : vM) (n N : Nat) (x0 x1 x2 x3 x4 x5 : Int32) : vM := uM (uM (uM (uM (uM (uM V n (N * 6) x0) n (N * 6 + 1) x1) n (N * 6 + 2) x2) n (N * 6 + 3) x3) n (N * 6 + 4) x4) n (N * 6 + 5) x5
def ad (V : vM) (a k n N : Nat) (kd x0 x1 x2 x3 x4 x5 : Int32) : vM := if N < 24 then adN (adK V a k N kd) n N x0 x1 x2 x3 x4 x5 else V
def bc (V : vM) (a k n b kb nb : Nat) : vM := cM (cM (uM (uM V a 2 (V b 2)) a 3 (V b 3)) k (fun i => if i < 24 then V kb i else V k i)) n (fun i => if i < 144 then V nb i else V n i)
set_option maxHeartbeats 1000000 in
set_option maxRecDepth 100000 in
theorem mX5_addKind {g : gX} (V : vM) {a k n : Nat} (h : isP a k n) (N : Nat) (hN : N ≤ 24) (hsz : V a 2 = nI N) (kd : Int32) : MM g jX5_addKind V [.ref (g.2.1 a), .int kd] (dI (if N < 24 then adK V a k N kd else V) (iB (N < 24))) := by
  refine MM.of plX5_addKind (Nat.le_of_ble_eq_true rfl) ?_
  obtain ⟨Q, hQ⟩ : ∃ Q : Option Value → vM → Prop, Q = (dI (if N < 24 then adK V a k N kd else V) (iB (N < 24))) := ⟨_, rfl⟩
  rw [← hQ]
  show XX g jX5_addKind Q V 0 [(0, .ref (g.2.1 a)), (1, .int kd)] []
  obtain ⟨-, -, -, n1, n2, n3⟩ := id h
  refine x_aload_n dX5_addKind_0 0 rfl ?_
  refine x_getI fl_X5_18 h.1 rfl dX5_addKind_1 ?_
  refine x_topi (hsz) ?_
  refine x_bipush (v := 24) dX5_addKind_4 (by decide) ?_
  refine x_icmp_lt 11 dX5_addKind_6 (by decide) (fun c1 => ?_) (fun c1 => ?_)
  · have c1n : N < 24 := (nl_lt (a := N) (b := 24) (rfl) (rfl) (by omega) (by omega)).mp c1
    refine x_aload_n dX5_addKind_11 0 rfl ?_
    refine x_getR fl_X5_9 h.1 rfl dX5_addKind_12 ?_
    refine x_aload_n dX5_addKind_15 0 rfl ?_
    refine x_getI fl_X5_18 h.1 rfl dX5_addKind_16 ?_
    refine x_topi (hsz) ?_
    refine x_iload_n dX5_addKind_19 1 rfl ?_
    have b2 : vp_in (nI N) 24 := by exact vp_in_nI (by omega) (by decide)
    refine x_iast h.2.1 b2 dX5_addKind_20 ?_
    refine YY.V (V' := uM V k N kd) (by rw [nI_clamp (by omega)]) ?_
    obtain ⟨U3, eU3⟩ : ∃ v_v : vM, v_v = uM V k N kd := ⟨_, rfl⟩
    refine YY.V eU3.symm ?_
    refine x_aload_n dX5_addKind_21 0 rfl ?_
    refine x_dup dX5_addKind_22 rfl ?_
    refine x_getI fl_X5_18 h.1 rfl dX5_addKind_23 ?_
    refine x_topi (y := V a 2) (by rw [eU3, uM_na n1]) ?_
    refine x_topi (hsz) ?_
    refine x_iconst (v := 1) dX5_addKind_26 (by decide) ?_
    refine x_iadd dX5_addKind_27 ?_
    refine x_putI fp_X5_18 h.1 rfl dX5_addKind_28 ?_
    obtain ⟨U4, eU4⟩ : ∃ v_v : vM, v_v = uM U3 a 2 ((nI N) + 1) := ⟨_, rfl⟩
    refine YY.V eU4.symm ?_
    refine x_iload_n dX5_addKind_31 1 rfl ?_
    refine x_if_ne 45 dX5_addKind_32 (by decide) (fun c5 => ?_) (fun c5 => ?_)
    · refine x_iconst (v := 1) dX5_addKind_45 (by decide) ?_
      refine x_zret dX5_addKind_46 rfl (by exact nar01 (by first | exact Or.inl rfl | exact Or.inr rfl | grind)) ?_
      rw [hQ]
      subst_vars
      exact ⟨by first | (rw [if_pos (by omega)]; simp [adK, nI_1, *]; done) | rw [if_neg (by omega)], by first | rw [iB_1.mpr (by omega)] | rw [iB_0.mpr (by omega)]⟩
    · refine x_aload_n dX5_addKind_35 0 rfl ?_
      refine x_dup dX5_addKind_36 rfl ?_
      refine x_getI fl_X5_22 h.1 rfl dX5_addKind_37 ?_
      refine x_topi (y := V a 3) (by rw [eU4, uM_ni (by decide), eU3, uM_na n1]) ?_
      refine x_iconst (v := 1) dX5_addKind_40 (by decide) ?_
      refine x_iadd dX5_addKind_41 ?_
      refine x_putI fp_X5_22 h.1 rfl dX5_addKind_42 ?_
      obtain ⟨U7, eU7⟩ : ∃ v_v : vM, v_v = uM U4 a 3 ((V a 3) + 1) := ⟨_, rfl⟩
      refine YY.V eU7.symm ?_
      refine x_iconst (v := 1) dX5_addKind_45 (by decide) ?_
      refine x_zret dX5_addKind_46 rfl (by exact nar01 (by first | exact Or.inl rfl | exact Or.inr rfl | grind)) ?_
      rw [hQ]
      subst_vars
      exact ⟨by first | (rw [if_pos (by omega)]; simp [adK, nI_1, *]; done) | rw [if_neg (by omega)], by first | rw [iB_1.mpr (by omega)] | rw [iB_0.mpr (by omega)]⟩
  · have c1n : 24 ≤ N := Nat.not_lt.mp (fun q => c1 ((nl_lt (a := N) (b := 24) (rfl) (rfl) (by omega) (by omega)).mpr q))
    refine x_iconst (v := 0) dX5_addKind_9 (by decide) ?_
    refine x_zret dX5_addKind_10 rfl (by exact nar01 (by first | exact Or.inl rfl | exact Or.inr rfl | grind)) ?_
    rw [hQ]
    subst_vars
    exact ⟨by first | (rw [if_pos (by omega)]; simp [adK, nI_1, *]; done) | rw [if_neg (by omega)], by first | rw [iB_1.mpr (by omega)] | rw [iB_0.mpr (by omega)]⟩
set_option maxHeartbeats 1000000 in
set_option maxRecDepth 100000 in
theorem mX5_firstOf {g : gX} (V : vM) {a k n : Nat} (h : isP a k n) {N : Nat} (hN : N ≤ 24) (hsz : V a 2 = nI N) (c : Int32) : MM g jX5_firstOf V [.ref (g.2.1 a), .int c] (pI V (nI (fo (V k) N c))) := by
  refine MM.of plX5_firstOf (Nat.le_of_ble_eq_true rfl) ?_
  obtain ⟨Q, hQ⟩ : ∃ Q : Option Value → vM → Prop, Q = (pI V (nI (fo (V k) N c))) := ⟨_, rfl⟩
  rw [← hQ]
  show XX g jX5_firstOf Q V 0 [(0, .ref (g.2.1 a)), (1, .int c)] []
  refine x_iconst (v := 0) dX5_firstOf_0 (by decide) ?_
  refine x_istore_n 2 [(2, .int 0), (0, .ref (g.2.1 a)), (1, .int c)] dX5_firstOf_1 rfl (by decide) rfl ?_
  refine x_iconst (v := 0) dX5_firstOf_2 (by decide) ?_
  refine x_istore_n 3 [(3, .int 0), (2, .int 0), (0, .ref (g.2.1 a)), (1, .int c)] dX5_firstOf_3 rfl (by decide) rfl ?_
  have lp1 : ∀ (fu : Nat) (i : Nat) (mv : Nat), (i ≤ N) → (mv ≤ i) → (foL (V k) N c (N - i) i mv = fo (V k) N c) → (N - i) < fu → XX g jX5_firstOf Q V 4 [(3, .int (nI i)), (2, .int (nI mv)), (0, .ref (g.2.1 a)), (1, .int c)] [] := by
    intro fu
    induction fu with
    | zero => intro _ _ _ _ _ hmz; exact absurd hmz (Nat.not_lt_zero _)
    | succ fu ih =>
      intro i mv hi hmv hv hmz
      refine x_iload_n dX5_firstOf_4 0 rfl ?_
      refine x_aload_n dX5_firstOf_5 2 rfl ?_
      refine x_getI fl_X5_18 h.1 rfl dX5_firstOf_6 ?_
      refine x_topi (hsz) ?_
      refine x_icmp_ge 37 dX5_firstOf_9 (by decide) (fun c2 => ?_) (fun c2 => ?_)
      · have c2n : N ≤ i := (nl_le (a := N) (b := i) (rfl) (rfl) (by omega) (by omega)).mp c2
        refine x_aload_n dX5_firstOf_37 2 rfl ?_
        refine x_getI fl_X5_18 h.1 rfl dX5_firstOf_38 ?_
        refine x_topi (hsz) ?_
        refine x_iret dX5_firstOf_41 rfl ?_
        rw [hQ]
        refine ⟨rfl, ?_⟩
        rw [← hv, show N - i = 0 by omega]
        rfl
      · have c2n : i < N := Nat.not_le.mp (fun q => c2 ((nl_le (a := N) (b := i) (rfl) (rfl) (by omega) (by omega)).mpr q))
        refine x_aload_n dX5_firstOf_12 2 rfl ?_
        refine x_getR fl_X5_9 h.1 rfl dX5_firstOf_13 ?_
        refine x_iload_n dX5_firstOf_16 0 rfl ?_
        have b3 : vp_in (nI i) 24 := by exact vp_in_nI (by omega) (by decide)
        refine x_iald h.2.1 b3 dX5_firstOf_17 ?_
        refine x_topi (y := V k i) (by rw [nI_clamp (by omega)]) ?_
        refine x_if_ne 31 dX5_firstOf_18 (by decide) (fun c4 => ?_) (fun c4 => ?_)
        · refine x_iinc 3 (v := (nI i) + 1) 0 [(3, .int ((nI i) + 1)), (2, .int (nI mv)), (0, .ref (g.2.1 a)), (1, .int c)] dX5_firstOf_31 rfl (by rfl) (by decide) rfl ?_
          refine x_goto 4 dX5_firstOf_34 (by decide) ?_
          refine YY.L (lv' := [(3, .int (nI (i + 1))), (2, .int (nI mv)), (0, .ref (g.2.1 a)), (1, .int c)]) (by first | rfl | (simp only [nI_1]; done) | (simp only [← nI_add]; rfl)) ?_
          exact ih (i + 1) mv (by omega) (by omega) (by rw [← hv, show N - i = (N - (i + 1)) + 1 by omega]; simp [foL, *]) (by omega)
        · refine x_iload_n dX5_firstOf_21 1 rfl ?_
          refine x_iload_n dX5_firstOf_22 3 rfl ?_
          refine x_icmp_ne 28 dX5_firstOf_23 (by decide) (fun c5 => ?_) (fun c5 => ?_)
          · refine x_iinc 2 (v := (nI mv) + 1) 1 [(2, .int ((nI mv) + 1)), (3, .int (nI i)), (0, .ref (g.2.1 a)), (1, .int c)] dX5_firstOf_28 rfl (by rfl) (by decide) rfl ?_
            refine x_iinc 3 (v := (nI i) + 1) 1 [(3, .int ((nI i) + 1)), (2, .int ((nI mv) + 1)), (0, .ref (g.2.1 a)), (1, .int c)] dX5_firstOf_31 rfl (by rfl) (by decide) rfl ?_
            refine x_goto 4 dX5_firstOf_34 (by decide) ?_
            refine YY.L (lv' := [(3, .int (nI (i + 1))), (2, .int (nI (mv + 1))), (0, .ref (g.2.1 a)), (1, .int c)]) (by first | rfl | (simp only [nI_1]; done) | (simp only [← nI_add]; rfl)) ?_
            exact ih (i + 1) (mv + 1) (by omega) (by omega) (by rw [← hv, show N - i = (N - (i + 1)) + 1 by omega]; simp [foL, *]) (by omega)
          · refine x_iload_n dX5_firstOf_26 0 rfl ?_
            refine x_iret dX5_firstOf_27 rfl ?_
            rw [hQ]
            refine ⟨rfl, ?_⟩
            rw [← hv, show N - i = (N - (i + 1)) + 1 by omega]
            simp [foL, *]
  refine YY.L (lv' := [(3, .int (nI 0)), (2, .int (nI 0)), (0, .ref (g.2.1 a)), (1, .int c)]) (by first | rfl | simp) ?_
  exact lp1 _ 0 0 (by omega) (by omega) (by rfl) (Nat.lt_succ_self _)
set_option maxHeartbeats 1000000 in
set_option maxRecDepth 100000 in
theorem mX5_behind {g : gX} (V : vM) {a k n : Nat} (h : isP a k n) {N : Nat} (hN : N ≤ 24) (hsz : V a 2 = nI N) (c : Int32) : MM g jX5_behind V [.ref (g.2.1 a), .int c] (pI V (nI (fo (V k) N (c + 1)))) := by
  refine MM.of plX5_behind (Nat.le_of_ble_eq_true rfl) ?_
  obtain ⟨Q, hQ⟩ : ∃ Q : Option Value → vM → Prop, Q = (pI V (nI (fo (V k) N (c + 1)))) := ⟨_, rfl⟩
  rw [← hQ]
  show XX g jX5_behind Q V 0 [(0, .ref (g.2.1 a)), (1, .int c)] []
  refine x_aload_n dX5_behind_0 0 rfl ?_
  refine x_iload_n dX5_behind_1 1 rfl ?_
  refine x_iconst (v := 1) dX5_behind_2 (by decide) ?_
  refine x_iadd dX5_behind_3 ?_
  refine x_callV (K := jX5_firstOf) [.int (c + 1)] lk_X5_50 ⟨⟨rfl, rfl⟩, Nat.le_of_ble_eq_true rfl, Nat.le_of_ble_eq_true rfl⟩ h.1 rfl (mX5_firstOf V h hN hsz (c + 1)) rfl (Nat.le_of_ble_eq_true rfl) rfl dX5_behind_4 (kpI ?_)
  refine x_iret dX5_behind_7 rfl ?_
  rw [hQ]
  exact ⟨rfl, rfl⟩
set_option maxHeartbeats 1000000 in
set_option maxRecDepth 100000 in
theorem mX5_contourOf {g : gX} (V : vM) {a k n : Nat} (h : isP a k n) {N : Nat} (hN : N ≤ 24) (hsz : V a 2 = nI N) (c : Nat) (hc : c < N) : MM g jX5_contourOf V [.ref (g.2.1 a), .int (nI c)] (pI V (nI (cntM (V k) (c + 1)) - 1)) := by
  refine MM.of plX5_contourOf (Nat.le_of_ble_eq_true rfl) ?_
  obtain ⟨Q, hQ⟩ : ∃ Q : Option Value → vM → Prop, Q = (pI V (nI (cntM (V k) (c + 1)) - 1)) := ⟨_, rfl⟩
  rw [← hQ]
  show XX g jX5_contourOf Q V 0 [(0, .ref (g.2.1 a)), (1, .int (nI c))] []
  refine x_iconst (v := 0) dX5_contourOf_0 (by decide) ?_
  refine x_istore_n 2 [(2, .int 0), (0, .ref (g.2.1 a)), (1, .int (nI c))] dX5_contourOf_1 rfl (by decide) rfl ?_
  refine x_iconst (v := 0) dX5_contourOf_2 (by decide) ?_
  refine x_istore_n 3 [(3, .int 0), (2, .int 0), (0, .ref (g.2.1 a)), (1, .int (nI c))] dX5_contourOf_3 rfl (by decide) rfl ?_
  have lp1 : ∀ (fu : Nat) (i : Nat), (i ≤ c + 1) → (c + 1 - i) < fu → XX g jX5_contourOf Q V 4 [(3, .int (nI i)), (2, .int (nI (cntM (V k) i))), (0, .ref (g.2.1 a)), (1, .int (nI c))] [] := by
    intro fu
    induction fu with
    | zero => intro _ _ hmz; exact absurd hmz (Nat.not_lt_zero _)
    | succ fu ih =>
      intro i hi hmz
      refine x_iload_n dX5_contourOf_4 0 rfl ?_
      refine x_aload_n dX5_contourOf_5 2 rfl ?_
      refine x_getI fl_X5_18 h.1 rfl dX5_contourOf_6 ?_
      refine x_topi (hsz) ?_
      refine x_icmp_ge 35 dX5_contourOf_9 (by decide) (fun c2 => ?_) (fun c2 => ?_)
      · have c2n : N ≤ i := (nl_le (a := N) (b := i) (rfl) (rfl) (by omega) (by omega)).mp c2
        refine x_iload_n dX5_contourOf_35 1 rfl ?_
        refine x_iconst (v := 1) dX5_contourOf_36 (by decide) ?_
        refine x_isub dX5_contourOf_37 ?_
        refine x_iret dX5_contourOf_38 rfl ?_
        rw [hQ]
        refine ⟨rfl, ?_⟩
        rw [show i = c + 1 by omega]
      · have c2n : i < N := Nat.not_le.mp (fun q => c2 ((nl_le (a := N) (b := i) (rfl) (rfl) (by omega) (by omega)).mpr q))
        refine x_iload_n dX5_contourOf_12 0 rfl ?_
        refine x_iload_n dX5_contourOf_13 3 rfl ?_
        refine x_icmp_gt 35 dX5_contourOf_14 (by decide) (fun c3 => ?_) (fun c3 => ?_)
        · have c3n : c < i := (nl_lt (a := c) (b := i) (rfl) (rfl) (by omega) (by omega)).mp c3
          refine x_iload_n dX5_contourOf_35 1 rfl ?_
          refine x_iconst (v := 1) dX5_contourOf_36 (by decide) ?_
          refine x_isub dX5_contourOf_37 ?_
          refine x_iret dX5_contourOf_38 rfl ?_
          rw [hQ]
          refine ⟨rfl, ?_⟩
          rw [show i = c + 1 by omega]
        · have c3n : i ≤ c := Nat.not_lt.mp (fun q => c3 ((nl_lt (a := c) (b := i) (rfl) (rfl) (by omega) (by omega)).mpr q))
          refine x_aload_n dX5_contourOf_17 2 rfl ?_
          refine x_getR fl_X5_9 h.1 rfl dX5_contourOf_18 ?_
          refine x_iload_n dX5_contourOf_21 0 rfl ?_
          have b4 : vp_in (nI i) 24 := by exact vp_in_nI (by omega) (by decide)
          refine x_iald h.2.1 b4 dX5_contourOf_22 ?_
          refine x_topi (y := V k i) (by rw [nI_clamp (by omega)]) ?_
          refine x_if_ne 29 dX5_contourOf_23 (by decide) (fun c5 => ?_) (fun c5 => ?_)
          · refine x_iinc 3 (v := (nI i) + 1) 0 [(3, .int ((nI i) + 1)), (2, .int (nI (cntM (V k) i))), (0, .ref (g.2.1 a)), (1, .int (nI c))] dX5_contourOf_29 rfl (by rfl) (by decide) rfl ?_
            refine x_goto 4 dX5_contourOf_32 (by decide) ?_
            refine YY.L (lv' := [(3, .int (nI (i + 1))), (2, .int (nI (cntM (V k) (i + 1)))), (0, .ref (g.2.1 a)), (1, .int (nI c))]) (by simp [cntM, *, nI_1]) ?_
            exact ih (i + 1) (by omega) (by omega)
          · refine x_iinc 2 (v := (nI (cntM (V k) i)) + 1) 1 [(2, .int ((nI (cntM (V k) i)) + 1)), (3, .int (nI i)), (0, .ref (g.2.1 a)), (1, .int (nI c))] dX5_contourOf_26 rfl (by rfl) (by decide) rfl ?_
            refine x_iinc 3 (v := (nI i) + 1) 1 [(3, .int ((nI i) + 1)), (2, .int ((nI (cntM (V k) i)) + 1)), (0, .ref (g.2.1 a)), (1, .int (nI c))] dX5_contourOf_29 rfl (by rfl) (by decide) rfl ?_
            refine x_goto 4 dX5_contourOf_32 (by decide) ?_
            refine YY.L (lv' := [(3, .int (nI (i + 1))), (2, .int (nI (cntM (V k) (i + 1)))), (0, .ref (g.2.1 a)), (1, .int (nI c))]) (by simp [cntM, *, nI_1]) ?_
            exact ih (i + 1) (by omega) (by omega)
  refine YY.L (lv' := [(3, .int (nI 0)), (2, .int (nI (cntM (V k) 0))), (0, .ref (g.2.1 a)), (1, .int (nI c))]) (by first | rfl | simp) ?_
  exact lp1 _ 0 (by omega) (Nat.lt_succ_self _)
set_option maxHeartbeats 1000000 in
set_option maxRecDepth 100000 in
theorem mX5_add {g : gX} (V : vM) {a k n : Nat} (h : isP a k n) (N : Nat) (hN : N ≤ 24) (hsz : V a 2 = nI N) (kd x0 x1 x2 x3 x4 x5 : Int32) : MM g jX5_add V [.ref (g.2.1 a), .int kd, .int x0, .int x1, .int x2, .int x3, .int x4, .int x5] (dV (ad V a k n N kd x0 x1 x2 x3 x4 x5)) := by
  refine MM.of plX5_add (Nat.le_of_ble_eq_true rfl) ?_
  obtain ⟨Q, hQ⟩ : ∃ Q : Option Value → vM → Prop, Q = (dV (ad V a k n N kd x0 x1 x2 x3 x4 x5)) := ⟨_, rfl⟩
  rw [← hQ]
  show XX g jX5_add Q V 0 [(0, .ref (g.2.1 a)), (1, .int kd), (2, .int x0), (3, .int x1), (4, .int x2), (5, .int x3), (6, .int x4), (7, .int x5)] []
  refine x_aload_n dX5_add_0 0 rfl ?_
  refine x_getI fl_X5_18 h.1 rfl dX5_add_1 ?_
  refine x_topi (hsz) ?_
  refine x_bipush (v := 6) dX5_add_4 (by decide) ?_
  refine x_imul dX5_add_6 ?_
  refine x_istore 8 [(8, .int ((nI N) * 6)), (0, .ref (g.2.1 a)), (1, .int kd), (2, .int x0), (3, .int x1), (4, .int x2), (5, .int x3), (6, .int x4), (7, .int x5)] dX5_add_7 (by decide) rfl ?_
  refine x_aload_n dX5_add_9 1 rfl ?_
  refine x_iload_n dX5_add_10 2 rfl ?_
  refine x_callV (K := jX5_addKind) [.int kd] lk_X5_25 ⟨⟨rfl, rfl⟩, Nat.le_of_ble_eq_true rfl, Nat.le_of_ble_eq_true rfl⟩ h.1 rfl (mX5_addKind V h N hN hsz kd) rfl (Nat.le_of_ble_eq_true rfl) rfl dX5_add_11 (kdI ?_)
  obtain ⟨U1, eU1⟩ : ∃ v_v : vM, v_v = if N < 24 then adK V a k N kd else V := ⟨_, rfl⟩
  refine YY.V eU1.symm ?_
  refine x_if_ne 18 dX5_add_14 (by decide) (fun c2 => ?_) (fun c2 => ?_)
  · have c2n : (N < 24) := Classical.not_not.mp (fun q => c2 (iB_0.mpr q))
    refine x_aload_n dX5_add_18 1 rfl ?_
    refine x_getR fl_X5_15 h.1 rfl dX5_add_19 ?_
    refine x_iload dX5_add_22 0 rfl ?_
    refine x_iload_n dX5_add_24 3 rfl ?_
    have q3 : ((nI N) * 6 : Int32) = nI (N * 6) := nmul (rfl) (rfl)
    refine YY.S (st' := [.int x0, .int (nI (N * 6)), .ref (g.2.1 n)]) (by rw [q3]) ?_
    have b4 : vp_in (nI (N * 6)) 144 := by exact vp_in_nI (by omega) (by decide)
    refine x_iast h.2.2.1 b4 dX5_add_25 ?_
    refine YY.V (V' := uM U1 n (N * 6) x0) (by rw [nI_clamp (by omega)]) ?_
    obtain ⟨U5, eU5⟩ : ∃ v_v : vM, v_v = uM U1 n (N * 6) x0 := ⟨_, rfl⟩
    refine YY.V eU5.symm ?_
    refine x_aload_n dX5_add_26 1 rfl ?_
    refine x_getR fl_X5_15 h.1 rfl dX5_add_27 ?_
    refine x_iload dX5_add_30 0 rfl ?_
    refine x_iconst (v := 1) dX5_add_32 (by decide) ?_
    refine x_iadd dX5_add_33 ?_
    refine x_iload_n dX5_add_34 4 rfl ?_
    have q6 : (((nI N) * 6) + 1 : Int32) = nI ((N * 6) + 1) := nadd (nmul (rfl) (rfl)) (rfl)
    refine YY.S (st' := [.int x1, .int (nI ((N * 6) + 1)), .ref (g.2.1 n)]) (by rw [q6]) ?_
    have b7 : vp_in (nI ((N * 6) + 1)) 144 := by exact vp_in_nI (by omega) (by decide)
    refine x_iast h.2.2.1 b7 dX5_add_35 ?_
    refine YY.V (V' := uM U5 n ((N * 6) + 1) x1) (by rw [nI_clamp (by omega)]) ?_
    obtain ⟨U8, eU8⟩ : ∃ v_v : vM, v_v = uM U5 n ((N * 6) + 1) x1 := ⟨_, rfl⟩
    refine YY.V eU8.symm ?_
    refine x_aload_n dX5_add_36 1 rfl ?_
    refine x_getR fl_X5_15 h.1 rfl dX5_add_37 ?_
    refine x_iload dX5_add_40 0 rfl ?_
    refine x_iconst (v := 2) dX5_add_42 (by decide) ?_
    refine x_iadd dX5_add_43 ?_
    refine x_iload dX5_add_44 5 rfl ?_
    have q9 : (((nI N) * 6) + 2 : Int32) = nI ((N * 6) + 2) := nadd (nmul (rfl) (rfl)) (rfl)
    refine YY.S (st' := [.int x2, .int (nI ((N * 6) + 2)), .ref (g.2.1 n)]) (by rw [q9]) ?_
    have b10 : vp_in (nI ((N * 6) + 2)) 144 := by exact vp_in_nI (by omega) (by decide)
    refine x_iast h.2.2.1 b10 dX5_add_46 ?_
    refine YY.V (V' := uM U8 n ((N * 6) + 2) x2) (by rw [nI_clamp (by omega)]) ?_
    obtain ⟨U11, eU11⟩ : ∃ v_v : vM, v_v = uM U8 n ((N * 6) + 2) x2 := ⟨_, rfl⟩
    refine YY.V eU11.symm ?_
    refine x_aload_n dX5_add_47 1 rfl ?_
    refine x_getR fl_X5_15 h.1 rfl dX5_add_48 ?_
    refine x_iload dX5_add_51 0 rfl ?_
    refine x_iconst (v := 3) dX5_add_53 (by decide) ?_
    refine x_iadd dX5_add_54 ?_
    refine x_iload dX5_add_55 6 rfl ?_
    have q12 : (((nI N) * 6) + 3 : Int32) = nI ((N * 6) + 3) := nadd (nmul (rfl) (rfl)) (rfl)
    refine YY.S (st' := [.int x3, .int (nI ((N * 6) + 3)), .ref (g.2.1 n)]) (by rw [q12]) ?_
    have b13 : vp_in (nI ((N * 6) + 3)) 144 := by exact vp_in_nI (by omega) (by decide)
    refine x_iast h.2.2.1 b13 dX5_add_57 ?_
    refine YY.V (V' := uM U11 n ((N * 6) + 3) x3) (by rw [nI_clamp (by omega)]) ?_
    obtain ⟨U14, eU14⟩ : ∃ v_v : vM, v_v = uM U11 n ((N * 6) + 3) x3 := ⟨_, rfl⟩
    refine YY.V eU14.symm ?_
    refine x_aload_n dX5_add_58 1 rfl ?_
    refine x_getR fl_X5_15 h.1 rfl dX5_add_59 ?_
    refine x_iload dX5_add_62 0 rfl ?_
    refine x_iconst (v := 4) dX5_add_64 (by decide) ?_
    refine x_iadd dX5_add_65 ?_
    refine x_iload dX5_add_66 7 rfl ?_
    have q15 : (((nI N) * 6) + 4 : Int32) = nI ((N * 6) + 4) := nadd (nmul (rfl) (rfl)) (rfl)
    refine YY.S (st' := [.int x4, .int (nI ((N * 6) + 4)), .ref (g.2.1 n)]) (by rw [q15]) ?_
    have b16 : vp_in (nI ((N * 6) + 4)) 144 := by exact vp_in_nI (by omega) (by decide)
    refine x_iast h.2.2.1 b16 dX5_add_68 ?_
    refine YY.V (V' := uM U14 n ((N * 6) + 4) x4) (by rw [nI_clamp (by omega)]) ?_
    obtain ⟨U17, eU17⟩ : ∃ v_v : vM, v_v = uM U14 n ((N * 6) + 4) x4 := ⟨_, rfl⟩
    refine YY.V eU17.symm ?_
    refine x_aload_n dX5_add_69 1 rfl ?_
    refine x_getR fl_X5_15 h.1 rfl dX5_add_70 ?_
    refine x_iload dX5_add_73 0 rfl ?_
    refine x_iconst (v := 5) dX5_add_75 (by decide) ?_
    refine x_iadd dX5_add_76 ?_
    refine x_iload dX5_add_77 8 rfl ?_
    have q18 : (((nI N) * 6) + 5 : Int32) = nI ((N * 6) + 5) := nadd (nmul (rfl) (rfl)) (rfl)
    refine YY.S (st' := [.int x5, .int (nI ((N * 6) + 5)), .ref (g.2.1 n)]) (by rw [q18]) ?_
    have b19 : vp_in (nI ((N * 6) + 5)) 144 := by exact vp_in_nI (by omega) (by decide)
    refine x_iast h.2.2.1 b19 dX5_add_79 ?_
    refine YY.V (V' := uM U17 n ((N * 6) + 5) x5) (by rw [nI_clamp (by omega)]) ?_
    obtain ⟨U20, eU20⟩ : ∃ v_v : vM, v_v = uM U17 n ((N * 6) + 5) x5 := ⟨_, rfl⟩
    refine YY.V eU20.symm ?_
    refine x_vret dX5_add_80 rfl ?_
    rw [hQ]
    refine ⟨?_, rfl⟩
    subst_vars
    unfold ad
    first | (rw [if_pos (by grind), if_pos (by grind)]; rfl) | rw [if_neg (by grind), if_neg (by grind)]
  · have c2n : ¬ (N < 24) := iB_0.mp c2
    refine x_vret dX5_add_17 rfl ?_
    rw [hQ]
    refine ⟨?_, rfl⟩
    subst_vars
    unfold ad
    first | (rw [if_pos (by grind), if_pos (by grind)]; rfl) | rw [if_neg (by grind), if_neg (by grind)]
set_option maxHeartbeats 1000000 in
set_option maxRecDepth 100000 in
theorem mX5_become {g : gX} (V : vM) {a k n : Nat} (h : isP a k n) {b kb nb : Nat} (h2 : isP b kb nb) (d1 : b ≠ a) (d2 : kb ≠ k) (d3 : kb ≠ n) (d4 : nb ≠ k) (d5 : nb ≠ n) (d6 : kb ≠ a) (d7 : nb ≠ a) : MM g jX5_become V [.ref (g.2.1 a), .ref (g.2.1 b)] (dV (bc V a k n b kb nb)) := by
  refine MM.of plX5_become (Nat.le_of_ble_eq_true rfl) ?_
  obtain ⟨Q, hQ⟩ : ∃ Q : Option Value → vM → Prop, Q = (dV (bc V a k n b kb nb)) := ⟨_, rfl⟩
  rw [← hQ]
  show XX g jX5_become Q V 0 [(0, .ref (g.2.1 a)), (1, .ref (g.2.1 b))] []
  obtain ⟨-, -, -, n1, n2, n3⟩ := id h
  refine x_aload_n dX5_become_0 0 rfl ?_
  refine x_aload_n dX5_become_1 1 rfl ?_
  refine x_getI fl_X5_18 h2.1 rfl dX5_become_2 ?_
  refine x_putI fp_X5_18 h.1 rfl dX5_become_5 ?_
  obtain ⟨U1, eU1⟩ : ∃ v_v : vM, v_v = uM V a 2 (V b 2) := ⟨_, rfl⟩
  refine YY.V eU1.symm ?_
  refine x_aload_n dX5_become_8 0 rfl ?_
  refine x_aload_n dX5_become_9 1 rfl ?_
  refine x_getI fl_X5_22 h2.1 rfl dX5_become_10 ?_
  refine x_topi (y := V b 3) (by rw [eU1, uM_na d1]) ?_
  refine x_putI fp_X5_22 h.1 rfl dX5_become_13 ?_
  obtain ⟨U2, eU2⟩ : ∃ v_v : vM, v_v = uM U1 a 3 (V b 3) := ⟨_, rfl⟩
  refine YY.V eU2.symm ?_
  refine x_aload_n dX5_become_16 1 rfl ?_
  refine x_getR fl_X5_9 h2.1 rfl dX5_become_17 ?_
  refine x_iconst (v := 0) dX5_become_20 (by decide) ?_
  refine x_aload_n dX5_become_21 0 rfl ?_
  refine x_getR fl_X5_9 h.1 rfl dX5_become_22 ?_
  refine x_iconst (v := 0) dX5_become_25 (by decide) ?_
  refine x_aload_n dX5_become_26 0 rfl ?_
  refine x_getR fl_X5_9 h.1 rfl dX5_become_27 ?_
  refine x_alen (v := 24) h.2.1 (by decide) (by decide) dX5_become_30 ?_
  refine x_acopy pr_ac_X5_29 pr_ac_nat pr_ac_st pr_sys h2.2.1 h.2.1 (by decide) (by decide) (by decide) (Nat.le_of_ble_eq_true rfl) dX5_become_31 ?_
  obtain ⟨U3, eU3⟩ : ∃ v_v : vM, v_v = cM U2 k (fun i => if i < 24 then U2 kb i else U2 k i) := ⟨_, rfl⟩
  refine YY.V eU3.symm ?_
  refine x_aload_n dX5_become_34 1 rfl ?_
  refine x_getR fl_X5_15 h2.1 rfl dX5_become_35 ?_
  refine x_iconst (v := 0) dX5_become_38 (by decide) ?_
  refine x_aload_n dX5_become_39 0 rfl ?_
  refine x_getR fl_X5_15 h.1 rfl dX5_become_40 ?_
  refine x_iconst (v := 0) dX5_become_43 (by decide) ?_
  refine x_aload_n dX5_become_44 0 rfl ?_
  refine x_getR fl_X5_15 h.1 rfl dX5_become_45 ?_
  refine x_alen (v := 144) h.2.2.1 (by decide) (by decide) dX5_become_48 ?_
  refine x_acopy pr_ac_X5_29 pr_ac_nat pr_ac_st pr_sys h2.2.2.1 h.2.2.1 (by decide) (by decide) (by decide) (Nat.le_of_ble_eq_true rfl) dX5_become_49 ?_
  obtain ⟨U4, eU4⟩ : ∃ v_v : vM, v_v = cM U3 n (fun i => if i < 144 then U3 nb i else U3 n i) := ⟨_, rfl⟩
  refine YY.V eU4.symm ?_
  refine x_vret dX5_become_52 rfl ?_
  rw [hQ]
  refine ⟨?_, rfl⟩
  subst_vars
  funext q i
  simp only [bc, cM_at, uM_at]
  grind
