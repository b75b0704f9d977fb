set_option maxHeartbeats 1000000 in
set_option maxRecDepth 100000 in
theorem mX9_between {g : gX} (V : vM) (v l u : Int32) : MM g jX9_between V [.int v, .int l, .int u] (pI V (iB (l ≤ v ∧ v ≤ u))) := by
  refine MM.of plX9_between (Nat.le_of_ble_eq_true rfl) ?_
  obtain ⟨Q, hQ⟩ : ∃ Q : Option Value → vM → Prop, Q = (pI V (iB (l ≤ v ∧ v ≤ u))) := ⟨_, rfl⟩
  rw [← hQ]
  show XX g jX9_between Q V 0 [(0, .int v), (1, .int l), (2, .int u)] []
  refine x_iload_n dX9_between_0 0 rfl ?_
  refine x_iload_n dX9_between_1 1 rfl ?_
  have jn3 : ∀ (z2 : Int32), ((v < l ∧ z2 = 0) ∨ (¬ v < l ∧ u < v ∧ z2 = 0) ∨ (¬ v < l ∧ ¬ u < v ∧ z2 = 1)) → XX g jX9_between Q V 15 [(0, .int v), (1, .int l), (2, .int u)] [.int z2] := by
    intro z2 hj4
    refine x_zret dX9_between_15 rfl (by exact nar01 (by first | exact Or.inl rfl | exact Or.inr rfl | grind)) ?_
    rw [hQ]
    refine ⟨rfl, ?_⟩
    congr 2
    unfold iB
    grind
  refine x_icmp_lt 14 dX9_between_2 (by decide) (fun c1 => ?_) (fun c1 => ?_)
  · refine x_iconst (v := 0) dX9_between_14 (by decide) ?_
    exact jn3 _ (Or.inl ⟨c1, rfl⟩)
  · refine x_iload_n dX9_between_5 0 rfl ?_
    refine x_iload_n dX9_between_6 2 rfl ?_
    refine x_icmp_gt 14 dX9_between_7 (by decide) (fun c6 => ?_) (fun c6 => ?_)
    · refine x_iconst (v := 0) dX9_between_14 (by decide) ?_
      exact jn3 _ (Or.inr (Or.inl ⟨c1, c6, rfl⟩))
    · refine x_iconst (v := 1) dX9_between_10 (by decide) ?_
      refine x_goto 15 dX9_between_11 (by decide) ?_
      exact jn3 _ (Or.inr (Or.inr ⟨c1, c6, rfl⟩))
set_option maxHeartbeats 1000000 in
set_option maxRecDepth 100000 in
theorem mX9_fits {g : gX} (V : vM) (v : Int32) : MM g jX9_fits V [.int v] (pI V (iB (-4000 ≤ v ∧ v ≤ 4000))) := by
  refine MM.of plX9_fits (Nat.le_of_ble_eq_true rfl) ?_
  obtain ⟨Q, hQ⟩ : ∃ Q : Option Value → vM → Prop, Q = (pI V (iB (-4000 ≤ v ∧ v ≤ 4000))) := ⟨_, rfl⟩
  rw [← hQ]
  show XX g jX9_fits Q V 0 [(0, .int v)] []
  refine x_iload_n dX9_fits_0 0 rfl ?_
  refine x_sipush (v := -4000) dX9_fits_1 (by decide) ?_
  refine x_sipush (v := 4000) dX9_fits_4 (by decide) ?_
  refine x_callS (K := jX9_between) [.int v, .int (-4000), .int 4000] lk_X9_129 ⟨⟨rfl, rfl⟩, Nat.le_of_ble_eq_true rfl, Nat.le_of_ble_eq_true rfl⟩ (mX9_between V v (-4000) 4000) rfl (Nat.le_of_ble_eq_true rfl) rfl dX9_fits_7 (kpI ?_)
  refine x_zret dX9_fits_10 rfl (by exact nar01 (by first | exact Or.inl rfl | exact Or.inr rfl | grind)) ?_
  rw [hQ]
  exact ⟨rfl, rfl⟩
set_option maxHeartbeats 1000000 in
set_option maxRecDepth 100000 in
theorem mX9_isLetter {g : gX} (V : vM) (v : Int32) : MM g jX9_isLetter V [.int v] (pI V (iB (0 ≤ v ∧ v ≤ 25))) := by
  refine MM.of plX9_isLetter (Nat.le_of_ble_eq_true rfl) ?_
  obtain ⟨Q, hQ⟩ : ∃ Q : Option Value → vM → Prop, Q = (pI V (iB (0 ≤ v ∧ v ≤ 25))) := ⟨_, rfl⟩
  rw [← hQ]
  show XX g jX9_isLetter Q V 0 [(0, .int v)] []
  refine x_iload_n dX9_isLetter_0 0 rfl ?_
  have jn3 : ∀ (z2 : Int32), ((v < 0 ∧ z2 = 0) ∨ (¬ v < 0 ∧ 26 ≤ v ∧ z2 = 0) ∨ (¬ v < 0 ∧ ¬ 26 ≤ v ∧ z2 = 1)) → XX g jX9_isLetter Q V 15 [(0, .int v)] [.int z2] := by
    intro z2 hj4
    refine x_zret dX9_isLetter_15 rfl (by exact nar01 (by first | exact Or.inl rfl | exact Or.inr rfl | grind)) ?_
    rw [hQ]
    refine ⟨rfl, ?_⟩
    congr 2
    unfold iB
    grind
  refine x_if_lt 14 dX9_isLetter_1 (by decide) (fun c1 => ?_) (fun c1 => ?_)
  · refine x_iconst (v := 0) dX9_isLetter_14 (by decide) ?_
    exact jn3 _ (Or.inl ⟨c1, rfl⟩)
  · refine x_iload_n dX9_isLetter_4 0 rfl ?_
    refine x_bipush (v := 26) dX9_isLetter_5 (by decide) ?_
    refine x_icmp_ge 14 dX9_isLetter_7 (by decide) (fun c6 => ?_) (fun c6 => ?_)
    · refine x_iconst (v := 0) dX9_isLetter_14 (by decide) ?_
      exact jn3 _ (Or.inr (Or.inl ⟨c1, c6, rfl⟩))
    · refine x_iconst (v := 1) dX9_isLetter_10 (by decide) ?_
      refine x_goto 15 dX9_isLetter_11 (by decide) ?_
      exact jn3 _ (Or.inr (Or.inr ⟨c1, c6, rfl⟩))
set_option maxHeartbeats 1000000 in
set_option maxRecDepth 100000 in
theorem mX9_isContour {g : gX} (V : vM) (c : Int32) : MM g jX9_isContour V [.ref (g.2.1 0), .int c] (pI V (iB (0 ≤ c ∧ c < V 1 3))) := by
  refine MM.of plX9_isContour (Nat.le_of_ble_eq_true rfl) ?_
  obtain ⟨Q, hQ⟩ : ∃ Q : Option Value → vM → Prop, Q = (pI V (iB (0 ≤ c ∧ c < V 1 3))) := ⟨_, rfl⟩
  rw [← hQ]
  show XX g jX9_isContour Q V 0 [(0, .ref (g.2.1 0)), (1, .int c)] []
  refine x_iload_n dX9_isContour_0 1 rfl ?_
  have jn3 : ∀ (z2 : Int32), ((c < 0 ∧ z2 = 0) ∨ (¬ c < 0 ∧ (V 1 3) ≤ c ∧ z2 = 0) ∨ (¬ c < 0 ∧ ¬ (V 1 3) ≤ c ∧ z2 = 1)) → XX g jX9_isContour Q V 20 [(0, .ref (g.2.1 0)), (1, .int c)] [.int z2] := by
    intro z2 hj4
    refine x_zret dX9_isContour_20 rfl (by exact nar01 (by first | exact Or.inl rfl | exact Or.inr rfl | grind)) ?_
    rw [hQ]
    refine ⟨rfl, ?_⟩
    congr 2
    unfold iB
    grind
  refine x_if_lt 19 dX9_isContour_1 (by decide) (fun c1 => ?_) (fun c1 => ?_)
  · refine x_iconst (v := 0) dX9_isContour_19 (by decide) ?_
    exact jn3 _ (Or.inl ⟨c1, rfl⟩)
  · refine x_iload_n dX9_isContour_4 1 rfl ?_
    refine x_aload_n dX9_isContour_5 0 rfl ?_
    refine x_getR fl_X9_12 rfl rfl dX9_isContour_6 ?_
    refine x_getI fl_X9_91 rfl rfl dX9_isContour_9 ?_
    refine x_icmp_ge 19 dX9_isContour_12 (by decide) (fun c6 => ?_) (fun c6 => ?_)
    · refine x_iconst (v := 0) dX9_isContour_19 (by decide) ?_
      exact jn3 _ (Or.inr (Or.inl ⟨c1, c6, rfl⟩))
    · refine x_iconst (v := 1) dX9_isContour_15 (by decide) ?_
      refine x_goto 20 dX9_isContour_16 (by decide) ?_
      exact jn3 _ (Or.inr (Or.inr ⟨c1, c6, rfl⟩))
theorem ad_at {V : vM} {a k n N : Nat} {kd x0 x1 x2 x3 x4 x5 : Int32} {q i : Nat} (h1 : q ≠ a) (h2 : q ≠ k) (h3 : q ≠ n) : ad V a k n N kd x0 x1 x2 x3 x4 x5 q i = V q i := by
  unfold ad adN adK
  by_cases c1 : N < 24 <;> by_cases c2 : kd = 0 <;> simp [c1, c2, uM_at, h1, h2, h3]
theorem ad_size {V : vM} {a k n N : Nat} {kd x0 x1 x2 x3 x4 x5 : Int32} (h : isP a k n) (hN : N < 24) : ad V a k n N kd x0 x1 x2 x3 x4 x5 a 2 = nI (N + 1) := by
  obtain ⟨-, -, -, n1, n2, n3⟩ := h
  unfold ad adN adK
  rw [if_pos hN]
  split <;> simp [uM_at, n1, n2]
def apZ (N : Nat) : Int32 := if N = 24 then -1000004 else nI (N + 1)
def apV (V : vM) (N : Nat) (kd x0 x1 x2 x3 x4 x5 : Int32) : vM := if N = 24 then V else uM (ad V 1 12 13 N kd x0 x1 x2 x3 x4 x5) 0 12 1
/-- whether the path lies open -/
abbrev opn (V : vM) (N : Nat) : Prop := 0 < N ∧ ¬ V 12 (N - 1) = 4
theorem opn_iff {V : vM} {N : Nat} (hsz : V 1 2 = nI N) (hN : N ≤ 24) : (0 < V 1 2 ∧ ¬ V 12 (V 1 2 - 1).toNatClampNeg = 4) ↔ opn V N := by
  rw [hsz]
  cases N with
  | zero => exact ⟨fun q => absurd q.1 (by decide), fun q => absurd q.1 (by omega)⟩
  | succ j =>
    rw [nI_pred, nI_clamp (by omega)]
    unfold opn
    rw [Nat.add_sub_cancel, show (0 : Int32) = nI 0 from rfl, nI_ltI (by omega) (by omega)]
theorem szok_of {V : vM} {a N : Nat} (hsz : V a 2 = nI N) (hN : N ≤ 24) : szok V a := by
  unfold szok
  rw [hsz]
  exact ⟨nI_pos' (by omega), (nI_leI (a := N) (b := 24) (by omega) (by omega)).mpr hN⟩
set_option maxHeartbeats 1000000 in
set_option maxRecDepth 100000 in
theorem mX9_append {g : gX} (V : vM) {N : Nat} (hN : N ≤ 24) (hsz : V 1 2 = nI N) (kd x0 x1 x2 x3 x4 x5 : Int32) : MM g jX9_append V [.ref (g.2.1 0), .int kd, .int x0, .int x1, .int x2, .int x3, .int x4, .int x5] (dI (apV V N kd x0 x1 x2 x3 x4 x5) (apZ N)) := by
  refine MM.of plX9_append (Nat.le_of_ble_eq_true rfl) ?_
  obtain ⟨Q, hQ⟩ : ∃ Q : Option Value → vM → Prop, Q = (dI (apV V N kd x0 x1 x2 x3 x4 x5) (apZ N)) := ⟨_, rfl⟩
  rw [← hQ]
  show XX g jX9_append Q V 0 [(0, .ref (g.2.1 0)), (1, .int kd), (2, .int x0), (3, .int x1), (4, .int x2), (5, .int x3), (6, .int x4), (7, .int x5)] []
  refine x_aload_n dX9_append_0 0 rfl ?_
  refine x_getR fl_X9_12 rfl rfl dX9_append_1 ?_
  refine x_getI fl_X9_104 rfl rfl dX9_append_4 ?_
  refine x_topi (hsz) ?_
  refine x_bipush (v := 24) dX9_append_7 (by decide) ?_
  refine x_icmp_lt 15 dX9_append_9 (by decide) (fun c1 => ?_) (fun c1 => ?_)
  · have c1n : N < 24 := (nl_lt (a := N) (b := 24) (rfl) (rfl) (by omega) (by omega)).mp c1
    refine x_aload_n dX9_append_15 0 rfl ?_
    refine x_getR fl_X9_12 rfl rfl dX9_append_16 ?_
    refine x_iload_n dX9_append_19 1 rfl ?_
    refine x_iload_n dX9_append_20 2 rfl ?_
    refine x_iload_n dX9_append_21 3 rfl ?_
    refine x_iload dX9_append_22 4 rfl ?_
    refine x_iload dX9_append_24 5 rfl ?_
    refine x_iload dX9_append_26 6 rfl ?_
    refine x_iload dX9_append_28 7 rfl ?_
    refine x_callV (K := jX5_add) [.int kd, .int x0, .int x1, .int x2, .int x3, .int x4, .int x5] lk_X9_294 ⟨⟨rfl, rfl⟩, Nat.le_of_ble_eq_true rfl, Nat.le_of_ble_eq_true rfl⟩ rfl rfl (mX5_add V isP1 N hN hsz kd x0 x1 x2 x3 x4 x5) rfl (Nat.le_of_ble_eq_true rfl) rfl dX9_append_30 (kdV ?_)
    obtain ⟨U2, eU2⟩ : ∃ v_v : vM, v_v = ad V 1 12 13 N kd x0 x1 x2 x3 x4 x5 := ⟨_, rfl⟩
    refine YY.V eU2.symm ?_
    have hz3 : N < 24 → U2 1 2 = nI (N + 1) := fun q => by rw [eU2]; exact ad_size isP1 q
    refine x_aload_n dX9_append_33 0 rfl ?_
    refine x_iconst (v := 1) dX9_append_34 (by decide) ?_
    have z4 : (1 : Int32) = 0 ∨ (1 : Int32) = 1 := by first | exact Or.inl rfl | exact Or.inr rfl | grind
    refine x_putZ fp_X9_75 rfl rfl z4 dX9_append_35 ?_
    obtain ⟨U5, eU5⟩ : ∃ v_v : vM, v_v = uM U2 0 12 1 := ⟨_, rfl⟩
    refine YY.V eU5.symm ?_
    refine x_aload_n dX9_append_38 0 rfl ?_
    refine x_getR fl_X9_12 rfl rfl dX9_append_39 ?_
    refine x_getI fl_X9_104 rfl rfl dX9_append_42 ?_
    refine x_topi (y := U2 1 2) (by rw [eU5, uM_na (by decide)]) ?_
    refine x_topi (hz3 (by omega)) ?_
    refine x_iret dX9_append_45 rfl ?_
    rw [hQ]
    unfold apV apZ
    rw [if_neg (by omega), if_neg (by omega)]
    subst_vars
    exact ⟨rfl, rfl⟩
  · have c1n : 24 ≤ N := Nat.not_lt.mp (fun q => c1 ((nl_lt (a := N) (b := 24) (rfl) (rfl) (by omega) (by omega)).mpr q))
    refine x_ldc ct_X9_156 dX9_append_12 ?_
    refine x_iret dX9_append_14 rfl ?_
    rw [hQ]
    unfold apV apZ
    rw [if_pos (by omega), if_pos (by omega)]
    exact ⟨rfl, rfl⟩
def goZ (V : vM) (N : Nat) : Int32 := if ¬ opn V N then -1000005 else apZ N
def goV (V : vM) (N : Nat) (kd x0 x1 x2 x3 x4 x5 : Int32) : vM := if ¬ opn V N then V else apV V N kd x0 x1 x2 x3 x4 x5
set_option maxHeartbeats 1000000 in
set_option maxRecDepth 100000 in
theorem mX9_goOn {g : gX} (V : vM) {N : Nat} (hN : N ≤ 24) (hsz : V 1 2 = nI N) (kd x0 x1 x2 x3 x4 x5 : Int32) : MM g jX9_goOn V [.ref (g.2.1 0), .int kd, .int x0, .int x1, .int x2, .int x3, .int x4, .int x5] (dI (goV V N kd x0 x1 x2 x3 x4 x5) (goZ V N)) := by
  refine MM.of plX9_goOn (Nat.le_of_ble_eq_true rfl) ?_
  obtain ⟨Q, hQ⟩ : ∃ Q : Option Value → vM → Prop, Q = (dI (goV V N kd x0 x1 x2 x3 x4 x5) (goZ V N)) := ⟨_, rfl⟩
  rw [← hQ]
  show XX g jX9_goOn Q V 0 [(0, .ref (g.2.1 0)), (1, .int kd), (2, .int x0), (3, .int x1), (4, .int x2), (5, .int x3), (6, .int x4), (7, .int x5)] []
  refine x_aload_n dX9_goOn_0 0 rfl ?_
  refine x_getR fl_X9_12 rfl rfl dX9_goOn_1 ?_
  refine x_callV (K := jX5_isOpen) [] lk_X9_291 ⟨⟨rfl, rfl⟩, Nat.le_of_ble_eq_true rfl, Nat.le_of_ble_eq_true rfl⟩ rfl rfl (mX5_isOpen V isP1 (szok_of hsz hN)) rfl (Nat.le_of_ble_eq_true rfl) rfl dX9_goOn_4 (kpI ?_)
  refine x_topi (y := iB (opn V N)) (iB_iff (opn_iff hsz hN)) ?_
  refine x_if_ne 13 dX9_goOn_7 (by decide) (fun c1 => ?_) (fun c1 => ?_)
  · have c1n : (opn V N) := Classical.not_not.mp (fun q => c1 (iB_0.mpr q))
    refine x_aload_n dX9_goOn_13 0 rfl ?_
    refine x_iload_n dX9_goOn_14 1 rfl ?_
    refine x_iload_n dX9_goOn_15 2 rfl ?_
    refine x_iload_n dX9_goOn_16 3 rfl ?_
    refine x_iload dX9_goOn_17 4 rfl ?_
    refine x_iload dX9_goOn_19 5 rfl ?_
    refine x_iload dX9_goOn_21 6 rfl ?_
    refine x_iload dX9_goOn_23 7 rfl ?_
    refine x_callV (K := jX9_append) [.int kd, .int x0, .int x1, .int x2, .int x3, .int x4, .int x5] lk_X9_84 ⟨⟨rfl, rfl⟩, Nat.le_of_ble_eq_true rfl, Nat.le_of_ble_eq_true rfl⟩ rfl rfl (mX9_append V hN hsz kd x0 x1 x2 x3 x4 x5) rfl (Nat.le_of_ble_eq_true rfl) rfl dX9_goOn_25 (kdI ?_)
    obtain ⟨U2, eU2⟩ : ∃ v_v : vM, v_v = apV V N kd x0 x1 x2 x3 x4 x5 := ⟨_, rfl⟩
    refine YY.V eU2.symm ?_
    refine x_iret dX9_goOn_28 rfl ?_
    rw [hQ]
    unfold goV goZ
    first | (rw [if_pos (by assumption), if_pos (by assumption)]; exact ⟨rfl, rfl⟩) | (rw [if_neg (fun q => q (by assumption)), if_neg (fun q => q (by assumption))]; subst_vars; exact ⟨rfl, rfl⟩)
  · have c1n : ¬ (opn V N) := iB_0.mp c1
    refine x_ldc ct_X9_107 dX9_goOn_10 ?_
    refine x_iret dX9_goOn_12 rfl ?_
    rw [hQ]
    unfold goV goZ
    first | (rw [if_pos (by assumption), if_pos (by assumption)]; exact ⟨rfl, rfl⟩) | (rw [if_neg (fun q => q (by assumption)), if_neg (fun q => q (by assumption))]; subst_vars; exact ⟨rfl, rfl⟩)
set_option maxHeartbeats 1000000 in
set_option maxRecDepth 100000 in
theorem mX9_move {g : gX} (V : vM) {N : Nat} (hN : N ≤ 24) (hsz : V 1 2 = nI N) (x y : Int32) : MM g jX9_move V [.ref (g.2.1 0), .int x, .int y] (dI (if (-4000 ≤ x ∧ x ≤ 4000) ∧ (-4000 ≤ y ∧ y ≤ 4000) then apV V N 0 x y 0 0 0 0 else V) (if (-4000 ≤ x ∧ x ≤ 4000) ∧ (-4000 ≤ y ∧ y ≤ 4000) then apZ N else -1000002)) := by
  refine MM.of plX9_move (Nat.le_of_ble_eq_true rfl) ?_
  obtain ⟨Q, hQ⟩ : ∃ Q : Option Value → vM → Prop, Q = (dI (if (-4000 ≤ x ∧ x ≤ 4000) ∧ (-4000 ≤ y ∧ y ≤ 4000) then apV V N 0 x y 0 0 0 0 else V) (if (-4000 ≤ x ∧ x ≤ 4000) ∧ (-4000 ≤ y ∧ y ≤ 4000) then apZ N else -1000002)) := ⟨_, rfl⟩
  rw [← hQ]
  show XX g jX9_move Q V 0 [(0, .ref (g.2.1 0)), (1, .int x), (2, .int y)] []
  refine x_iload_n dX9_move_0 1 rfl ?_
  refine x_callS (K := jX9_fits) [.int x] lk_X9_79 ⟨⟨rfl, rfl⟩, Nat.le_of_ble_eq_true rfl, Nat.le_of_ble_eq_true rfl⟩ (mX9_fits V x) rfl (Nat.le_of_ble_eq_true rfl) rfl dX9_move_1 (kpI ?_)
  refine x_if_eq 14 dX9_move_4 (by decide) (fun c1 => ?_) (fun c1 => ?_)
  · have c1n : ¬ (-4000 ≤ x ∧ x ≤ 4000) := iB_0.mp c1
    refine x_ldc ct_X9_83 dX9_move_14 ?_
    refine x_iret dX9_move_16 rfl ?_
    rw [hQ]
    first | (rw [if_pos (by first | assumption | grind), if_pos (by first | assumption | grind)]; subst_vars; exact ⟨rfl, rfl⟩) | (rw [if_neg (by grind), if_neg (by grind)]; exact ⟨rfl, rfl⟩)
  · have c1n : (-4000 ≤ x ∧ x ≤ 4000) := Classical.not_not.mp (fun q => c1 (iB_0.mpr q))
    refine x_iload_n dX9_move_7 2 rfl ?_
    refine x_callS (K := jX9_fits) [.int y] lk_X9_79 ⟨⟨rfl, rfl⟩, Nat.le_of_ble_eq_true rfl, Nat.le_of_ble_eq_true rfl⟩ (mX9_fits V y) rfl (Nat.le_of_ble_eq_true rfl) rfl dX9_move_8 (kpI ?_)
    refine x_if_ne 17 dX9_move_11 (by decide) (fun c2 => ?_) (fun c2 => ?_)
    · have c2n : (-4000 ≤ y ∧ y ≤ 4000) := Classical.not_not.mp (fun q => c2 (iB_0.mpr q))
      refine x_aload_n dX9_move_17 0 rfl ?_
      refine x_iconst (v := 0) dX9_move_18 (by decide) ?_
      refine x_iload_n dX9_move_19 1 rfl ?_
      refine x_iload_n dX9_move_20 2 rfl ?_
      refine x_iconst (v := 0) dX9_move_21 (by decide) ?_
      refine x_iconst (v := 0) dX9_move_22 (by decide) ?_
      refine x_iconst (v := 0) dX9_move_23 (by decide) ?_
      refine x_iconst (v := 0) dX9_move_24 (by decide) ?_
      refine x_callV (K := jX9_append) [.int 0, .int x, .int y, .int 0, .int 0, .int 0, .int 0] lk_X9_84 ⟨⟨rfl, rfl⟩, Nat.le_of_ble_eq_true rfl, Nat.le_of_ble_eq_true rfl⟩ rfl rfl (mX9_append V hN hsz 0 x y 0 0 0 0) rfl (Nat.le_of_ble_eq_true rfl) rfl dX9_move_25 (kdI ?_)
      obtain ⟨U3, eU3⟩ : ∃ v_v : vM, v_v = apV V N 0 x y 0 0 0 0 := ⟨_, rfl⟩
      refine YY.V eU3.symm ?_
      refine x_iret dX9_move_28 rfl ?_
      rw [hQ]
      first | (rw [if_pos (by first | assumption | grind), if_pos (by first | assumption | grind)]; subst_vars; exact ⟨rfl, rfl⟩) | (rw [if_neg (by grind), if_neg (by grind)]; exact ⟨rfl, rfl⟩)
    · have c2n : ¬ (-4000 ≤ y ∧ y ≤ 4000) := iB_0.mp c2
      refine x_ldc ct_X9_83 dX9_move_14 ?_
      refine x_iret dX9_move_16 rfl ?_
      rw [hQ]
      first | (rw [if_pos (by first | assumption | grind), if_pos (by first | assumption | grind)]; subst_vars; exact ⟨rfl, rfl⟩) | (rw [if_neg (by grind), if_neg (by grind)]; exact ⟨rfl, rfl⟩)
set_option maxHeartbeats 1000000 in
set_option maxRecDepth 100000 in
theorem mX9_line {g : gX} (V : vM) {N : Nat} (hN : N ≤ 24) (hsz : V 1 2 = nI N) (x y : Int32) : MM g jX9_line V [.ref (g.2.1 0), .int x, .int y] (dI (if (-4000 ≤ x ∧ x ≤ 4000) ∧ (-4000 ≤ y ∧ y ≤ 4000) then goV V N 1 x y 0 0 0 0 else V) (if (-4000 ≤ x ∧ x ≤ 4000) ∧ (-4000 ≤ y ∧ y ≤ 4000) then goZ V N else -1000002)) := by
  refine MM.of plX9_line (Nat.le_of_ble_eq_true rfl) ?_
  obtain ⟨Q, hQ⟩ : ∃ Q : Option Value → vM → Prop, Q = (dI (if (-4000 ≤ x ∧ x ≤ 4000) ∧ (-4000 ≤ y ∧ y ≤ 4000) then goV V N 1 x y 0 0 0 0 else V) (if (-4000 ≤ x ∧ x ≤ 4000) ∧ (-4000 ≤ y ∧ y ≤ 4000) then goZ V N else -1000002)) := ⟨_, rfl⟩
  rw [← hQ]
  show XX g jX9_line Q V 0 [(0, .ref (g.2.1 0)), (1, .int x), (2, .int y)] []
  refine x_iload_n dX9_line_0 1 rfl ?_
  refine x_callS (K := jX9_fits) [.int x] lk_X9_79 ⟨⟨rfl, rfl⟩, Nat.le_of_ble_eq_true rfl, Nat.le_of_ble_eq_true rfl⟩ (mX9_fits V x) rfl (Nat.le_of_ble_eq_true rfl) rfl dX9_line_1 (kpI ?_)
  refine x_if_eq 14 dX9_line_4 (by decide) (fun c1 => ?_) (fun c1 => ?_)
  · have c1n : ¬ (-4000 ≤ x ∧ x ≤ 4000) := iB_0.mp c1
    refine x_ldc ct_X9_83 dX9_line_14 ?_
    refine x_iret dX9_line_16 rfl ?_
    rw [hQ]
    first | (rw [if_pos (by first | assumption | grind), if_pos (by first | assumption | grind)]; subst_vars; exact ⟨rfl, rfl⟩) | (rw [if_neg (by grind), if_neg (by grind)]; exact ⟨rfl, rfl⟩)
  · have c1n : (-4000 ≤ x ∧ x ≤ 4000) := Classical.not_not.mp (fun q => c1 (iB_0.mpr q))
    refine x_iload_n dX9_line_7 2 rfl ?_
    refine x_callS (K := jX9_fits) [.int y] lk_X9_79 ⟨⟨rfl, rfl⟩, Nat.le_of_ble_eq_true rfl, Nat.le_of_ble_eq_true rfl⟩ (mX9_fits V y) rfl (Nat.le_of_ble_eq_true rfl) rfl dX9_line_8 (kpI ?_)
    refine x_if_ne 17 dX9_line_11 (by decide) (fun c2 => ?_) (fun c2 => ?_)
    · have c2n : (-4000 ≤ y ∧ y ≤ 4000) := Classical.not_not.mp (fun q => c2 (iB_0.mpr q))
      refine x_aload_n dX9_line_17 0 rfl ?_
      refine x_iconst (v := 1) dX9_line_18 (by decide) ?_
      refine x_iload_n dX9_line_19 1 rfl ?_
      refine x_iload_n dX9_line_20 2 rfl ?_
      refine x_iconst (v := 0) dX9_line_21 (by decide) ?_
      refine x_iconst (v := 0) dX9_line_22 (by decide) ?_
      refine x_iconst (v := 0) dX9_line_23 (by decide) ?_
      refine x_iconst (v := 0) dX9_line_24 (by decide) ?_
      refine x_callV (K := jX9_goOn) [.int 1, .int x, .int y, .int 0, .int 0, .int 0, .int 0] lk_X9_88 ⟨⟨rfl, rfl⟩, Nat.le_of_ble_eq_true rfl, Nat.le_of_ble_eq_true rfl⟩ rfl rfl (mX9_goOn V hN hsz 1 x y 0 0 0 0) rfl (Nat.le_of_ble_eq_true rfl) rfl dX9_line_25 (kdI ?_)
      obtain ⟨U3, eU3⟩ : ∃ v_v : vM, v_v = goV V N 1 x y 0 0 0 0 := ⟨_, rfl⟩
      refine YY.V eU3.symm ?_
      refine x_iret dX9_line_28 rfl ?_
      rw [hQ]
      first | (rw [if_pos (by first | assumption | grind), if_pos (by first | assumption | grind)]; subst_vars; exact ⟨rfl, rfl⟩) | (rw [if_neg (by grind), if_neg (by grind)]; exact ⟨rfl, rfl⟩)
    · have c2n : ¬ (-4000 ≤ y ∧ y ≤ 4000) := iB_0.mp c2
      refine x_ldc ct_X9_83 dX9_line_14 ?_
      refine x_iret dX9_line_16 rfl ?_
      rw [hQ]
      first | (rw [if_pos (by first | assumption | grind), if_pos (by first | assumption | grind)]; subst_vars; exact ⟨rfl, rfl⟩) | (rw [if_neg (by grind), if_neg (by grind)]; exact ⟨rfl, rfl⟩)
set_option maxHeartbeats 1000000 in
set_option maxRecDepth 100000 in
theorem mX9_quad {g : gX} (V : vM) {N : Nat} (hN : N ≤ 24) (hsz : V 1 2 = nI N) (cx cy x y : Int32) : MM g jX9_quad V [.ref (g.2.1 0), .int cx, .int cy, .int x, .int y] (dI (if (-4000 ≤ cx ∧ cx ≤ 4000) ∧ (-4000 ≤ cy ∧ cy ≤ 4000) ∧ (-4000 ≤ x ∧ x ≤ 4000) ∧ (-4000 ≤ y ∧ y ≤ 4000) then goV V N 2 cx cy x y 0 0 else V) (if (-4000 ≤ cx ∧ cx ≤ 4000) ∧ (-4000 ≤ cy ∧ cy ≤ 4000) ∧ (-4000 ≤ x ∧ x ≤ 4000) ∧ (-4000 ≤ y ∧ y ≤ 4000) then goZ V N else -1000002)) := by
  refine MM.of plX9_quad (Nat.le_of_ble_eq_true rfl) ?_
  obtain ⟨Q, hQ⟩ : ∃ Q : Option Value → vM → Prop, Q = (dI (if (-4000 ≤ cx ∧ cx ≤ 4000) ∧ (-4000 ≤ cy ∧ cy ≤ 4000) ∧ (-4000 ≤ x ∧ x ≤ 4000) ∧ (-4000 ≤ y ∧ y ≤ 4000) then goV V N 2 cx cy x y 0 0 else V) (if (-4000 ≤ cx ∧ cx ≤ 4000) ∧ (-4000 ≤ cy ∧ cy ≤ 4000) ∧ (-4000 ≤ x ∧ x ≤ 4000) ∧ (-4000 ≤ y ∧ y ≤ 4000) then goZ V N else -1000002)) := ⟨_, rfl⟩
  rw [← hQ]
  show XX g jX9_quad Q V 0 [(0, .ref (g.2.1 0)), (1, .int cx), (2, .int cy), (3, .int x), (4, .int y)] []
  refine x_iload_n dX9_quad_0 1 rfl ?_
  refine x_callS (K := jX9_fits) [.int cx] lk_X9_79 ⟨⟨rfl, rfl⟩, Nat.le_of_ble_eq_true rfl, Nat.le_of_ble_eq_true rfl⟩ (mX9_fits V cx) rfl (Nat.le_of_ble_eq_true rfl) rfl dX9_quad_1 (kpI ?_)
  refine x_if_eq 29 dX9_quad_4 (by decide) (fun c1 => ?_) (fun c1 => ?_)
  · have c1n : ¬ (-4000 ≤ cx ∧ cx ≤ 4000) := iB_0.mp c1
    refine x_ldc ct_X9_83 dX9_quad_29 ?_
    refine x_iret dX9_quad_31 rfl ?_
    rw [hQ]
    first | (rw [if_pos (by first | assumption | grind), if_pos (by first | assumption | grind)]; subst_vars; exact ⟨rfl, rfl⟩) | (rw [if_neg (by grind), if_neg (by grind)]; exact ⟨rfl, rfl⟩)
  · have c1n : (-4000 ≤ cx ∧ cx ≤ 4000) := Classical.not_not.mp (fun q => c1 (iB_0.mpr q))
    refine x_iload_n dX9_quad_7 2 rfl ?_
    refine x_callS (K := jX9_fits) [.int cy] lk_X9_79 ⟨⟨rfl, rfl⟩, Nat.le_of_ble_eq_true rfl, Nat.le_of_ble_eq_true rfl⟩ (mX9_fits V cy) rfl (Nat.le_of_ble_eq_true rfl) rfl dX9_quad_8 (kpI ?_)
    refine x_if_eq 29 dX9_quad_11 (by decide) (fun c2 => ?_) (fun c2 => ?_)
    · have c2n : ¬ (-4000 ≤ cy ∧ cy ≤ 4000) := iB_0.mp c2
      refine x_ldc ct_X9_83 dX9_quad_29 ?_
      refine x_iret dX9_quad_31 rfl ?_
      rw [hQ]
      first | (rw [if_pos (by first | assumption | grind), if_pos (by first | assumption | grind)]; subst_vars; exact ⟨rfl, rfl⟩) | (rw [if_neg (by grind), if_neg (by grind)]; exact ⟨rfl, rfl⟩)
    · have c2n : (-4000 ≤ cy ∧ cy ≤ 4000) := Classical.not_not.mp (fun q => c2 (iB_0.mpr q))
      refine x_iload_n dX9_quad_14 3 rfl ?_
      refine x_callS (K := jX9_fits) [.int x] lk_X9_79 ⟨⟨rfl, rfl⟩, Nat.le_of_ble_eq_true rfl, Nat.le_of_ble_eq_true rfl⟩ (mX9_fits V x) rfl (Nat.le_of_ble_eq_true rfl) rfl dX9_quad_15 (kpI ?_)
      refine x_if_eq 29 dX9_quad_18 (by decide) (fun c3 => ?_) (fun c3 => ?_)
      · have c3n : ¬ (-4000 ≤ x ∧ x ≤ 4000) := iB_0.mp c3
        refine x_ldc ct_X9_83 dX9_quad_29 ?_
        refine x_iret dX9_quad_31 rfl ?_
        rw [hQ]
        first | (rw [if_pos (by first | assumption | grind), if_pos (by first | assumption | grind)]; subst_vars; exact ⟨rfl, rfl⟩) | (rw [if_neg (by grind), if_neg (by grind)]; exact ⟨rfl, rfl⟩)
      · have c3n : (-4000 ≤ x ∧ x ≤ 4000) := Classical.not_not.mp (fun q => c3 (iB_0.mpr q))
        refine x_iload dX9_quad_21 4 rfl ?_
        refine x_callS (K := jX9_fits) [.int y] lk_X9_79 ⟨⟨rfl, rfl⟩, Nat.le_of_ble_eq_true rfl, Nat.le_of_ble_eq_true rfl⟩ (mX9_fits V y) rfl (Nat.le_of_ble_eq_true rfl) rfl dX9_quad_23 (kpI ?_)
        refine x_if_ne 32 dX9_quad_26 (by decide) (fun c4 => ?_) (fun c4 => ?_)
        · have c4n : (-4000 ≤ y ∧ y ≤ 4000) := Classical.not_not.mp (fun q => c4 (iB_0.mpr q))
          refine x_aload_n dX9_quad_32 0 rfl ?_
          refine x_iconst (v := 2) dX9_quad_33 (by decide) ?_
          refine x_iload_n dX9_quad_34 1 rfl ?_
          refine x_iload_n dX9_quad_35 2 rfl ?_
          refine x_iload_n dX9_quad_36 3 rfl ?_
          refine x_iload dX9_quad_37 4 rfl ?_
          refine x_iconst (v := 0) dX9_quad_39 (by decide) ?_
          refine x_iconst (v := 0) dX9_quad_40 (by decide) ?_
          refine x_callV (K := jX9_goOn) [.int 2, .int cx, .int cy, .int x, .int y, .int 0, .int 0] lk_X9_88 ⟨⟨rfl, rfl⟩, Nat.le_of_ble_eq_true rfl, Nat.le_of_ble_eq_true rfl⟩ rfl rfl (mX9_goOn V hN hsz 2 cx cy x y 0 0) rfl (Nat.le_of_ble_eq_true rfl) rfl dX9_quad_41 (kdI ?_)
          obtain ⟨U5, eU5⟩ : ∃ v_v : vM, v_v = goV V N 2 cx cy x y 0 0 := ⟨_, rfl⟩
          refine YY.V eU5.symm ?_
          refine x_iret dX9_quad_44 rfl ?_
          rw [hQ]
          first | (rw [if_pos (by first | assumption | grind), if_pos (by first | assumption | grind)]; subst_vars; exact ⟨rfl, rfl⟩) | (rw [if_neg (by grind), if_neg (by grind)]; exact ⟨rfl, rfl⟩)
        · have c4n : ¬ (-4000 ≤ y ∧ y ≤ 4000) := iB_0.mp c4
          refine x_ldc ct_X9_83 dX9_quad_29 ?_
          refine x_iret dX9_quad_31 rfl ?_
          rw [hQ]
          first | (rw [if_pos (by first | assumption | grind), if_pos (by first | assumption | grind)]; subst_vars; exact ⟨rfl, rfl⟩) | (rw [if_neg (by grind), if_neg (by grind)]; exact ⟨rfl, rfl⟩)
set_option maxHeartbeats 1000000 in
set_option maxRecDepth 100000 in
theorem mX9_cubic {g : gX} (V : vM) {N : Nat} (hN : N ≤ 24) (hsz : V 1 2 = nI N) (ax ay bx by_ x y : Int32) : MM g jX9_cubic V [.ref (g.2.1 0), .int ax, .int ay, .int bx, .int by_, .int x, .int y] (dI (if (-4000 ≤ ax ∧ ax ≤ 4000) ∧ (-4000 ≤ ay ∧ ay ≤ 4000) ∧ (-4000 ≤ bx ∧ bx ≤ 4000) ∧ (-4000 ≤ by_ ∧ by_ ≤ 4000) ∧ (-4000 ≤ x ∧ x ≤ 4000) ∧ (-4000 ≤ y ∧ y ≤ 4000) then goV V N 3 ax ay bx by_ x y else V) (if (-4000 ≤ ax ∧ ax ≤ 4000) ∧ (-4000 ≤ ay ∧ ay ≤ 4000) ∧ (-4000 ≤ bx ∧ bx ≤ 4000) ∧ (-4000 ≤ by_ ∧ by_ ≤ 4000) ∧ (-4000 ≤ x ∧ x ≤ 4000) ∧ (-4000 ≤ y ∧ y ≤ 4000) then goZ V N else -1000002)) := by
  refine MM.of plX9_cubic (Nat.le_of_ble_eq_true rfl) ?_
  obtain ⟨Q, hQ⟩ : ∃ Q : Option Value → vM → Prop, Q = (dI (if (-4000 ≤ ax ∧ ax ≤ 4000) ∧ (-4000 ≤ ay ∧ ay ≤ 4000) ∧ (-4000 ≤ bx ∧ bx ≤ 4000) ∧ (-4000 ≤ by_ ∧ by_ ≤ 4000) ∧ (-4000 ≤ x ∧ x ≤ 4000) ∧ (-4000 ≤ y ∧ y ≤ 4000) then goV V N 3 ax ay bx by_ x y else V) (if (-4000 ≤ ax ∧ ax ≤ 4000) ∧ (-4000 ≤ ay ∧ ay ≤ 4000) ∧ (-4000 ≤ bx ∧ bx ≤ 4000) ∧ (-4000 ≤ by_ ∧ by_ ≤ 4000) ∧ (-4000 ≤ x ∧ x ≤ 4000) ∧ (-4000 ≤ y ∧ y ≤ 4000) then goZ V N else -1000002)) := ⟨_, rfl⟩
  rw [← hQ]
  show XX g jX9_cubic Q V 0 [(0, .ref (g.2.1 0)), (1, .int ax), (2, .int ay), (3, .int bx), (4, .int by_), (5, .int x), (6, .int y)] []
  refine x_iload_n dX9_cubic_0 1 rfl ?_
  refine x_callS (K := jX9_fits) [.int ax] lk_X9_79 ⟨⟨rfl, rfl⟩, Nat.le_of_ble_eq_true rfl, Nat.le_of_ble_eq_true rfl⟩ (mX9_fits V ax) rfl (Nat.le_of_ble_eq_true rfl) rfl dX9_cubic_1 (kpI ?_)
  refine x_if_eq 45 dX9_cubic_4 (by decide) (fun c1 => ?_) (fun c1 => ?_)
  · have c1n : ¬ (-4000 ≤ ax ∧ ax ≤ 4000) := iB_0.mp c1
    refine x_ldc ct_X9_83 dX9_cubic_45 ?_
    refine x_iret dX9_cubic_47 rfl ?_
    rw [hQ]
    first | (rw [if_pos (by first | assumption | grind), if_pos (by first | assumption | grind)]; subst_vars; exact ⟨rfl, rfl⟩) | (rw [if_neg (by grind), if_neg (by grind)]; exact ⟨rfl, rfl⟩)
  · have c1n : (-4000 ≤ ax ∧ ax ≤ 4000) := Classical.not_not.mp (fun q => c1 (iB_0.mpr q))
    refine x_iload_n dX9_cubic_7 2 rfl ?_
    refine x_callS (K := jX9_fits) [.int ay] lk_X9_79 ⟨⟨rfl, rfl⟩, Nat.le_of_ble_eq_true rfl, Nat.le_of_ble_eq_true rfl⟩ (mX9_fits V ay) rfl (Nat.le_of_ble_eq_true rfl) rfl dX9_cubic_8 (kpI ?_)
    refine x_if_eq 45 dX9_cubic_11 (by decide) (fun c2 => ?_) (fun c2 => ?_)
    · have c2n : ¬ (-4000 ≤ ay ∧ ay ≤ 4000) := iB_0.mp c2
      refine x_ldc ct_X9_83 dX9_cubic_45 ?_
      refine x_iret dX9_cubic_47 rfl ?_
      rw [hQ]
      first | (rw [if_pos (by first | assumption | grind), if_pos (by first | assumption | grind)]; subst_vars; exact ⟨rfl, rfl⟩) | (rw [if_neg (by grind), if_neg (by grind)]; exact ⟨rfl, rfl⟩)
    · have c2n : (-4000 ≤ ay ∧ ay ≤ 4000) := Classical.not_not.mp (fun q => c2 (iB_0.mpr q))
      refine x_iload_n dX9_cubic_14 3 rfl ?_
      refine x_callS (K := jX9_fits) [.int bx] lk_X9_79 ⟨⟨rfl, rfl⟩, Nat.le_of_ble_eq_true rfl, Nat.le_of_ble_eq_true rfl⟩ (mX9_fits V bx) rfl (Nat.le_of_ble_eq_true rfl) rfl dX9_cubic_15 (kpI ?_)
      refine x_if_eq 45 dX9_cubic_18 (by decide) (fun c3 => ?_) (fun c3 => ?_)
      · have c3n : ¬ (-4000 ≤ bx ∧ bx ≤ 4000) := iB_0.mp c3
        refine x_ldc ct_X9_83 dX9_cubic_45 ?_
        refine x_iret dX9_cubic_47 rfl ?_
        rw [hQ]
        first | (rw [if_pos (by first | assumption | grind), if_pos (by first | assumption | grind)]; subst_vars; exact ⟨rfl, rfl⟩) | (rw [if_neg (by grind), if_neg (by grind)]; exact ⟨rfl, rfl⟩)
      · have c3n : (-4000 ≤ bx ∧ bx ≤ 4000) := Classical.not_not.mp (fun q => c3 (iB_0.mpr q))
        refine x_iload dX9_cubic_21 4 rfl ?_
        refine x_callS (K := jX9_fits) [.int by_] lk_X9_79 ⟨⟨rfl, rfl⟩, Nat.le_of_ble_eq_true rfl, Nat.le_of_ble_eq_true rfl⟩ (mX9_fits V by_) rfl (Nat.le_of_ble_eq_true rfl) rfl dX9_cubic_23 (kpI ?_)
        refine x_if_eq 45 dX9_cubic_26 (by decide) (fun c4 => ?_) (fun c4 => ?_)
        · have c4n : ¬ (-4000 ≤ by_ ∧ by_ ≤ 4000) := iB_0.mp c4
          refine x_ldc ct_X9_83 dX9_cubic_45 ?_
          refine x_iret dX9_cubic_47 rfl ?_
          rw [hQ]
          first | (rw [if_pos (by first | assumption | grind), if_pos (by first | assumption | grind)]; subst_vars; exact ⟨rfl, rfl⟩) | (rw [if_neg (by grind), if_neg (by grind)]; exact ⟨rfl, rfl⟩)
        · have c4n : (-4000 ≤ by_ ∧ by_ ≤ 4000) := Classical.not_not.mp (fun q => c4 (iB_0.mpr q))
          refine x_iload dX9_cubic_29 5 rfl ?_
          refine x_callS (K := jX9_fits) [.int x] lk_X9_79 ⟨⟨rfl, rfl⟩, Nat.le_of_ble_eq_true rfl, Nat.le_of_ble_eq_true rfl⟩ (mX9_fits V x) rfl (Nat.le_of_ble_eq_true rfl) rfl dX9_cubic_31 (kpI ?_)
          refine x_if_eq 45 dX9_cubic_34 (by decide) (fun c5 => ?_) (fun c5 => ?_)
          · have c5n : ¬ (-4000 ≤ x ∧ x ≤ 4000) := iB_0.mp c5
            refine x_ldc ct_X9_83 dX9_cubic_45 ?_
            refine x_iret dX9_cubic_47 rfl ?_
            rw [hQ]
            first | (rw [if_pos (by first | assumption | grind), if_pos (by first | assumption | grind)]; subst_vars; exact ⟨rfl, rfl⟩) | (rw [if_neg (by grind), if_neg (by grind)]; exact ⟨rfl, rfl⟩)
          · have c5n : (-4000 ≤ x ∧ x ≤ 4000) := Classical.not_not.mp (fun q => c5 (iB_0.mpr q))
            refine x_iload dX9_cubic_37 6 rfl ?_
            refine x_callS (K := jX9_fits) [.int y] lk_X9_79 ⟨⟨rfl, rfl⟩, Nat.le_of_ble_eq_true rfl, Nat.le_of_ble_eq_true rfl⟩ (mX9_fits V y) rfl (Nat.le_of_ble_eq_true rfl) rfl dX9_cubic_39 (kpI ?_)
            refine x_if_ne 48 dX9_cubic_42 (by decide) (fun c6 => ?_) (fun c6 => ?_)
            · have c6n : (-4000 ≤ y ∧ y ≤ 4000) := Classical.not_not.mp (fun q => c6 (iB_0.mpr q))
              refine x_aload_n dX9_cubic_48 0 rfl ?_
              refine x_iconst (v := 3) dX9_cubic_49 (by decide) ?_
              refine x_iload_n dX9_cubic_50 1 rfl ?_
              refine x_iload_n dX9_cubic_51 2 rfl ?_
              refine x_iload_n dX9_cubic_52 3 rfl ?_
              refine x_iload dX9_cubic_53 4 rfl ?_
              refine x_iload dX9_cubic_55 5 rfl ?_
              refine x_iload dX9_cubic_57 6 rfl ?_
              refine x_callV (K := jX9_goOn) [.int 3, .int ax, .int ay, .int bx, .int by_, .int x, .int y] lk_X9_88 ⟨⟨rfl, rfl⟩, Nat.le_of_ble_eq_true rfl, Nat.le_of_ble_eq_true rfl⟩ rfl rfl (mX9_goOn V hN hsz 3 ax ay bx by_ x y) rfl (Nat.le_of_ble_eq_true rfl) rfl dX9_cubic_59 (kdI ?_)
              obtain ⟨U7, eU7⟩ : ∃ v_v : vM, v_v = goV V N 3 ax ay bx by_ x y := ⟨_, rfl⟩
              refine YY.V eU7.symm ?_
              refine x_iret dX9_cubic_62 rfl ?_
              rw [hQ]
              first | (rw [if_pos (by first | assumption | grind), if_pos (by first | assumption | grind)]; subst_vars; exact ⟨rfl, rfl⟩) | (rw [if_neg (by grind), if_neg (by grind)]; exact ⟨rfl, rfl⟩)
            · have c6n : ¬ (-4000 ≤ y ∧ y ≤ 4000) := iB_0.mp c6
              refine x_ldc ct_X9_83 dX9_cubic_45 ?_
              refine x_iret dX9_cubic_47 rfl ?_
              rw [hQ]
              first | (rw [if_pos (by first | assumption | grind), if_pos (by first | assumption | grind)]; subst_vars; exact ⟨rfl, rfl⟩) | (rw [if_neg (by grind), if_neg (by grind)]; exact ⟨rfl, rfl⟩)
/-- where the last contour begins -/
def clS (V : vM) (N : Nat) : Int32 := nI (fo (V 12) N (V 1 3 - 1))
set_option maxHeartbeats 1000000 in
set_option maxRecDepth 100000 in
theorem mX9_close {g : gX} (V : vM) {N : Nat} (hN : N ≤ 24) (hsz : V 1 2 = nI N) (hk : kok V 1 12) : MM g jX9_close V [.ref (g.2.1 0)] (dI (goV V N 4 (nbV V 1 13 (clS V N) (2 * ptV V 1 12 (clS V N) - 2)) (nbV V 1 13 (clS V N) (2 * ptV V 1 12 (clS V N) - 1)) 0 0 0 0) (goZ V N)) := by
  refine MM.of plX9_close (Nat.le_of_ble_eq_true rfl) ?_
  obtain ⟨Q, hQ⟩ : ∃ Q : Option Value → vM → Prop, Q = (dI (goV V N 4 (nbV V 1 13 (clS V N) (2 * ptV V 1 12 (clS V N) - 2)) (nbV V 1 13 (clS V N) (2 * ptV V 1 12 (clS V N) - 1)) 0 0 0 0) (goZ V N)) := ⟨_, rfl⟩
  rw [← hQ]
  show XX g jX9_close Q V 0 [(0, .ref (g.2.1 0))] []
  refine x_aload_n dX9_close_0 0 rfl ?_
  refine x_getR fl_X9_12 rfl rfl dX9_close_1 ?_
  refine x_aload_n dX9_close_4 0 rfl ?_
  refine x_getR fl_X9_12 rfl rfl dX9_close_5 ?_
  refine x_getI fl_X9_91 rfl rfl dX9_close_8 ?_
  refine x_iconst (v := 1) dX9_close_11 (by decide) ?_
  refine x_isub dX9_close_12 ?_
  refine x_callV (K := jX5_firstOf) [.int ((V 1 3) - 1)] lk_X9_94 ⟨⟨rfl, rfl⟩, Nat.le_of_ble_eq_true rfl, Nat.le_of_ble_eq_true rfl⟩ rfl rfl (mX5_firstOf V isP1 hN hsz ((V 1 3) - 1)) rfl (Nat.le_of_ble_eq_true rfl) rfl dX9_close_13 (kpI ?_)
  refine x_istore_n 1 [(1, .int (nI (fo (V 12) N ((V 1 3) - 1)))), (0, .ref (g.2.1 0))] dX9_close_16 rfl (by decide) rfl ?_
  refine x_aload_n dX9_close_17 1 rfl ?_
  refine x_iconst (v := 4) dX9_close_18 (by decide) ?_
  refine x_aload_n dX9_close_19 1 rfl ?_
  refine x_getR fl_X9_12 rfl rfl dX9_close_20 ?_
  refine x_iload_n dX9_close_23 0 rfl ?_
  refine x_callV (K := jX5_endX) [.int (nI (fo (V 12) N ((V 1 3) - 1)))] lk_X9_98 ⟨⟨rfl, rfl⟩, Nat.le_of_ble_eq_true rfl, Nat.le_of_ble_eq_true rfl⟩ rfl rfl (mX5_endX V isP1 hk (nI (fo (V 12) N ((V 1 3) - 1)))) rfl (Nat.le_of_ble_eq_true rfl) rfl dX9_close_24 (kpI ?_)
  refine x_aload_n dX9_close_27 1 rfl ?_
  refine x_getR fl_X9_12 rfl rfl dX9_close_28 ?_
  refine x_iload_n dX9_close_31 0 rfl ?_
  refine x_callV (K := jX5_endY) [.int (nI (fo (V 12) N ((V 1 3) - 1)))] lk_X9_101 ⟨⟨rfl, rfl⟩, Nat.le_of_ble_eq_true rfl, Nat.le_of_ble_eq_true rfl⟩ rfl rfl (mX5_endY V isP1 hk (nI (fo (V 12) N ((V 1 3) - 1)))) rfl (Nat.le_of_ble_eq_true rfl) rfl dX9_close_32 (kpI ?_)
  refine x_iconst (v := 0) dX9_close_35 (by decide) ?_
  refine x_iconst (v := 0) dX9_close_36 (by decide) ?_
  refine x_iconst (v := 0) dX9_close_37 (by decide) ?_
  refine x_iconst (v := 0) dX9_close_38 (by decide) ?_
  refine x_callV (K := jX9_goOn) [.int 4, .int (nbV V 1 13 (nI (fo (V 12) N ((V 1 3) - 1))) (2 * ptV V 1 12 (nI (fo (V 12) N ((V 1 3) - 1))) - 2)), .int (nbV V 1 13 (nI (fo (V 12) N ((V 1 3) - 1))) (2 * ptV V 1 12 (nI (fo (V 12) N ((V 1 3) - 1))) - 1)), .int 0, .int 0, .int 0, .int 0] lk_X9_88 ⟨⟨rfl, rfl⟩, Nat.le_of_ble_eq_true rfl, Nat.le_of_ble_eq_true rfl⟩ rfl rfl (mX9_goOn V hN hsz 4 (nbV V 1 13 (nI (fo (V 12) N ((V 1 3) - 1))) (2 * ptV V 1 12 (nI (fo (V 12) N ((V 1 3) - 1))) - 2)) (nbV V 1 13 (nI (fo (V 12) N ((V 1 3) - 1))) (2 * ptV V 1 12 (nI (fo (V 12) N ((V 1 3) - 1))) - 1)) 0 0 0 0) rfl (Nat.le_of_ble_eq_true rfl) rfl dX9_close_39 (kdI ?_)
  obtain ⟨U1, eU1⟩ : ∃ v_v : vM, v_v = goV V N 4 (nbV V 1 13 (nI (fo (V 12) N ((V 1 3) - 1))) (2 * ptV V 1 12 (nI (fo (V 12) N ((V 1 3) - 1))) - 2)) (nbV V 1 13 (nI (fo (V 12) N ((V 1 3) - 1))) (2 * ptV V 1 12 (nI (fo (V 12) N ((V 1 3) - 1))) - 1)) 0 0 0 0 := ⟨_, rfl⟩
  refine YY.V eU1.symm ?_
  refine x_iret dX9_close_42 rfl ?_
  rw [hQ]
  subst_vars
  exact ⟨rfl, rfl⟩
def rlV (V : vM) (N : Nat) : vM := if N = 0 then V else uM (if V 12 (N - 1) = 0 then uM (uM V 1 2 (nI (N - 1))) 1 3 (V 1 3 - 1) else uM V 1 2 (nI (N - 1))) 0 12 1
theorem rl_eq {V : vM} {N : Nat} (hsz : V 1 2 = nI N) (hN : N ≤ 24) (h0 : ¬ N = 0) : (if V 1 2 = 0 then V else if V 12 (V 1 2 - 1).toNatClampNeg = 0 then uM (uM V 1 2 (V 1 2 - 1)) 1 3 (V 1 3 - 1) else uM V 1 2 (V 1 2 - 1)) = if V 12 (N - 1) = 0 then uM (uM V 1 2 (nI (N - 1))) 1 3 (V 1 3 - 1) else uM V 1 2 (nI (N - 1)) := by
  obtain ⟨j, rfl⟩ : ∃ j, N = j + 1 := ⟨N - 1, by omega⟩
  rw [hsz, nI_pred, nI_clamp (by omega), if_neg (nI_ne0 (by omega) (by omega)), Nat.add_sub_cancel]
theorem rl_sz {V : vM} {N : Nat} : (if V 12 (N - 1) = 0 then uM (uM V 1 2 (nI (N - 1))) 1 3 (V 1 3 - 1) else uM V 1 2 (nI (N - 1))) 1 2 = nI (N - 1) := by
  split <;> simp [uM_at]
set_option maxHeartbeats 1000000 in
set_option maxRecDepth 100000 in
theorem mX9_removeLast {g : gX} (V : vM) {N : Nat} (hN : N ≤ 24) (hsz : V 1 2 = nI N) : MM g jX9_removeLast V [.ref (g.2.1 0)] (dI (rlV V N) (if N = 0 then -1000005 else nI (N - 1))) := by
  refine MM.of plX9_removeLast (Nat.le_of_ble_eq_true rfl) ?_
  obtain ⟨Q, hQ⟩ : ∃ Q : Option Value → vM → Prop, Q = (dI (rlV V N) (if N = 0 then -1000005 else nI (N - 1))) := ⟨_, rfl⟩
  rw [← hQ]
  show XX g jX9_removeLast Q V 0 [(0, .ref (g.2.1 0))] []
  refine x_aload_n dX9_removeLast_0 0 rfl ?_
  refine x_getR fl_X9_12 rfl rfl dX9_removeLast_1 ?_
  refine x_getI fl_X9_104 rfl rfl dX9_removeLast_4 ?_
  refine x_topi (hsz) ?_
  refine x_if_ne 13 dX9_removeLast_7 (by decide) (fun c1 => ?_) (fun c1 => ?_)
  · have c1n : ¬ N = 0 := fun q => c1 ((nl_eq (a := N) (b := 0) (rfl) (rfl) (by omega) (by omega)).mpr q)
    refine x_aload_n dX9_removeLast_13 0 rfl ?_
    refine x_getR fl_X9_12 rfl rfl dX9_removeLast_14 ?_
    refine x_callV (K := jX5_dropLast) [] lk_X9_108 ⟨⟨rfl, rfl⟩, Nat.le_of_ble_eq_true rfl, Nat.le_of_ble_eq_true rfl⟩ rfl rfl (mX5_dropLast V isP1 (szok_of hsz hN)) rfl (Nat.le_of_ble_eq_true rfl) rfl dX9_removeLast_17 (kdV ?_)
    obtain ⟨U2, eU2⟩ : ∃ v_v : vM, v_v = if V 1 2 = 0 then V else if V 12 (V 1 2 - 1).toNatClampNeg = 0 then uM (uM V 1 2 (V 1 2 - 1)) 1 3 (V 1 3 - 1) else uM V 1 2 (V 1 2 - 1) := ⟨_, rfl⟩
    refine YY.V eU2.symm ?_
    rw [rl_eq hsz hN (by omega)] at eU2
    have hzz : U2 1 2 = nI (N - 1) := by rw [eU2]; exact rl_sz
    refine x_aload_n dX9_removeLast_20 0 rfl ?_
    refine x_iconst (v := 1) dX9_removeLast_21 (by decide) ?_
    have z3 : (1 : Int32) = 0 ∨ (1 : Int32) = 1 := by first | exact Or.inl rfl | exact Or.inr rfl | grind
    refine x_putZ fp_X9_75 rfl rfl z3 dX9_removeLast_22 ?_
    obtain ⟨U4, eU4⟩ : ∃ v_v : vM, v_v = uM U2 0 12 1 := ⟨_, rfl⟩
    refine YY.V eU4.symm ?_
    refine x_aload_n dX9_removeLast_25 0 rfl ?_
    refine x_getR fl_X9_12 rfl rfl dX9_removeLast_26 ?_
    refine x_getI fl_X9_104 rfl rfl dX9_removeLast_29 ?_
    refine x_topi (y := U2 1 2) (by rw [eU4, uM_na (by decide)]) ?_
    refine x_topi (hzz) ?_
    refine x_iret dX9_removeLast_32 rfl ?_
    rw [hQ]
    unfold rlV
    first | (rw [if_pos (by omega), if_pos (by omega)]; exact ⟨rfl, rfl⟩) | (rw [if_neg (show ¬ N = 0 by omega), if_neg (show ¬ N = 0 by omega)]; subst_vars; exact ⟨rfl, rfl⟩)
  · have c1n : N = 0 := (nl_eq (a := N) (b := 0) (rfl) (rfl) (by omega) (by omega)).mp c1
    refine x_ldc ct_X9_107 dX9_removeLast_10 ?_
    refine x_iret dX9_removeLast_12 rfl ?_
    rw [hQ]
    unfold rlV
    first | (rw [if_pos (by omega), if_pos (by omega)]; exact ⟨rfl, rfl⟩) | (rw [if_neg (show ¬ N = 0 by omega), if_neg (show ¬ N = 0 by omega)]; subst_vars; exact ⟨rfl, rfl⟩)
set_option maxHeartbeats 1000000 in
set_option maxRecDepth 100000 in
theorem mX9_setTolerance {g : gX} (V : vM) (t : Int32) : MM g jX9_setTolerance V [.ref (g.2.1 0), .int t] (dI (if 1 ≤ t ∧ t ≤ 1000 then uM (uM V 0 11 t) 0 12 1 else V) (if 1 ≤ t ∧ t ≤ 1000 then V 0 11 else -1000002)) := by
  refine MM.of plX9_setTolerance (Nat.le_of_ble_eq_true rfl) ?_
  obtain ⟨Q, hQ⟩ : ∃ Q : Option Value → vM → Prop, Q = (dI (if 1 ≤ t ∧ t ≤ 1000 then uM (uM V 0 11 t) 0 12 1 else V) (if 1 ≤ t ∧ t ≤ 1000 then V 0 11 else -1000002)) := ⟨_, rfl⟩
  rw [← hQ]
  show XX g jX9_setTolerance Q V 0 [(0, .ref (g.2.1 0)), (1, .int t)] []
  refine x_iload_n dX9_setTolerance_0 1 rfl ?_
  refine x_iconst (v := 1) dX9_setTolerance_1 (by decide) ?_
  refine x_sipush (v := 1000) dX9_setTolerance_2 (by decide) ?_
  refine x_callS (K := jX9_between) [.int t, .int 1, .int 1000] lk_X9_129 ⟨⟨rfl, rfl⟩, Nat.le_of_ble_eq_true rfl, Nat.le_of_ble_eq_true rfl⟩ (mX9_between V t 1 1000) rfl (Nat.le_of_ble_eq_true rfl) rfl dX9_setTolerance_5 (kpI ?_)
  refine x_if_ne 14 dX9_setTolerance_8 (by decide) (fun c1 => ?_) (fun c1 => ?_)
  · have c1n : (1 ≤ t ∧ t ≤ 1000) := Classical.not_not.mp (fun q => c1 (iB_0.mpr q))
    refine x_aload_n dX9_setTolerance_14 0 rfl ?_
    refine x_getI fl_X9_71 rfl rfl dX9_setTolerance_15 ?_
    refine x_istore_n 2 [(2, .int (V 0 11)), (0, .ref (g.2.1 0)), (1, .int t)] dX9_setTolerance_18 rfl (by decide) rfl ?_
    refine x_aload_n dX9_setTolerance_19 1 rfl ?_
    refine x_iload_n dX9_setTolerance_20 2 rfl ?_
    refine x_putI fp_X9_71 rfl rfl dX9_setTolerance_21 ?_
    obtain ⟨U2, eU2⟩ : ∃ v_v : vM, v_v = uM V 0 11 t := ⟨_, rfl⟩
    refine YY.V eU2.symm ?_
    refine x_aload_n dX9_setTolerance_24 1 rfl ?_
    refine x_iconst (v := 1) dX9_setTolerance_25 (by decide) ?_
    have z3 : (1 : Int32) = 0 ∨ (1 : Int32) = 1 := by first | exact Or.inl rfl | exact Or.inr rfl | grind
    refine x_putZ fp_X9_75 rfl rfl z3 dX9_setTolerance_26 ?_
    obtain ⟨U4, eU4⟩ : ∃ v_v : vM, v_v = uM U2 0 12 1 := ⟨_, rfl⟩
    refine YY.V eU4.symm ?_
    refine x_iload_n dX9_setTolerance_29 0 rfl ?_
    refine x_iret dX9_setTolerance_30 rfl ?_
    rw [hQ]
    refine ⟨?_, ?_⟩
    · subst_vars; first | rfl | grind
    · congr 2; first | rfl | grind
  · have c1n : ¬ (1 ≤ t ∧ t ≤ 1000) := iB_0.mp c1
    refine x_ldc ct_X9_83 dX9_setTolerance_11 ?_
    refine x_iret dX9_setTolerance_13 rfl ?_
    rw [hQ]
    refine ⟨?_, ?_⟩
    · subst_vars; first | rfl | grind
    · congr 2; first | rfl | grind
set_option maxHeartbeats 1000000 in
set_option maxRecDepth 100000 in
theorem mX4_append {g : gX} (V : vM) (c : Int32) (hd : 0 ≤ V 10 2) : MM g jX4_append V [.ref (g.2.1 10), .int c] (dV (if V 10 2 < 120 then uM (uM V 36 (V 10 2).toNatClampNeg (vp_nar .char c)) 10 2 (V 10 2 + 1) else V)) := by
  refine MM.of plX4_append (Nat.le_of_ble_eq_true rfl) ?_
  obtain ⟨Q, hQ⟩ : ∃ Q : Option Value → vM → Prop, Q = (dV (if V 10 2 < 120 then uM (uM V 36 (V 10 2).toNatClampNeg (vp_nar .char c)) 10 2 (V 10 2 + 1) else V)) := ⟨_, rfl⟩
  rw [← hQ]
  show XX g jX4_append Q V 0 [(0, .ref (g.2.1 10)), (1, .int c)] []
  refine x_aload_n dX4_append_0 0 rfl ?_
  refine x_getI fl_X4_22 rfl rfl dX4_append_1 ?_
  refine x_bipush (v := 120) dX4_append_4 (by decide) ?_
  refine x_icmp_ge 29 dX4_append_6 (by decide) (fun c1 => ?_) (fun c1 => ?_)
  · refine x_vret dX4_append_29 rfl ?_
    rw [hQ]
    refine ⟨?_, rfl⟩
    subst_vars
    grind
  · refine x_aload_n dX4_append_9 0 rfl ?_
    refine x_getR fl_X4_9 rfl rfl dX4_append_10 ?_
    refine x_aload_n dX4_append_13 0 rfl ?_
    refine x_getI fl_X4_22 rfl rfl dX4_append_14 ?_
    refine x_iload_n dX4_append_17 1 rfl ?_
    have b2 : vp_in (V 10 2) 120 := by exact vp_lit (N := 120) 120 (by decide) rfl (by grind) (by grind)
    refine x_cast rfl b2 dX4_append_18 ?_
    obtain ⟨U3, eU3⟩ : ∃ v_v : vM, v_v = uM V 36 (V 10 2).toNatClampNeg (vp_nar .char c) := ⟨_, rfl⟩
    refine YY.V eU3.symm ?_
    refine x_aload_n dX4_append_19 0 rfl ?_
    refine x_dup dX4_append_20 rfl ?_
    refine x_getI fl_X4_22 rfl rfl dX4_append_21 ?_
    refine x_topi (y := V 10 2) (by rw [eU3, uM_na (by decide)]) ?_
    refine x_iconst (v := 1) dX4_append_24 (by decide) ?_
    refine x_iadd dX4_append_25 ?_
    refine x_putI fp_X4_22 rfl rfl dX4_append_26 ?_
    obtain ⟨U4, eU4⟩ : ∃ v_v : vM, v_v = uM U3 10 2 ((V 10 2) + 1) := ⟨_, rfl⟩
    refine YY.V eU4.symm ?_
    refine x_vret dX4_append_29 rfl ?_
    rw [hQ]
    refine ⟨?_, rfl⟩
    subst_vars
    grind
set_option maxHeartbeats 1000000 in
set_option maxRecDepth 100000 in
theorem mX0_append {g : gX} (V : vM) (c : Int32) (hd : 0 ≤ V 8 4) : MM g jX0_append V [.ref (g.2.1 8), .int c] (dV (if V 8 4 < 6 then uM (uM V 28 (V 8 4).toNatClampNeg c) 8 4 (V 8 4 + 1) else V)) := by
  refine MM.of plX0_append (Nat.le_of_ble_eq_true rfl) ?_
  obtain ⟨Q, hQ⟩ : ∃ Q : Option Value → vM → Prop, Q = (dV (if V 8 4 < 6 then uM (uM V 28 (V 8 4).toNatClampNeg c) 8 4 (V 8 4 + 1) else V)) := ⟨_, rfl⟩
  rw [← hQ]
  show XX g jX0_append Q V 0 [(0, .ref (g.2.1 8)), (1, .int c)] []
  refine x_aload_n dX0_append_0 0 rfl ?_
  refine x_getI fl_X0_25 rfl rfl dX0_append_1 ?_
  refine x_bipush (v := 6) dX0_append_4 (by decide) ?_
  refine x_icmp_ge 29 dX0_append_6 (by decide) (fun c1 => ?_) (fun c1 => ?_)
  · refine x_vret dX0_append_29 rfl ?_
    rw [hQ]
    refine ⟨?_, rfl⟩
    subst_vars
    grind
  · refine x_aload_n dX0_append_9 0 rfl ?_
    refine x_getR fl_X0_9 rfl rfl dX0_append_10 ?_
    refine x_aload_n dX0_append_13 0 rfl ?_
    refine x_getI fl_X0_25 rfl rfl dX0_append_14 ?_
    refine x_iload_n dX0_append_17 1 rfl ?_
    have b2 : vp_in (V 8 4) 6 := by exact vp_lit (N := 6) 6 (by decide) rfl (by grind) (by grind)
    refine x_iast rfl b2 dX0_append_18 ?_
    obtain ⟨U3, eU3⟩ : ∃ v_v : vM, v_v = uM V 28 (V 8 4).toNatClampNeg c := ⟨_, rfl⟩
    refine YY.V eU3.symm ?_
    refine x_aload_n dX0_append_19 0 rfl ?_
    refine x_dup dX0_append_20 rfl ?_
    refine x_getI fl_X0_25 rfl rfl dX0_append_21 ?_
    refine x_topi (y := V 8 4) (by rw [eU3, uM_na (by decide)]) ?_
    refine x_iconst (v := 1) dX0_append_24 (by decide) ?_
    refine x_iadd dX0_append_25 ?_
    refine x_putI fp_X0_25 rfl rfl dX0_append_26 ?_
    obtain ⟨U4, eU4⟩ : ∃ v_v : vM, v_v = uM U3 8 4 ((V 8 4) + 1) := ⟨_, rfl⟩
    refine YY.V eU4.symm ?_
    refine x_vret dX0_append_29 rfl ?_
    rw [hQ]
    refine ⟨?_, rfl⟩
    subst_vars
    grind
set_option maxHeartbeats 1000000 in
set_option maxRecDepth 100000 in
theorem mX3_append {g : gX} (V : vM) (c : Int32) (hd : 0 ≤ V 9 5) : MM g jX3_append V [.ref (g.2.1 9), .int c] (dV (if V 9 5 < 24 ∧ 0 ≤ c ∧ c ≤ 25 then uM (uM V 31 (V 9 5).toNatClampNeg c) 9 5 (V 9 5 + 1) else V)) := by
  refine MM.of plX3_append (Nat.le_of_ble_eq_true rfl) ?_
  obtain ⟨Q, hQ⟩ : ∃ Q : Option Value → vM → Prop, Q = (dV (if V 9 5 < 24 ∧ 0 ≤ c ∧ c ≤ 25 then uM (uM V 31 (V 9 5).toNatClampNeg c) 9 5 (V 9 5 + 1) else V)) := ⟨_, rfl⟩
  rw [← hQ]
  show XX g jX3_append Q V 0 [(0, .ref (g.2.1 9)), (1, .int c)] []
  refine x_aload_n dX3_append_0 0 rfl ?_
  refine x_getI fl_X3_27 rfl rfl dX3_append_1 ?_
  refine x_bipush (v := 24) dX3_append_4 (by decide) ?_
  refine x_icmp_ge 36 dX3_append_6 (by decide) (fun c1 => ?_) (fun c1 => ?_)
  · refine x_vret dX3_append_36 rfl ?_
    rw [hQ]
    refine ⟨?_, rfl⟩
    subst_vars
    grind
  · refine x_iload_n dX3_append_9 1 rfl ?_
    refine x_callSN (K := jX9_isLetter) [.int c] kbX9_isLetter st_isLetter (nwr2 (g := g)) ⟨⟨rfl, rfl⟩, Nat.le_of_ble_eq_true rfl, Nat.le_of_ble_eq_true rfl⟩ (mX9_isLetter V c) rfl (Nat.le_of_ble_eq_true rfl) rfl dX3_append_10 (kpI ?_)
    refine x_if_eq 36 dX3_append_13 (by decide) (fun c2 => ?_) (fun c2 => ?_)
    · have c2n : ¬ (0 ≤ c ∧ c ≤ 25) := iB_0.mp c2
      refine x_vret dX3_append_36 rfl ?_
      rw [hQ]
      refine ⟨?_, rfl⟩
      subst_vars
      grind
    · have c2n : (0 ≤ c ∧ c ≤ 25) := Classical.not_not.mp (fun q => c2 (iB_0.mpr q))
      refine x_aload_n dX3_append_16 0 rfl ?_
      refine x_getR fl_X3_9 rfl rfl dX3_append_17 ?_
      refine x_aload_n dX3_append_20 0 rfl ?_
      refine x_getI fl_X3_27 rfl rfl dX3_append_21 ?_
      refine x_iload_n dX3_append_24 1 rfl ?_
      have b3 : vp_in (V 9 5) 24 := by exact vp_lit (N := 24) 24 (by decide) rfl (by grind) (by grind)
      refine x_iast rfl b3 dX3_append_25 ?_
      obtain ⟨U4, eU4⟩ : ∃ v_v : vM, v_v = uM V 31 (V 9 5).toNatClampNeg c := ⟨_, rfl⟩
      refine YY.V eU4.symm ?_
      refine x_aload_n dX3_append_26 0 rfl ?_
      refine x_dup dX3_append_27 rfl ?_
      refine x_getI fl_X3_27 rfl rfl dX3_append_28 ?_
      refine x_topi (y := V 9 5) (by rw [eU4, uM_na (by decide)]) ?_
      refine x_iconst (v := 1) dX3_append_31 (by decide) ?_
      refine x_iadd dX3_append_32 ?_
      refine x_putI fp_X3_27 rfl rfl dX3_append_33 ?_
      obtain ⟨U5, eU5⟩ : ∃ v_v : vM, v_v = uM U4 9 5 ((V 9 5) + 1) := ⟨_, rfl⟩
      refine YY.V eU5.symm ?_
      refine x_vret dX3_append_36 rfl ?_
      rw [hQ]
      refine ⟨?_, rfl⟩
      subst_vars
      grind
theorem i2c_char (c : Int32) (h : 33 ≤ c ∧ c ≤ 126) : (c.toUInt32 % 65536).toInt32 = c := by
  have : c.toInt = c.toInt := rfl
  obtain ⟨j, hj, rfl⟩ : ∃ j : Nat, j < 127 ∧ c = nI j := by
    obtain ⟨j, h1, h2⟩ := nI_of2 (n := 126) (M := 126) rfl (x := c) (by grind) h.2
    exact ⟨j, by omega, h2⟩
  rw [pk_char, pk_tn (by omega), Nat.mod_eq_of_lt (by omega)]
theorem nar_char (c : Int32) (h : 33 ≤ c ∧ c ≤ 126) : vp_nar .char c = c := by
  obtain ⟨j, hj, rfl⟩ : ∃ j : Nat, j < 127 ∧ c = nI j := by
    obtain ⟨j, h1, h2⟩ := nI_of2 (n := 126) (M := 126) rfl (x := c) (by grind) h.2
    exact ⟨j, by omega, h2⟩
  unfold vp_nar
  rw [(pk_charN (q := j) (by omega)).1]
theorem apsz {V : vM} {p : Prop} [Decidable p] (h : p) {arr i : Nat} {x : Int32} {a sl : Nat} : (if p then uM (uM V arr i x) a sl (V a sl + 1) else V) a sl = V a sl + 1 := by
  rw [if_pos h, uM_hit]
set_option maxHeartbeats 1000000 in
set_option maxRecDepth 100000 in
theorem mX9_say {g : gX} (V : vM) (c : Int32) (hd : 0 ≤ V 10 2 ∧ V 10 2 ≤ 120) : MM g jX9_say V [.ref (g.2.1 0), .int c] (dI (if (33 ≤ c ∧ c ≤ 126) ∧ ¬ V 10 2 = 120 then uM (uM V 36 (V 10 2).toNatClampNeg c) 10 2 (V 10 2 + 1) else V) (if ¬ (33 ≤ c ∧ c ≤ 126) then -1000002 else if V 10 2 = 120 then -1000004 else V 10 2 + 1)) := by
  refine MM.of plX9_say (Nat.le_of_ble_eq_true rfl) ?_
  obtain ⟨Q, hQ⟩ : ∃ Q : Option Value → vM → Prop, Q = (dI (if (33 ≤ c ∧ c ≤ 126) ∧ ¬ V 10 2 = 120 then uM (uM V 36 (V 10 2).toNatClampNeg c) 10 2 (V 10 2 + 1) else V) (if ¬ (33 ≤ c ∧ c ≤ 126) then -1000002 else if V 10 2 = 120 then -1000004 else V 10 2 + 1)) := ⟨_, rfl⟩
  rw [← hQ]
  show XX g jX9_say Q V 0 [(0, .ref (g.2.1 0)), (1, .int c)] []
  refine x_iload_n dX9_say_0 1 rfl ?_
  refine x_bipush (v := 33) dX9_say_1 (by decide) ?_
  refine x_bipush (v := 126) dX9_say_3 (by decide) ?_
  refine x_callS (K := jX9_between) [.int c, .int 33, .int 126] lk_X9_129 ⟨⟨rfl, rfl⟩, Nat.le_of_ble_eq_true rfl, Nat.le_of_ble_eq_true rfl⟩ (mX9_between V c 33 126) rfl (Nat.le_of_ble_eq_true rfl) rfl dX9_say_5 (kpI ?_)
  refine x_if_ne 14 dX9_say_8 (by decide) (fun c1 => ?_) (fun c1 => ?_)
  · have c1n : (33 ≤ c ∧ c ≤ 126) := Classical.not_not.mp (fun q => c1 (iB_0.mpr q))
    refine x_aload_n dX9_say_14 0 rfl ?_
    refine x_getR fl_X9_60 rfl rfl dX9_say_15 ?_
    refine x_getI fl_X9_155 rfl rfl dX9_say_18 ?_
    refine x_bipush (v := 120) dX9_say_21 (by decide) ?_
    refine x_icmp_lt 29 dX9_say_23 (by decide) (fun c2 => ?_) (fun c2 => ?_)
    · refine x_aload_n dX9_say_29 0 rfl ?_
      refine x_getR fl_X9_60 rfl rfl dX9_say_30 ?_
      refine x_iload_n dX9_say_33 1 rfl ?_
      refine x_i2c dX9_say_34 ?_
      refine x_topi (i2c_char c (by assumption)) ?_
      refine x_callV (K := jX4_append) [.int c] lk_X9_157 ⟨⟨rfl, rfl⟩, Nat.le_of_ble_eq_true rfl, Nat.le_of_ble_eq_true rfl⟩ rfl rfl (mX4_append V c (by grind)) rfl (Nat.le_of_ble_eq_true rfl) rfl dX9_say_35 (kdV ?_)
      obtain ⟨U3, eU3⟩ : ∃ v_v : vM, v_v = if V 10 2 < 120 then uM (uM V 36 (V 10 2).toNatClampNeg (vp_nar .char c)) 10 2 (V 10 2 + 1) else V := ⟨_, rfl⟩
      refine YY.V eU3.symm ?_
      have hz4 : U3 10 2 = V 10 2 + 1 := by rw [eU3]; exact apsz (by grind)
      refine x_aload_n dX9_say_38 0 rfl ?_
      refine x_getR fl_X9_60 rfl rfl dX9_say_39 ?_
      refine x_getI fl_X9_155 rfl rfl dX9_say_42 ?_
      refine x_topi (hz4) ?_
      refine x_iret dX9_say_45 rfl ?_
      rw [hQ]
      refine ⟨?_, ?_⟩
      · subst_vars; first | rfl | grind [nar_char]
      · congr 2; first | rfl | grind
    · refine x_ldc ct_X9_156 dX9_say_26 ?_
      refine x_iret dX9_say_28 rfl ?_
      rw [hQ]
      refine ⟨?_, ?_⟩
      · subst_vars; first | rfl | grind [nar_char]
      · congr 2; first | rfl | grind
  · have c1n : ¬ (33 ≤ c ∧ c ≤ 126) := iB_0.mp c1
    refine x_ldc ct_X9_83 dX9_say_11 ?_
    refine x_iret dX9_say_13 rfl ?_
    rw [hQ]
    refine ⟨?_, ?_⟩
    · subst_vars; first | rfl | grind [nar_char]
    · congr 2; first | rfl | grind
set_option maxHeartbeats 1000000 in
set_option maxRecDepth 100000 in
theorem mX9_wipe {g : gX} (V : vM) : MM g jX9_wipe V [.ref (g.2.1 0)] (dI (uM V 10 2 0) (V 10 2)) := by
  refine MM.of plX9_wipe (Nat.le_of_ble_eq_true rfl) ?_
  obtain ⟨Q, hQ⟩ : ∃ Q : Option Value → vM → Prop, Q = (dI (uM V 10 2 0) (V 10 2)) := ⟨_, rfl⟩
  rw [← hQ]
  show XX g jX9_wipe Q V 0 [(0, .ref (g.2.1 0))] []
  refine x_aload_n dX9_wipe_0 0 rfl ?_
  refine x_getR fl_X9_60 rfl rfl dX9_wipe_1 ?_
  refine x_getI fl_X9_155 rfl rfl dX9_wipe_4 ?_
  refine x_istore_n 1 [(1, .int (V 10 2)), (0, .ref (g.2.1 0))] dX9_wipe_7 rfl (by decide) rfl ?_
  refine x_aload_n dX9_wipe_8 1 rfl ?_
  refine x_getR fl_X9_60 rfl rfl dX9_wipe_9 ?_
  refine x_iconst (v := 0) dX9_wipe_12 (by decide) ?_
  refine x_putI fp_X9_155 rfl rfl dX9_wipe_13 ?_
  obtain ⟨U1, eU1⟩ : ∃ v_v : vM, v_v = uM V 10 2 0 := ⟨_, rfl⟩
  refine YY.V eU1.symm ?_
  refine x_iload_n dX9_wipe_16 0 rfl ?_
  refine x_iret dX9_wipe_17 rfl ?_
  rw [hQ]
  subst_vars
  exact ⟨rfl, rfl⟩
set_option maxHeartbeats 1000000 in
set_option maxRecDepth 100000 in
theorem mX9_addDash {g : gX} (V : vM) (d : Int32) (hd : 0 ≤ V 8 4 ∧ V 8 4 ≤ 6) : MM g jX9_addDash V [.ref (g.2.1 0), .int d] (dI (if 1 ≤ d ∧ d ≤ 100000 ∧ ¬ V 8 4 = 6 then uM (uM V 28 (V 8 4).toNatClampNeg d) 8 4 (V 8 4 + 1) else V) (if ¬ (1 ≤ d ∧ d ≤ 100000) then -1000002 else if V 8 4 = 6 then -1000004 else V 8 4 + 1)) := by
  refine MM.of plX9_addDash (Nat.le_of_ble_eq_true rfl) ?_
  obtain ⟨Q, hQ⟩ : ∃ Q : Option Value → vM → Prop, Q = (dI (if 1 ≤ d ∧ d ≤ 100000 ∧ ¬ V 8 4 = 6 then uM (uM V 28 (V 8 4).toNatClampNeg d) 8 4 (V 8 4 + 1) else V) (if ¬ (1 ≤ d ∧ d ≤ 100000) then -1000002 else if V 8 4 = 6 then -1000004 else V 8 4 + 1)) := ⟨_, rfl⟩
  rw [← hQ]
  show XX g jX9_addDash Q V 0 [(0, .ref (g.2.1 0)), (1, .int d)] []
  refine x_iload_n dX9_addDash_0 1 rfl ?_
  refine x_iconst (v := 1) dX9_addDash_1 (by decide) ?_
  refine x_ldc ct_X9_229 dX9_addDash_2 ?_
  refine x_callS (K := jX9_between) [.int d, .int 1, .int 100000] lk_X9_129 ⟨⟨rfl, rfl⟩, Nat.le_of_ble_eq_true rfl, Nat.le_of_ble_eq_true rfl⟩ (mX9_between V d 1 100000) rfl (Nat.le_of_ble_eq_true rfl) rfl dX9_addDash_4 (kpI ?_)
  refine x_if_ne 13 dX9_addDash_7 (by decide) (fun c1 => ?_) (fun c1 => ?_)
  · have c1n : (1 ≤ d ∧ d ≤ 100000) := Classical.not_not.mp (fun q => c1 (iB_0.mpr q))
    refine x_aload_n dX9_addDash_13 0 rfl ?_
    refine x_getR fl_X9_46 rfl rfl dX9_addDash_14 ?_
    refine x_getI fl_X9_230 rfl rfl dX9_addDash_17 ?_
    refine x_bipush (v := 6) dX9_addDash_20 (by decide) ?_
    refine x_icmp_lt 28 dX9_addDash_22 (by decide) (fun c2 => ?_) (fun c2 => ?_)
    · refine x_aload_n dX9_addDash_28 0 rfl ?_
      refine x_getR fl_X9_46 rfl rfl dX9_addDash_29 ?_
      refine x_iload_n dX9_addDash_32 1 rfl ?_
      refine x_callV (K := jX0_append) [.int d] lk_X9_231 ⟨⟨rfl, rfl⟩, Nat.le_of_ble_eq_true rfl, Nat.le_of_ble_eq_true rfl⟩ rfl rfl (mX0_append V d (by grind)) rfl (Nat.le_of_ble_eq_true rfl) rfl dX9_addDash_33 (kdV ?_)
      obtain ⟨U3, eU3⟩ : ∃ v_v : vM, v_v = if V 8 4 < 6 then uM (uM V 28 (V 8 4).toNatClampNeg d) 8 4 (V 8 4 + 1) else V := ⟨_, rfl⟩
      refine YY.V eU3.symm ?_
      have hz4 : U3 8 4 = V 8 4 + 1 := by rw [eU3]; exact apsz (by grind)
      refine x_aload_n dX9_addDash_36 0 rfl ?_
      refine x_getR fl_X9_46 rfl rfl dX9_addDash_37 ?_
      refine x_getI fl_X9_230 rfl rfl dX9_addDash_40 ?_
      refine x_topi (hz4) ?_
      refine x_iret dX9_addDash_43 rfl ?_
      rw [hQ]
      refine ⟨?_, ?_⟩
      · subst_vars; first | rfl | grind
      · congr 2; first | rfl | grind
    · refine x_ldc ct_X9_156 dX9_addDash_25 ?_
      refine x_iret dX9_addDash_27 rfl ?_
      rw [hQ]
      refine ⟨?_, ?_⟩
      · subst_vars; first | rfl | grind
      · congr 2; first | rfl | grind
  · have c1n : ¬ (1 ≤ d ∧ d ≤ 100000) := iB_0.mp c1
    refine x_ldc ct_X9_83 dX9_addDash_10 ?_
    refine x_iret dX9_addDash_12 rfl ?_
    rw [hQ]
    refine ⟨?_, ?_⟩
    · subst_vars; first | rfl | grind
    · congr 2; first | rfl | grind
set_option maxHeartbeats 1000000 in
set_option maxRecDepth 100000 in
theorem mX9_clearDashes {g : gX} (V : vM) (d : Int32) : MM g jX9_clearDashes V [.ref (g.2.1 0), .int d] (dI (if 0 ≤ d ∧ d ≤ 100000 then uM (uM V 8 4 0) 8 5 d else V) (if 0 ≤ d ∧ d ≤ 100000 then V 8 4 else -1000002)) := by
  refine MM.of plX9_clearDashes (Nat.le_of_ble_eq_true rfl) ?_
  obtain ⟨Q, hQ⟩ : ∃ Q : Option Value → vM → Prop, Q = (dI (if 0 ≤ d ∧ d ≤ 100000 then uM (uM V 8 4 0) 8 5 d else V) (if 0 ≤ d ∧ d ≤ 100000 then V 8 4 else -1000002)) := ⟨_, rfl⟩
  rw [← hQ]
  show XX g jX9_clearDashes Q V 0 [(0, .ref (g.2.1 0)), (1, .int d)] []
  refine x_iload_n dX9_clearDashes_0 1 rfl ?_
  refine x_iconst (v := 0) dX9_clearDashes_1 (by decide) ?_
  refine x_ldc ct_X9_229 dX9_clearDashes_2 ?_
  refine x_callS (K := jX9_between) [.int d, .int 0, .int 100000] lk_X9_129 ⟨⟨rfl, rfl⟩, Nat.le_of_ble_eq_true rfl, Nat.le_of_ble_eq_true rfl⟩ (mX9_between V d 0 100000) rfl (Nat.le_of_ble_eq_true rfl) rfl dX9_clearDashes_4 (kpI ?_)
  refine x_if_ne 13 dX9_clearDashes_7 (by decide) (fun c1 => ?_) (fun c1 => ?_)
  · have c1n : (0 ≤ d ∧ d ≤ 100000) := Classical.not_not.mp (fun q => c1 (iB_0.mpr q))
    refine x_aload_n dX9_clearDashes_13 0 rfl ?_
    refine x_getR fl_X9_46 rfl rfl dX9_clearDashes_14 ?_
    refine x_getI fl_X9_230 rfl rfl dX9_clearDashes_17 ?_
    refine x_istore_n 2 [(2, .int (V 8 4)), (0, .ref (g.2.1 0)), (1, .int d)] dX9_clearDashes_20 rfl (by decide) rfl ?_
    refine x_aload_n dX9_clearDashes_21 1 rfl ?_
    refine x_getR fl_X9_46 rfl rfl dX9_clearDashes_22 ?_
    refine x_iconst (v := 0) dX9_clearDashes_25 (by decide) ?_
    refine x_putI fp_X9_230 rfl rfl dX9_clearDashes_26 ?_
    obtain ⟨U2, eU2⟩ : ∃ v_v : vM, v_v = uM V 8 4 0 := ⟨_, rfl⟩
    refine YY.V eU2.symm ?_
    refine x_aload_n dX9_clearDashes_29 1 rfl ?_
    refine x_getR fl_X9_46 rfl rfl dX9_clearDashes_30 ?_
    refine x_iload_n dX9_clearDashes_33 2 rfl ?_
    refine x_putI fp_X9_234 rfl rfl dX9_clearDashes_34 ?_
    obtain ⟨U3, eU3⟩ : ∃ v_v : vM, v_v = uM U2 8 5 d := ⟨_, rfl⟩
    refine YY.V eU3.symm ?_
    refine x_iload_n dX9_clearDashes_37 0 rfl ?_
    refine x_iret dX9_clearDashes_38 rfl ?_
    rw [hQ]
    refine ⟨?_, ?_⟩
    · subst_vars; first | rfl | grind
    · congr 2; first | rfl | grind
  · have c1n : ¬ (0 ≤ d ∧ d ≤ 100000) := iB_0.mp c1
    refine x_ldc ct_X9_83 dX9_clearDashes_10 ?_
    refine x_iret dX9_clearDashes_12 rfl ?_
    rw [hQ]
    refine ⟨?_, ?_⟩
    · subst_vars; first | rfl | grind
    · congr 2; first | rfl | grind
set_option maxHeartbeats 1000000 in
set_option maxRecDepth 100000 in
theorem mX3_changeWidth {g : gX} (V : vM) (l w : Int32) : MM g jX3_changeWidth V [.ref (g.2.1 9), .int l, .int w] (dI (if 0 ≤ l ∧ l ≤ 25 then uM V 32 l.toNatClampNeg w else V) (if 0 ≤ l ∧ l ≤ 25 then V 32 l.toNatClampNeg else -1000001)) := by
  refine MM.of plX3_changeWidth (Nat.le_of_ble_eq_true rfl) ?_
  obtain ⟨Q, hQ⟩ : ∃ Q : Option Value → vM → Prop, Q = (dI (if 0 ≤ l ∧ l ≤ 25 then uM V 32 l.toNatClampNeg w else V) (if 0 ≤ l ∧ l ≤ 25 then V 32 l.toNatClampNeg else -1000001)) := ⟨_, rfl⟩
  rw [← hQ]
  show XX g jX3_changeWidth Q V 0 [(0, .ref (g.2.1 9)), (1, .int l), (2, .int w)] []
  refine x_iload_n dX3_changeWidth_0 1 rfl ?_
  refine x_callSN (K := jX9_isLetter) [.int l] kbX9_isLetter st_isLetter (nwr2 (g := g)) ⟨⟨rfl, rfl⟩, Nat.le_of_ble_eq_true rfl, Nat.le_of_ble_eq_true rfl⟩ (mX9_isLetter V l) rfl (Nat.le_of_ble_eq_true rfl) rfl dX3_changeWidth_1 (kpI ?_)
  refine x_if_ne 10 dX3_changeWidth_4 (by decide) (fun c1 => ?_) (fun c1 => ?_)
  · have c1n : (0 ≤ l ∧ l ≤ 25) := Classical.not_not.mp (fun q => c1 (iB_0.mpr q))
    refine x_aload_n dX3_changeWidth_10 0 rfl ?_
    refine x_getR fl_X3_15 rfl rfl dX3_changeWidth_11 ?_
    refine x_iload_n dX3_changeWidth_14 1 rfl ?_
    have b2 : vp_in l 26 := by exact vp_lit (N := 26) 26 (by decide) rfl (by grind) (by grind)
    refine x_iald rfl b2 dX3_changeWidth_15 ?_
    refine x_istore_n 3 [(3, .int (V 32 l.toNatClampNeg)), (0, .ref (g.2.1 9)), (1, .int l), (2, .int w)] dX3_changeWidth_16 rfl (by decide) rfl ?_
    refine x_aload_n dX3_changeWidth_17 1 rfl ?_
    refine x_getR fl_X3_15 rfl rfl dX3_changeWidth_18 ?_
    refine x_iload_n dX3_changeWidth_21 2 rfl ?_
    refine x_iload_n dX3_changeWidth_22 3 rfl ?_
    have b3 : vp_in l 26 := by exact vp_lit (N := 26) 26 (by decide) rfl (by grind) (by grind)
    refine x_iast rfl b3 dX3_changeWidth_23 ?_
    obtain ⟨U4, eU4⟩ : ∃ v_v : vM, v_v = uM V 32 l.toNatClampNeg w := ⟨_, rfl⟩
    refine YY.V eU4.symm ?_
    refine x_iload_n dX3_changeWidth_24 0 rfl ?_
    refine x_iret dX3_changeWidth_25 rfl ?_
    rw [hQ]
    refine ⟨?_, ?_⟩
    · subst_vars; first | rfl | grind
    · congr 2; first | rfl | grind
  · have c1n : ¬ (0 ≤ l ∧ l ≤ 25) := iB_0.mp c1
    refine x_ldc ct_X3_47 dX3_changeWidth_7 ?_
    refine x_iret dX3_changeWidth_9 rfl ?_
    rw [hQ]
    refine ⟨?_, ?_⟩
    · subst_vars; first | rfl | grind
    · congr 2; first | rfl | grind
set_option maxHeartbeats 1000000 in
set_option maxRecDepth 100000 in
theorem mX9_setWidth {g : gX} (V : vM) (l w : Int32) : MM g jX9_setWidth V [.ref (g.2.1 0), .int l, .int w] (dI (if (0 ≤ l ∧ l ≤ 25) ∧ 1 ≤ w ∧ w ≤ 4000 then uM V 32 l.toNatClampNeg w else V) (if ¬ (0 ≤ l ∧ l ≤ 25) then -1000001 else if ¬ (1 ≤ w ∧ w ≤ 4000) then -1000002 else V 32 l.toNatClampNeg)) := by
  refine MM.of plX9_setWidth (Nat.le_of_ble_eq_true rfl) ?_
  obtain ⟨Q, hQ⟩ : ∃ Q : Option Value → vM → Prop, Q = (dI (if (0 ≤ l ∧ l ≤ 25) ∧ 1 ≤ w ∧ w ≤ 4000 then uM V 32 l.toNatClampNeg w else V) (if ¬ (0 ≤ l ∧ l ≤ 25) then -1000001 else if ¬ (1 ≤ w ∧ w ≤ 4000) then -1000002 else V 32 l.toNatClampNeg)) := ⟨_, rfl⟩
  rw [← hQ]
  show XX g jX9_setWidth Q V 0 [(0, .ref (g.2.1 0)), (1, .int l), (2, .int w)] []
  refine x_iload_n dX9_setWidth_0 1 rfl ?_
  refine x_callS (K := jX9_isLetter) [.int l] lk_X9_246 ⟨⟨rfl, rfl⟩, Nat.le_of_ble_eq_true rfl, Nat.le_of_ble_eq_true rfl⟩ (mX9_isLetter V l) rfl (Nat.le_of_ble_eq_true rfl) rfl dX9_setWidth_1 (kpI ?_)
  refine x_if_ne 10 dX9_setWidth_4 (by decide) (fun c1 => ?_) (fun c1 => ?_)
  · have c1n : (0 ≤ l ∧ l ≤ 25) := Classical.not_not.mp (fun q => c1 (iB_0.mpr q))
    refine x_iload_n dX9_setWidth_10 2 rfl ?_
    refine x_iconst (v := 1) dX9_setWidth_11 (by decide) ?_
    refine x_sipush (v := 4000) dX9_setWidth_12 (by decide) ?_
    refine x_callS (K := jX9_between) [.int w, .int 1, .int 4000] lk_X9_129 ⟨⟨rfl, rfl⟩, Nat.le_of_ble_eq_true rfl, Nat.le_of_ble_eq_true rfl⟩ (mX9_between V w 1 4000) rfl (Nat.le_of_ble_eq_true rfl) rfl dX9_setWidth_15 (kpI ?_)
    refine x_if_ne 24 dX9_setWidth_18 (by decide) (fun c2 => ?_) (fun c2 => ?_)
    · have c2n : (1 ≤ w ∧ w ≤ 4000) := Classical.not_not.mp (fun q => c2 (iB_0.mpr q))
      refine x_aload_n dX9_setWidth_24 0 rfl ?_
      refine x_getR fl_X9_53 rfl rfl dX9_setWidth_25 ?_
      refine x_iload_n dX9_setWidth_28 1 rfl ?_
      refine x_iload_n dX9_setWidth_29 2 rfl ?_
      refine x_callV (K := jX3_changeWidth) [.int l, .int w] lk_X9_249 ⟨⟨rfl, rfl⟩, Nat.le_of_ble_eq_true rfl, Nat.le_of_ble_eq_true rfl⟩ rfl rfl (mX3_changeWidth V l w) rfl (Nat.le_of_ble_eq_true rfl) rfl dX9_setWidth_30 (kdI ?_)
      obtain ⟨U3, eU3⟩ : ∃ v_v : vM, v_v = if 0 ≤ l ∧ l ≤ 25 then uM V 32 l.toNatClampNeg w else V := ⟨_, rfl⟩
      refine YY.V eU3.symm ?_
      refine x_iret dX9_setWidth_33 rfl ?_
      rw [hQ]
      refine ⟨?_, ?_⟩
      · subst_vars; first | rfl | grind
      · congr 2; first | rfl | grind
    · have c2n : ¬ (1 ≤ w ∧ w ≤ 4000) := iB_0.mp c2
      refine x_ldc ct_X9_83 dX9_setWidth_21 ?_
      refine x_iret dX9_setWidth_23 rfl ?_
      rw [hQ]
      refine ⟨?_, ?_⟩
      · subst_vars; first | rfl | grind
      · congr 2; first | rfl | grind
  · have c1n : ¬ (0 ≤ l ∧ l ≤ 25) := iB_0.mp c1
    refine x_ldc ct_X9_111 dX9_setWidth_7 ?_
    refine x_iret dX9_setWidth_9 rfl ?_
    rw [hQ]
    refine ⟨?_, ?_⟩
    · subst_vars; first | rfl | grind
    · congr 2; first | rfl | grind
def keO (V : vM) (l r : Int32) : Int32 := if (0 ≤ l ∧ l ≤ 25) ∧ 0 ≤ r ∧ r ≤ 25 then V 33 (l * 26 + r).toNatClampNeg else 0
set_option maxHeartbeats 1000000 in
set_option maxRecDepth 100000 in
theorem mX3_kerningOf {g : gX} (V : vM) (l r : Int32) : MM g jX3_kerningOf V [.ref (g.2.1 9), .int l, .int r] (pI V (keO V l r)) := by
  refine MM.of plX3_kerningOf (Nat.le_of_ble_eq_true rfl) ?_
  obtain ⟨Q, hQ⟩ : ∃ Q : Option Value → vM → Prop, Q = (pI V (keO V l r)) := ⟨_, rfl⟩
  rw [← hQ]
  show XX g jX3_kerningOf Q V 0 [(0, .ref (g.2.1 9)), (1, .int l), (2, .int r)] []
  refine x_iload_n dX3_kerningOf_0 1 rfl ?_
  refine x_callSN (K := jX9_isLetter) [.int l] kbX9_isLetter st_isLetter (nwr2 (g := g)) ⟨⟨rfl, rfl⟩, Nat.le_of_ble_eq_true rfl, Nat.le_of_ble_eq_true rfl⟩ (mX9_isLetter V l) rfl (Nat.le_of_ble_eq_true rfl) rfl dX3_kerningOf_1 (kpI ?_)
  have jn3 : ∀ (z2 : Int32), ((¬ (0 ≤ l ∧ l ≤ 25) ∧ z2 = 0) ∨ ((0 ≤ l ∧ l ≤ 25) ∧ ¬ (0 ≤ r ∧ r ≤ 25) ∧ z2 = 0) ∨ ((0 ≤ l ∧ l ≤ 25) ∧ (0 ≤ r ∧ r ≤ 25) ∧ z2 = V 33 ((l * 26) + r).toNatClampNeg)) → XX g jX3_kerningOf Q V 29 [(0, .ref (g.2.1 9)), (1, .int l), (2, .int r)] [.int z2] := by
    intro z2 hj4
    refine x_iret dX3_kerningOf_29 rfl ?_
    rw [hQ]
    refine ⟨rfl, ?_⟩
    unfold keO
    congr 2
    grind
  refine x_if_eq 28 dX3_kerningOf_4 (by decide) (fun c1 => ?_) (fun c1 => ?_)
  · have c1n : ¬ (0 ≤ l ∧ l ≤ 25) := iB_0.mp c1
    refine x_iconst (v := 0) dX3_kerningOf_28 (by decide) ?_
    exact jn3 _ (Or.inl ⟨c1n, rfl⟩)
  · have c1n : (0 ≤ l ∧ l ≤ 25) := Classical.not_not.mp (fun q => c1 (iB_0.mpr q))
    refine x_iload_n dX3_kerningOf_7 2 rfl ?_
    refine x_callSN (K := jX9_isLetter) [.int r] kbX9_isLetter st_isLetter (nwr2 (g := g)) ⟨⟨rfl, rfl⟩, Nat.le_of_ble_eq_true rfl, Nat.le_of_ble_eq_true rfl⟩ (mX9_isLetter V r) rfl (Nat.le_of_ble_eq_true rfl) rfl dX3_kerningOf_8 (kpI ?_)
    refine x_if_eq 28 dX3_kerningOf_11 (by decide) (fun c5 => ?_) (fun c5 => ?_)
    · have c5n : ¬ (0 ≤ r ∧ r ≤ 25) := iB_0.mp c5
      refine x_iconst (v := 0) dX3_kerningOf_28 (by decide) ?_
      exact jn3 _ (Or.inr (Or.inl ⟨c1n, c5n, rfl⟩))
    · have c5n : (0 ≤ r ∧ r ≤ 25) := Classical.not_not.mp (fun q => c5 (iB_0.mpr q))
      refine x_aload_n dX3_kerningOf_14 0 rfl ?_
      refine x_getR fl_X3_18 rfl rfl dX3_kerningOf_15 ?_
      refine x_iload_n dX3_kerningOf_18 1 rfl ?_
      refine x_bipush (v := 26) dX3_kerningOf_19 (by decide) ?_
      refine x_imul dX3_kerningOf_21 ?_
      refine x_iload_n dX3_kerningOf_22 2 rfl ?_
      refine x_iadd dX3_kerningOf_23 ?_
      have b6 : vp_in ((l * 26) + r) 676 := by exact vp_lit (N := 676) 676 (by decide) rfl (by grind) (by grind)
      refine x_iald rfl b6 dX3_kerningOf_24 ?_
      refine x_goto 29 dX3_kerningOf_25 (by decide) ?_
      exact jn3 _ (Or.inr (Or.inr ⟨c1n, c5n, rfl⟩))
set_option maxHeartbeats 1000000 in
set_option maxRecDepth 100000 in
theorem mX3_pairsBeside {g : gX} (V : vM) (l r : Int32) : MM g jX3_pairsBeside V [.ref (g.2.1 9), .int l, .int r] (pI V (if keO V l r = 0 then V 9 6 else V 9 6 - 1)) := by
  refine MM.of plX3_pairsBeside (Nat.le_of_ble_eq_true rfl) ?_
  obtain ⟨Q, hQ⟩ : ∃ Q : Option Value → vM → Prop, Q = (pI V (if keO V l r = 0 then V 9 6 else V 9 6 - 1)) := ⟨_, rfl⟩
  rw [← hQ]
  show XX g jX3_pairsBeside Q V 0 [(0, .ref (g.2.1 9)), (1, .int l), (2, .int r)] []
  refine x_aload_n dX3_pairsBeside_0 0 rfl ?_
  refine x_iload_n dX3_pairsBeside_1 1 rfl ?_
  refine x_iload_n dX3_pairsBeside_2 2 rfl ?_
  refine x_callV (K := jX3_kerningOf) [.int l, .int r] lk_X3_48 ⟨⟨rfl, rfl⟩, Nat.le_of_ble_eq_true rfl, Nat.le_of_ble_eq_true rfl⟩ rfl rfl (mX3_kerningOf V l r) rfl (Nat.le_of_ble_eq_true rfl) rfl dX3_pairsBeside_3 (kpI ?_)
  have jn3 : ∀ (z2 : Int32), ((¬ (keO V l r) = 0 ∧ z2 = (V 9 6) - 1) ∨ ((keO V l r) = 0 ∧ z2 = V 9 6)) → XX g jX3_pairsBeside Q V 22 [(0, .ref (g.2.1 9)), (1, .int l), (2, .int r)] [.int z2] := by
    intro z2 hj4
    refine x_iret dX3_pairsBeside_22 rfl ?_
    rw [hQ]
    refine ⟨rfl, ?_⟩
    congr 2
    grind
  refine x_if_ne 16 dX3_pairsBeside_6 (by decide) (fun c1 => ?_) (fun c1 => ?_)
  · refine x_aload_n dX3_pairsBeside_16 0 rfl ?_
    refine x_getI fl_X3_31 rfl rfl dX3_pairsBeside_17 ?_
    refine x_iconst (v := 1) dX3_pairsBeside_20 (by decide) ?_
    refine x_isub dX3_pairsBeside_21 ?_
    exact jn3 _ (Or.inl ⟨c1, rfl⟩)
  · refine x_aload_n dX3_pairsBeside_9 0 rfl ?_
    refine x_getI fl_X3_31 rfl rfl dX3_pairsBeside_10 ?_
    refine x_goto 22 dX3_pairsBeside_13 (by decide) ?_
    exact jn3 _ (Or.inr ⟨c1, rfl⟩)
def ckS (V : vM) (l r a : Int32) : Int32 := (if keO V l r = 0 then V 9 6 else V 9 6 - 1) + if a = 0 then 0 else 1
set_option maxHeartbeats 1000000 in
set_option maxRecDepth 100000 in
theorem mX3_changeKerning {g : gX} (V : vM) (l r a : Int32) (hl : 0 ≤ l ∧ l ≤ 25) (hr : 0 ≤ r ∧ r ≤ 25) : MM g jX3_changeKerning V [.ref (g.2.1 9), .int l, .int r, .int a] (dI (uM (uM V 9 6 (ckS V l r a)) 33 (l * 26 + r).toNatClampNeg a) (ckS V l r a)) := by
  refine MM.of plX3_changeKerning (Nat.le_of_ble_eq_true rfl) ?_
  obtain ⟨Q, hQ⟩ : ∃ Q : Option Value → vM → Prop, Q = (dI (uM (uM V 9 6 (ckS V l r a)) 33 (l * 26 + r).toNatClampNeg a) (ckS V l r a)) := ⟨_, rfl⟩
  rw [← hQ]
  show XX g jX3_changeKerning Q V 0 [(0, .ref (g.2.1 9)), (1, .int l), (2, .int r), (3, .int a)] []
  refine x_iload_n dX3_changeKerning_0 1 rfl ?_
  refine x_callSN (K := jX9_isLetter) [.int l] kbX9_isLetter st_isLetter (nwr2 (g := g)) ⟨⟨rfl, rfl⟩, Nat.le_of_ble_eq_true rfl, Nat.le_of_ble_eq_true rfl⟩ (mX9_isLetter V l) rfl (Nat.le_of_ble_eq_true rfl) rfl dX3_changeKerning_1 (kpI ?_)
  refine x_if_eq 14 dX3_changeKerning_4 (by decide) (fun c1 => by exfalso; exact iB_0.mp c1 hl) (fun c1 => ?_)
  refine x_iload_n dX3_changeKerning_7 2 rfl ?_
  refine x_callSN (K := jX9_isLetter) [.int r] kbX9_isLetter st_isLetter (nwr2 (g := g)) ⟨⟨rfl, rfl⟩, Nat.le_of_ble_eq_true rfl, Nat.le_of_ble_eq_true rfl⟩ (mX9_isLetter V r) rfl (Nat.le_of_ble_eq_true rfl) rfl dX3_changeKerning_8 (kpI ?_)
  refine x_if_ne 17 dX3_changeKerning_11 (by decide) (fun c2 => ?_) (fun c2 => by exfalso; exact iB_0.mp c2 hr)
  refine x_aload_n dX3_changeKerning_17 0 rfl ?_
  refine x_aload_n dX3_changeKerning_18 0 rfl ?_
  refine x_iload_n dX3_changeKerning_19 1 rfl ?_
  refine x_iload_n dX3_changeKerning_20 2 rfl ?_
  refine x_callV (K := jX3_pairsBeside) [.int l, .int r] lk_X3_52 ⟨⟨rfl, rfl⟩, Nat.le_of_ble_eq_true rfl, Nat.le_of_ble_eq_true rfl⟩ rfl rfl (mX3_pairsBeside V l r) rfl (Nat.le_of_ble_eq_true rfl) rfl dX3_changeKerning_21 (kpI ?_)
  refine x_iload_n dX3_changeKerning_24 3 rfl ?_
  refine x_if_ne 32 dX3_changeKerning_25 (by decide) (fun c3 => ?_) (fun c3 => ?_)
  · refine x_iconst (v := 1) dX3_changeKerning_32 (by decide) ?_
    refine x_iadd dX3_changeKerning_33 ?_
    refine x_putI fp_X3_31 rfl rfl dX3_changeKerning_34 ?_
    obtain ⟨U4, eU4⟩ : ∃ v_v : vM, v_v = uM V 9 6 ((if keO V l r = 0 then V 9 6 else V 9 6 - 1) + 1) := ⟨_, rfl⟩
    refine YY.V eU4.symm ?_
    refine x_aload_n dX3_changeKerning_37 0 rfl ?_
    refine x_getR fl_X3_18 rfl rfl dX3_changeKerning_38 ?_
    refine x_iload_n dX3_changeKerning_41 1 rfl ?_
    refine x_bipush (v := 26) dX3_changeKerning_42 (by decide) ?_
    refine x_imul dX3_changeKerning_44 ?_
    refine x_iload_n dX3_changeKerning_45 2 rfl ?_
    refine x_iadd dX3_changeKerning_46 ?_
    refine x_iload_n dX3_changeKerning_47 3 rfl ?_
    have b5 : vp_in ((l * 26) + r) 676 := by exact vp_lit (N := 676) 676 (by decide) rfl (by grind) (by grind)
    refine x_iast rfl b5 dX3_changeKerning_48 ?_
    obtain ⟨U6, eU6⟩ : ∃ v_v : vM, v_v = uM U4 33 ((l * 26) + r).toNatClampNeg a := ⟨_, rfl⟩
    refine YY.V eU6.symm ?_
    refine x_aload_n dX3_changeKerning_49 0 rfl ?_
    refine x_getI fl_X3_31 rfl rfl dX3_changeKerning_50 ?_
    refine x_topi (y := (if keO V l r = 0 then V 9 6 else V 9 6 - 1) + 1) (by rw [eU6, uM_na (by decide), eU4, uM_hit]) ?_
    refine x_iret dX3_changeKerning_53 rfl ?_
    rw [hQ]
    refine ⟨?_, ?_⟩
    · subst_vars; unfold ckS; grind
    · unfold ckS; congr 2; grind
  · refine x_iconst (v := 0) dX3_changeKerning_28 (by decide) ?_
    refine x_goto 33 dX3_changeKerning_29 (by decide) ?_
    refine x_iadd dX3_changeKerning_33 ?_
    refine x_putI fp_X3_31 rfl rfl dX3_changeKerning_34 ?_
    obtain ⟨U7, eU7⟩ : ∃ v_v : vM, v_v = uM V 9 6 ((if keO V l r = 0 then V 9 6 else V 9 6 - 1) + 0) := ⟨_, rfl⟩
    refine YY.V eU7.symm ?_
    refine x_aload_n dX3_changeKerning_37 0 rfl ?_
    refine x_getR fl_X3_18 rfl rfl dX3_changeKerning_38 ?_
    refine x_iload_n dX3_changeKerning_41 1 rfl ?_
    refine x_bipush (v := 26) dX3_changeKerning_42 (by decide) ?_
    refine x_imul dX3_changeKerning_44 ?_
    refine x_iload_n dX3_changeKerning_45 2 rfl ?_
    refine x_iadd dX3_changeKerning_46 ?_
    refine x_iload_n dX3_changeKerning_47 3 rfl ?_
    have b8 : vp_in ((l * 26) + r) 676 := by exact vp_lit (N := 676) 676 (by decide) rfl (by grind) (by grind)
    refine x_iast rfl b8 dX3_changeKerning_48 ?_
    obtain ⟨U9, eU9⟩ : ∃ v_v : vM, v_v = uM U7 33 ((l * 26) + r).toNatClampNeg a := ⟨_, rfl⟩
    refine YY.V eU9.symm ?_
    refine x_aload_n dX3_changeKerning_49 0 rfl ?_
    refine x_getI fl_X3_31 rfl rfl dX3_changeKerning_50 ?_
    refine x_topi (y := (if keO V l r = 0 then V 9 6 else V 9 6 - 1) + 0) (by rw [eU9, uM_na (by decide), eU7, uM_hit]) ?_
    refine x_iret dX3_changeKerning_53 rfl ?_
    rw [hQ]
    refine ⟨?_, ?_⟩
    · subst_vars; unfold ckS; grind
    · unfold ckS; congr 2; grind
set_option maxHeartbeats 1000000 in
set_option maxRecDepth 100000 in
theorem mX9_setKerning {g : gX} (V : vM) (l r a : Int32) : MM g jX9_setKerning V [.ref (g.2.1 0), .int l, .int r, .int a] (dI (if ¬ ((0 ≤ l ∧ l ≤ 25) ∧ 0 ≤ r ∧ r ≤ 25) then V else if ¬ (-500 ≤ a ∧ a ≤ 500) then V else if ¬ a = 0 ∧ 20 ≤ (if keO V l r = 0 then V 9 6 else V 9 6 - 1) then V else uM (uM V 9 6 (ckS V l r a)) 33 (l * 26 + r).toNatClampNeg a) (if ¬ ((0 ≤ l ∧ l ≤ 25) ∧ 0 ≤ r ∧ r ≤ 25) then -1000001 else if ¬ (-500 ≤ a ∧ a ≤ 500) then -1000002 else if ¬ a = 0 ∧ 20 ≤ (if keO V l r = 0 then V 9 6 else V 9 6 - 1) then -1000004 else ckS V l r a)) := by
  refine MM.of plX9_setKerning (Nat.le_of_ble_eq_true rfl) ?_
  obtain ⟨Q, hQ⟩ : ∃ Q : Option Value → vM → Prop, Q = (dI (if ¬ ((0 ≤ l ∧ l ≤ 25) ∧ 0 ≤ r ∧ r ≤ 25) then V else if ¬ (-500 ≤ a ∧ a ≤ 500) then V else if ¬ a = 0 ∧ 20 ≤ (if keO V l r = 0 then V 9 6 else V 9 6 - 1) then V else uM (uM V 9 6 (ckS V l r a)) 33 (l * 26 + r).toNatClampNeg a) (if ¬ ((0 ≤ l ∧ l ≤ 25) ∧ 0 ≤ r ∧ r ≤ 25) then -1000001 else if ¬ (-500 ≤ a ∧ a ≤ 500) then -1000002 else if ¬ a = 0 ∧ 20 ≤ (if keO V l r = 0 then V 9 6 else V 9 6 - 1) then -1000004 else ckS V l r a)) := ⟨_, rfl⟩
  rw [← hQ]
  show XX g jX9_setKerning Q V 0 [(0, .ref (g.2.1 0)), (1, .int l), (2, .int r), (3, .int a)] []
  refine x_iload_n dX9_setKerning_0 1 rfl ?_
  refine x_callS (K := jX9_isLetter) [.int l] lk_X9_246 ⟨⟨rfl, rfl⟩, Nat.le_of_ble_eq_true rfl, Nat.le_of_ble_eq_true rfl⟩ (mX9_isLetter V l) rfl (Nat.le_of_ble_eq_true rfl) rfl dX9_setKerning_1 (kpI ?_)
  refine x_if_eq 14 dX9_setKerning_4 (by decide) (fun c1 => ?_) (fun c1 => ?_)
  · have c1n : ¬ (0 ≤ l ∧ l ≤ 25) := iB_0.mp c1
    refine x_ldc ct_X9_111 dX9_setKerning_14 ?_
    refine x_iret dX9_setKerning_16 rfl ?_
    rw [hQ]
    refine ⟨?_, ?_⟩
    · subst_vars; grind
    · congr 2; grind
  · have c1n : (0 ≤ l ∧ l ≤ 25) := Classical.not_not.mp (fun q => c1 (iB_0.mpr q))
    refine x_iload_n dX9_setKerning_7 2 rfl ?_
    refine x_callS (K := jX9_isLetter) [.int r] lk_X9_246 ⟨⟨rfl, rfl⟩, Nat.le_of_ble_eq_true rfl, Nat.le_of_ble_eq_true rfl⟩ (mX9_isLetter V r) rfl (Nat.le_of_ble_eq_true rfl) rfl dX9_setKerning_8 (kpI ?_)
    refine x_if_ne 17 dX9_setKerning_11 (by decide) (fun c2 => ?_) (fun c2 => ?_)
    · have c2n : (0 ≤ r ∧ r ≤ 25) := Classical.not_not.mp (fun q => c2 (iB_0.mpr q))
      refine x_iload_n dX9_setKerning_17 3 rfl ?_
      refine x_sipush (v := -500) dX9_setKerning_18 (by decide) ?_
      refine x_sipush (v := 500) dX9_setKerning_21 (by decide) ?_
      refine x_callS (K := jX9_between) [.int a, .int (-500), .int 500] lk_X9_129 ⟨⟨rfl, rfl⟩, Nat.le_of_ble_eq_true rfl, Nat.le_of_ble_eq_true rfl⟩ (mX9_between V a (-500) 500) rfl (Nat.le_of_ble_eq_true rfl) rfl dX9_setKerning_24 (kpI ?_)
      refine x_if_ne 33 dX9_setKerning_27 (by decide) (fun c3 => ?_) (fun c3 => ?_)
      · have c3n : ((-500) ≤ a ∧ a ≤ 500) := Classical.not_not.mp (fun q => c3 (iB_0.mpr q))
        refine x_iload_n dX9_setKerning_33 3 rfl ?_
        refine x_if_eq 54 dX9_setKerning_34 (by decide) (fun c4 => ?_) (fun c4 => ?_)
        · refine x_aload_n dX9_setKerning_54 0 rfl ?_
          refine x_getR fl_X9_53 rfl rfl dX9_setKerning_55 ?_
          refine x_iload_n dX9_setKerning_58 1 rfl ?_
          refine x_iload_n dX9_setKerning_59 2 rfl ?_
          refine x_iload_n dX9_setKerning_60 3 rfl ?_
          refine x_callV (K := jX3_changeKerning) [.int l, .int r, .int a] lk_X9_255 ⟨⟨rfl, rfl⟩, Nat.le_of_ble_eq_true rfl, Nat.le_of_ble_eq_true rfl⟩ rfl rfl (mX3_changeKerning V l r a (by grind) (by grind)) rfl (Nat.le_of_ble_eq_true rfl) rfl dX9_setKerning_61 (kdI ?_)
          obtain ⟨U5, eU5⟩ : ∃ v_v : vM, v_v = uM (uM V 9 6 (ckS V l r a)) 33 (l * 26 + r).toNatClampNeg a := ⟨_, rfl⟩
          refine YY.V eU5.symm ?_
          refine x_iret dX9_setKerning_64 rfl ?_
          rw [hQ]
          refine ⟨?_, ?_⟩
          · subst_vars; grind
          · congr 2; grind
        · refine x_aload_n dX9_setKerning_37 0 rfl ?_
          refine x_getR fl_X9_53 rfl rfl dX9_setKerning_38 ?_
          refine x_iload_n dX9_setKerning_41 1 rfl ?_
          refine x_iload_n dX9_setKerning_42 2 rfl ?_
          refine x_callV (K := jX3_pairsBeside) [.int l, .int r] lk_X9_252 ⟨⟨rfl, rfl⟩, Nat.le_of_ble_eq_true rfl, Nat.le_of_ble_eq_true rfl⟩ rfl rfl (mX3_pairsBeside V l r) rfl (Nat.le_of_ble_eq_true rfl) rfl dX9_setKerning_43 (kpI ?_)
          refine x_bipush (v := 20) dX9_setKerning_46 (by decide) ?_
          refine x_icmp_lt 54 dX9_setKerning_48 (by decide) (fun c6 => ?_) (fun c6 => ?_)
          · refine x_aload_n dX9_setKerning_54 0 rfl ?_
            refine x_getR fl_X9_53 rfl rfl dX9_setKerning_55 ?_
            refine x_iload_n dX9_setKerning_58 1 rfl ?_
            refine x_iload_n dX9_setKerning_59 2 rfl ?_
            refine x_iload_n dX9_setKerning_60 3 rfl ?_
            refine x_callV (K := jX3_changeKerning) [.int l, .int r, .int a] lk_X9_255 ⟨⟨rfl, rfl⟩, Nat.le_of_ble_eq_true rfl, Nat.le_of_ble_eq_true rfl⟩ rfl rfl (mX3_changeKerning V l r a (by grind) (by grind)) rfl (Nat.le_of_ble_eq_true rfl) rfl dX9_setKerning_61 (kdI ?_)
            obtain ⟨U7, eU7⟩ : ∃ v_v : vM, v_v = uM (uM V 9 6 (ckS V l r a)) 33 (l * 26 + r).toNatClampNeg a := ⟨_, rfl⟩
            refine YY.V eU7.symm ?_
            refine x_iret dX9_setKerning_64 rfl ?_
            rw [hQ]
            refine ⟨?_, ?_⟩
            · subst_vars; grind
            · congr 2; grind
          · refine x_ldc ct_X9_156 dX9_setKerning_51 ?_
            refine x_iret dX9_setKerning_53 rfl ?_
            rw [hQ]
            refine ⟨?_, ?_⟩
            · subst_vars; grind
            · congr 2; grind
      · have c3n : ¬ ((-500) ≤ a ∧ a ≤ 500) := iB_0.mp c3
        refine x_ldc ct_X9_83 dX9_setKerning_30 ?_
        refine x_iret dX9_setKerning_32 rfl ?_
        rw [hQ]
        refine ⟨?_, ?_⟩
        · subst_vars; grind
        · congr 2; grind
    · have c2n : ¬ (0 ≤ r ∧ r ≤ 25) := iB_0.mp c2
      refine x_ldc ct_X9_111 dX9_setKerning_14 ?_
      refine x_iret dX9_setKerning_16 rfl ?_
      rw [hQ]
      refine ⟨?_, ?_⟩
      · subst_vars; grind
      · congr 2; grind
set_option maxHeartbeats 1000000 in
set_option maxRecDepth 100000 in
theorem mX9_write {g : gX} (V : vM) (l : Int32) (hd : 0 ≤ V 9 5 ∧ V 9 5 ≤ 24) : MM g jX9_write V [.ref (g.2.1 0), .int l] (dI (if (0 ≤ l ∧ l ≤ 25) ∧ ¬ V 9 5 = 24 then uM (uM V 31 (V 9 5).toNatClampNeg l) 9 5 (V 9 5 + 1) else V) (if ¬ (0 ≤ l ∧ l ≤ 25) then -1000001 else if V 9 5 = 24 then -1000004 else V 9 5 + 1)) := by
  refine MM.of plX9_write (Nat.le_of_ble_eq_true rfl) ?_
  obtain ⟨Q, hQ⟩ : ∃ Q : Option Value → vM → Prop, Q = (dI (if (0 ≤ l ∧ l ≤ 25) ∧ ¬ V 9 5 = 24 then uM (uM V 31 (V 9 5).toNatClampNeg l) 9 5 (V 9 5 + 1) else V) (if ¬ (0 ≤ l ∧ l ≤ 25) then -1000001 else if V 9 5 = 24 then -1000004 else V 9 5 + 1)) := ⟨_, rfl⟩
  rw [← hQ]
  show XX g jX9_write Q V 0 [(0, .ref (g.2.1 0)), (1, .int l)] []
  refine x_iload_n dX9_write_0 1 rfl ?_
  refine x_callS (K := jX9_isLetter) [.int l] lk_X9_246 ⟨⟨rfl, rfl⟩, Nat.le_of_ble_eq_true rfl, Nat.le_of_ble_eq_true rfl⟩ (mX9_isLetter V l) rfl (Nat.le_of_ble_eq_true rfl) rfl dX9_write_1 (kpI ?_)
  refine x_if_ne 10 dX9_write_4 (by decide) (fun c1 => ?_) (fun c1 => ?_)
  · have c1n : (0 ≤ l ∧ l ≤ 25) := Classical.not_not.mp (fun q => c1 (iB_0.mpr q))
    refine x_aload_n dX9_write_10 0 rfl ?_
    refine x_getR fl_X9_53 rfl rfl dX9_write_11 ?_
    refine x_getI fl_X9_258 rfl rfl dX9_write_14 ?_
    refine x_bipush (v := 24) dX9_write_17 (by decide) ?_
    refine x_icmp_lt 25 dX9_write_19 (by decide) (fun c2 => ?_) (fun c2 => ?_)
    · refine x_aload_n dX9_write_25 0 rfl ?_
      refine x_getR fl_X9_53 rfl rfl dX9_write_26 ?_
      refine x_iload_n dX9_write_29 1 rfl ?_
      refine x_callV (K := jX3_append) [.int l] lk_X9_259 ⟨⟨rfl, rfl⟩, Nat.le_of_ble_eq_true rfl, Nat.le_of_ble_eq_true rfl⟩ rfl rfl (mX3_append V l (by grind)) rfl (Nat.le_of_ble_eq_true rfl) rfl dX9_write_30 (kdV ?_)
      obtain ⟨U3, eU3⟩ : ∃ v_v : vM, v_v = if V 9 5 < 24 ∧ 0 ≤ l ∧ l ≤ 25 then uM (uM V 31 (V 9 5).toNatClampNeg l) 9 5 (V 9 5 + 1) else V := ⟨_, rfl⟩
      refine YY.V eU3.symm ?_
      have hz4 : U3 9 5 = V 9 5 + 1 := by rw [eU3]; exact apsz (by grind)
      refine x_aload_n dX9_write_33 0 rfl ?_
      refine x_getR fl_X9_53 rfl rfl dX9_write_34 ?_
      refine x_getI fl_X9_258 rfl rfl dX9_write_37 ?_
      refine x_topi (hz4) ?_
      refine x_iret dX9_write_40 rfl ?_
      rw [hQ]
      refine ⟨?_, ?_⟩
      · subst_vars; first | rfl | grind
      · congr 2; first | rfl | grind
    · refine x_ldc ct_X9_156 dX9_write_22 ?_
      refine x_iret dX9_write_24 rfl ?_
      rw [hQ]
      refine ⟨?_, ?_⟩
      · subst_vars; first | rfl | grind
      · congr 2; first | rfl | grind
  · have c1n : ¬ (0 ≤ l ∧ l ≤ 25) := iB_0.mp c1
    refine x_ldc ct_X9_111 dX9_write_7 ?_
    refine x_iret dX9_write_9 rfl ?_
    rw [hQ]
    refine ⟨?_, ?_⟩
    · subst_vars; first | rfl | grind
    · congr 2; first | rfl | grind
set_option maxHeartbeats 1000000 in
set_option maxRecDepth 100000 in
theorem mX9_erase {g : gX} (V : vM) : MM g jX9_erase V [.ref (g.2.1 0)] (dI (uM V 9 5 0) (V 9 5)) := by
  refine MM.of plX9_erase (Nat.le_of_ble_eq_true rfl) ?_
  obtain ⟨Q, hQ⟩ : ∃ Q : Option Value → vM → Prop, Q = (dI (uM V 9 5 0) (V 9 5)) := ⟨_, rfl⟩
  rw [← hQ]
  show XX g jX9_erase Q V 0 [(0, .ref (g.2.1 0))] []
  refine x_aload_n dX9_erase_0 0 rfl ?_
  refine x_getR fl_X9_53 rfl rfl dX9_erase_1 ?_
  refine x_getI fl_X9_258 rfl rfl dX9_erase_4 ?_
  refine x_istore_n 1 [(1, .int (V 9 5)), (0, .ref (g.2.1 0))] dX9_erase_7 rfl (by decide) rfl ?_
  refine x_aload_n dX9_erase_8 1 rfl ?_
  refine x_getR fl_X9_53 rfl rfl dX9_erase_9 ?_
  refine x_iconst (v := 0) dX9_erase_12 (by decide) ?_
  refine x_putI fp_X9_258 rfl rfl dX9_erase_13 ?_
  obtain ⟨U1, eU1⟩ : ∃ v_v : vM, v_v = uM V 9 5 0 := ⟨_, rfl⟩
  refine YY.V eU1.symm ?_
  refine x_iload_n dX9_erase_16 0 rfl ?_
  refine x_iret dX9_erase_17 rfl ?_
  rw [hQ]
  subst_vars
  exact ⟨rfl, rfl⟩
set_option maxHeartbeats 1000000 in
set_option maxRecDepth 100000 in
theorem mX9_arrange {g : gX} (V : vM) (o s md : Int32) : MM g jX9_arrange V [.ref (g.2.1 0), .int o, .int s, .int md] (dI (if (-20000 ≤ o ∧ o ≤ 100000) ∧ (-100 ≤ s ∧ s ≤ 1000) ∧ (0 ≤ md ∧ md ≤ 3) then uM (uM (uM V 9 7 o) 9 8 s) 9 9 md else V) (if (-20000 ≤ o ∧ o ≤ 100000) ∧ (-100 ≤ s ∧ s ≤ 1000) ∧ (0 ≤ md ∧ md ≤ 3) then V 9 5 else -1000002)) := by
  refine MM.of plX9_arrange (Nat.le_of_ble_eq_true rfl) ?_
  obtain ⟨Q, hQ⟩ : ∃ Q : Option Value → vM → Prop, Q = (dI (if (-20000 ≤ o ∧ o ≤ 100000) ∧ (-100 ≤ s ∧ s ≤ 1000) ∧ (0 ≤ md ∧ md ≤ 3) then uM (uM (uM V 9 7 o) 9 8 s) 9 9 md else V) (if (-20000 ≤ o ∧ o ≤ 100000) ∧ (-100 ≤ s ∧ s ≤ 1000) ∧ (0 ≤ md ∧ md ≤ 3) then V 9 5 else -1000002)) := ⟨_, rfl⟩
  rw [← hQ]
  show XX g jX9_arrange Q V 0 [(0, .ref (g.2.1 0)), (1, .int o), (2, .int s), (3, .int md)] []
  refine x_iload_n dX9_arrange_0 1 rfl ?_
  refine x_sipush (v := -20000) dX9_arrange_1 (by decide) ?_
  refine x_ldc ct_X9_229 dX9_arrange_4 ?_
  refine x_callS (K := jX9_between) [.int o, .int (-20000), .int 100000] lk_X9_129 ⟨⟨rfl, rfl⟩, Nat.le_of_ble_eq_true rfl, Nat.le_of_ble_eq_true rfl⟩ (mX9_between V o (-20000) 100000) rfl (Nat.le_of_ble_eq_true rfl) rfl dX9_arrange_6 (kpI ?_)
  refine x_if_eq 33 dX9_arrange_9 (by decide) (fun c1 => ?_) (fun c1 => ?_)
  · have c1n : ¬ ((-20000) ≤ o ∧ o ≤ 100000) := iB_0.mp c1
    refine x_ldc ct_X9_83 dX9_arrange_33 ?_
    refine x_iret dX9_arrange_35 rfl ?_
    rw [hQ]
    refine ⟨?_, ?_⟩
    · subst_vars; first | rfl | grind
    · congr 2; first | rfl | grind
  · have c1n : ((-20000) ≤ o ∧ o ≤ 100000) := Classical.not_not.mp (fun q => c1 (iB_0.mpr q))
    refine x_iload_n dX9_arrange_12 2 rfl ?_
    refine x_bipush (v := -100) dX9_arrange_13 (by decide) ?_
    refine x_sipush (v := 1000) dX9_arrange_15 (by decide) ?_
    refine x_callS (K := jX9_between) [.int s, .int (-100), .int 1000] lk_X9_129 ⟨⟨rfl, rfl⟩, Nat.le_of_ble_eq_true rfl, Nat.le_of_ble_eq_true rfl⟩ (mX9_between V s (-100) 1000) rfl (Nat.le_of_ble_eq_true rfl) rfl dX9_arrange_18 (kpI ?_)
    refine x_if_eq 33 dX9_arrange_21 (by decide) (fun c2 => ?_) (fun c2 => ?_)
    · have c2n : ¬ ((-100) ≤ s ∧ s ≤ 1000) := iB_0.mp c2
      refine x_ldc ct_X9_83 dX9_arrange_33 ?_
      refine x_iret dX9_arrange_35 rfl ?_
      rw [hQ]
      refine ⟨?_, ?_⟩
      · subst_vars; first | rfl | grind
      · congr 2; first | rfl | grind
    · have c2n : ((-100) ≤ s ∧ s ≤ 1000) := Classical.not_not.mp (fun q => c2 (iB_0.mpr q))
      refine x_iload_n dX9_arrange_24 3 rfl ?_
      refine x_iconst (v := 0) dX9_arrange_25 (by decide) ?_
      refine x_iconst (v := 3) dX9_arrange_26 (by decide) ?_
      refine x_callS (K := jX9_between) [.int md, .int 0, .int 3] lk_X9_129 ⟨⟨rfl, rfl⟩, Nat.le_of_ble_eq_true rfl, Nat.le_of_ble_eq_true rfl⟩ (mX9_between V md 0 3) rfl (Nat.le_of_ble_eq_true rfl) rfl dX9_arrange_27 (kpI ?_)
      refine x_if_ne 36 dX9_arrange_30 (by decide) (fun c3 => ?_) (fun c3 => ?_)
      · have c3n : (0 ≤ md ∧ md ≤ 3) := Classical.not_not.mp (fun q => c3 (iB_0.mpr q))
        refine x_aload_n dX9_arrange_36 0 rfl ?_
        refine x_getR fl_X9_53 rfl rfl dX9_arrange_37 ?_
        refine x_iload_n dX9_arrange_40 1 rfl ?_
        refine x_putI fp_X9_260 rfl rfl dX9_arrange_41 ?_
        obtain ⟨U4, eU4⟩ : ∃ v_v : vM, v_v = uM V 9 7 o := ⟨_, rfl⟩
        refine YY.V eU4.symm ?_
        refine x_aload_n dX9_arrange_44 0 rfl ?_
        refine x_getR fl_X9_53 rfl rfl dX9_arrange_45 ?_
        refine x_iload_n dX9_arrange_48 2 rfl ?_
        refine x_putI fp_X9_263 rfl rfl dX9_arrange_49 ?_
        obtain ⟨U5, eU5⟩ : ∃ v_v : vM, v_v = uM U4 9 8 s := ⟨_, rfl⟩
        refine YY.V eU5.symm ?_
        refine x_aload_n dX9_arrange_52 0 rfl ?_
        refine x_getR fl_X9_53 rfl rfl dX9_arrange_53 ?_
        refine x_iload_n dX9_arrange_56 3 rfl ?_
        refine x_putI fp_X9_266 rfl rfl dX9_arrange_57 ?_
        obtain ⟨U6, eU6⟩ : ∃ v_v : vM, v_v = uM U5 9 9 md := ⟨_, rfl⟩
        refine YY.V eU6.symm ?_
        refine x_aload_n dX9_arrange_60 0 rfl ?_
        refine x_getR fl_X9_53 rfl rfl dX9_arrange_61 ?_
        refine x_getI fl_X9_258 rfl rfl dX9_arrange_64 ?_
        refine x_topi (y := V 9 5) (by rw [eU6, uM_ni (by decide), eU5, uM_ni (by decide), eU4, uM_ni (by decide)]) ?_
        refine x_iret dX9_arrange_67 rfl ?_
        rw [hQ]
        refine ⟨?_, ?_⟩
        · subst_vars; first | rfl | grind
        · congr 2; first | rfl | grind
      · have c3n : ¬ (0 ≤ md ∧ md ≤ 3) := iB_0.mp c3
        refine x_ldc ct_X9_83 dX9_arrange_33 ?_
        refine x_iret dX9_arrange_35 rfl ?_
        rw [hQ]
        refine ⟨?_, ?_⟩
        · subst_vars; first | rfl | grind
        · congr 2; first | rfl | grind
set_option maxHeartbeats 1000000 in
set_option maxRecDepth 100000 in
theorem mX9_count {g : gX} (V : vM) (w : Int32) : MM g jX9_count V [.ref (g.2.1 0), .int w] (pI V (if w = 0 then V 1 2 else if w = 1 then V 1 3 else if w = 2 then V 0 11 else if w = 3 then V 10 2 else if w = 4 then V 9 5 else if w = 5 then V 8 4 else if w = 6 then V 9 6 else -1000002)) := by
  refine MM.of plX9_count (Nat.le_of_ble_eq_true rfl) ?_
  obtain ⟨Q, hQ⟩ : ∃ Q : Option Value → vM → Prop, Q = (pI V (if w = 0 then V 1 2 else if w = 1 then V 1 3 else if w = 2 then V 0 11 else if w = 3 then V 10 2 else if w = 4 then V 9 5 else if w = 5 then V 8 4 else if w = 6 then V 9 6 else -1000002)) := ⟨_, rfl⟩
  rw [← hQ]
  show XX g jX9_count Q V 0 [(0, .ref (g.2.1 0)), (1, .int w)] []
  refine x_iload_n dX9_count_0 1 rfl ?_
  by_cases c1 : w = 0
  · refine x_tableIn 44 dX9_count_1 (by rw [c1]; decide) (by rw [c1]; decide) (by rw [c1]; rfl) (by decide) ?_
    refine x_aload_n dX9_count_44 0 rfl ?_
    refine x_getR fl_X9_12 rfl rfl dX9_count_45 ?_
    refine x_getI fl_X9_104 rfl rfl dX9_count_48 ?_
    refine x_iret dX9_count_51 rfl ?_
    rw [hQ]
    refine ⟨rfl, ?_⟩
    simp [*]
  by_cases c2 : w = 1
  · refine x_tableIn 52 dX9_count_1 (by rw [c2]; decide) (by rw [c2]; decide) (by rw [c2]; rfl) (by decide) ?_
    refine x_aload_n dX9_count_52 0 rfl ?_
    refine x_getR fl_X9_12 rfl rfl dX9_count_53 ?_
    refine x_getI fl_X9_91 rfl rfl dX9_count_56 ?_
    refine x_iret dX9_count_59 rfl ?_
    rw [hQ]
    refine ⟨rfl, ?_⟩
    simp [*]
  by_cases c3 : w = 2
  · refine x_tableIn 60 dX9_count_1 (by rw [c3]; decide) (by rw [c3]; decide) (by rw [c3]; rfl) (by decide) ?_
    refine x_aload_n dX9_count_60 0 rfl ?_
    refine x_getI fl_X9_71 rfl rfl dX9_count_61 ?_
    refine x_iret dX9_count_64 rfl ?_
    rw [hQ]
    refine ⟨rfl, ?_⟩
    simp [*]
  by_cases c4 : w = 3
  · refine x_tableIn 65 dX9_count_1 (by rw [c4]; decide) (by rw [c4]; decide) (by rw [c4]; rfl) (by decide) ?_
    refine x_aload_n dX9_count_65 0 rfl ?_
    refine x_getR fl_X9_60 rfl rfl dX9_count_66 ?_
    refine x_getI fl_X9_155 rfl rfl dX9_count_69 ?_
    refine x_iret dX9_count_72 rfl ?_
    rw [hQ]
    refine ⟨rfl, ?_⟩
    simp [*]
  by_cases c5 : w = 4
  · refine x_tableIn 73 dX9_count_1 (by rw [c5]; decide) (by rw [c5]; decide) (by rw [c5]; rfl) (by decide) ?_
    refine x_aload_n dX9_count_73 0 rfl ?_
    refine x_getR fl_X9_53 rfl rfl dX9_count_74 ?_
    refine x_getI fl_X9_258 rfl rfl dX9_count_77 ?_
    refine x_iret dX9_count_80 rfl ?_
    rw [hQ]
    refine ⟨rfl, ?_⟩
    simp [*]
  by_cases c6 : w = 5
  · refine x_tableIn 81 dX9_count_1 (by rw [c6]; decide) (by rw [c6]; decide) (by rw [c6]; rfl) (by decide) ?_
    refine x_aload_n dX9_count_81 0 rfl ?_
    refine x_getR fl_X9_46 rfl rfl dX9_count_82 ?_
    refine x_getI fl_X9_230 rfl rfl dX9_count_85 ?_
    refine x_iret dX9_count_88 rfl ?_
    rw [hQ]
    refine ⟨rfl, ?_⟩
    simp [*]
  by_cases c7 : w = 6
  · refine x_tableIn 89 dX9_count_1 (by rw [c7]; decide) (by rw [c7]; decide) (by rw [c7]; rfl) (by decide) ?_
    refine x_aload_n dX9_count_89 0 rfl ?_
    refine x_getR fl_X9_53 rfl rfl dX9_count_90 ?_
    refine x_getI fl_X9_284 rfl rfl dX9_count_93 ?_
    refine x_iret dX9_count_96 rfl ?_
    rw [hQ]
    refine ⟨rfl, ?_⟩
    simp [*]
  refine x_tableOut 97 dX9_count_1 (by have q0 : ¬ w.toInt = 0 := fun q => c1 (Int32.toInt_inj.mp (q.trans (by decide))); have q1 : ¬ w.toInt = 1 := fun q => c2 (Int32.toInt_inj.mp (q.trans (by decide))); have q2 : ¬ w.toInt = 2 := fun q => c3 (Int32.toInt_inj.mp (q.trans (by decide))); have q3 : ¬ w.toInt = 3 := fun q => c4 (Int32.toInt_inj.mp (q.trans (by decide))); have q4 : ¬ w.toInt = 4 := fun q => c5 (Int32.toInt_inj.mp (q.trans (by decide))); have q5 : ¬ w.toInt = 5 := fun q => c6 (Int32.toInt_inj.mp (q.trans (by decide))); have q6 : ¬ w.toInt = 6 := fun q => c7 (Int32.toInt_inj.mp (q.trans (by decide))); omega) (by decide) ?_
  refine x_ldc ct_X9_83 dX9_count_97 ?_
  refine x_iret dX9_count_99 rfl ?_
  rw [hQ]
  refine ⟨rfl, ?_⟩
  simp [*]
