/-! the model: its small methods. The path is V 50 (seven numbers a command; 168: how many; 169: the tolerance) -/
/-- N commands lie in the row m: kinds in order, everything in range, what a kind has not is 0 -/
def WF (m : Nat → Int32) (N : Nat) : Prop := N ≤ 24 ∧ ∀ i, i < N → (0 ≤ m (i * 7) ∧ m (i * 7) ≤ 4) ∧ (m (i * 7) ≠ 0 → ∃ j, i = j + 1 ∧ m (j * 7) ≠ 4) ∧ (∀ p, 1 ≤ p → p < 7 → inR (m (i * 7 + p))) ∧
  ((m (i * 7) = 0 ∨ m (i * 7) = 1 ∨ m (i * 7) = 4 → m (i * 7 + 1) = 0 ∧ m (i * 7 + 2) = 0) ∧ (m (i * 7) = 0 ∨ m (i * 7) = 1 ∨ m (i * 7) = 2 ∨ m (i * 7) = 4 → m (i * 7 + 3) = 0 ∧ m (i * 7 + 4) = 0) ∧ (m (i * 7) = 4 → m (i * 7 + 5) = 0 ∧ m (i * 7 + 6) = 0))
/-- kinds of the row -/
def kd7 (m : Nat → Int32) : Nat → Int32 := fun i => m (i * 7)
/-- the MOVE of a command's contour -/
def mv7 (m : Nat → Int32) : Nat → Nat
  | 0 => 0
  | i + 1 => if m ((i + 1) * 7) = 0 then i + 1 else mv7 m i
theorem mv7_le (m : Nat → Int32) : ∀ i, mv7 m i ≤ i
  | 0 => Nat.le_refl 0
  | i + 1 => by
    unfold mv7
    split
    · exact Nat.le_refl _
    · exact Nat.le_succ_of_le (mv7_le m i)
def ex7 (m : Nat → Int32) (i : Nat) : Int32 := m ((if m (i * 7) = 4 then mv7 m i else i) * 7 + 5)
def ey7 (m : Nat → Int32) (i : Nat) : Int32 := m ((if m (i * 7) = 4 then mv7 m i else i) * 7 + 6)
theorem vp_lo {i : Int32} {N : Nat} (M : Int32) (h0 : N < 2 ^ 31) (hM : Int32.ofNat N = M) (h1 : 0 ≤ i ∧ i < M) : vp_in i N := vp_lit M h0 hM h1.1 h1.2
set_option maxHeartbeats 1000000 in
set_option maxRecDepth 100000 in
theorem mX10_in {g : gX} (V : vM) (v l u : Int32) : MM g jX10_in V [.int v, .int l, .int u] (pI V (iB (l ≤ v ∧ v ≤ u))) := by
  refine MM.of plX10_in (Nat.le_of_ble_eq_true rfl) ?_
  obtain ⟨Q, hQ⟩ : ∃ Q : Option Value → vM → Prop, Q = (pI V (iB (l ≤ v ∧ v ≤ u))) := ⟨_, rfl⟩
  rw [← hQ]
  show XX g jX10_in Q V 0 [(0, .int v), (1, .int l), (2, .int u)] []
  refine x_iload_n dX10_in_0 0 rfl ?_
  refine x_iload_n dX10_in_1 1 rfl ?_
  have jn3 : ∀ (z2 : Int32), ((v < l ∧ z2 = 0) ∨ (¬ v < l ∧ u < v ∧ z2 = 0) ∨ (¬ v < l ∧ ¬ u < v ∧ z2 = 1)) → XX g jX10_in Q V 15 [(0, .int v), (1, .int l), (2, .int u)] [.int z2] := by
    intro z2 hj4
    refine x_zret dX10_in_15 rfl (by exact nar01 (by first | exact Or.inl rfl | exact Or.inr rfl | grind)) ?_
    rw [hQ]
    refine ⟨rfl, ?_⟩
    congr 2
    unfold iB
    grind
  refine x_icmp_lt 14 dX10_in_2 (by decide) (fun c1 => ?_) (fun c1 => ?_)
  · refine x_iconst (v := 0) dX10_in_14 (by decide) ?_
    exact jn3 _ (Or.inl ⟨c1, rfl⟩)
  · refine x_iload_n dX10_in_5 0 rfl ?_
    refine x_iload_n dX10_in_6 2 rfl ?_
    refine x_icmp_gt 14 dX10_in_7 (by decide) (fun c6 => ?_) (fun c6 => ?_)
    · refine x_iconst (v := 0) dX10_in_14 (by decide) ?_
      exact jn3 _ (Or.inr (Or.inl ⟨c1, c6, rfl⟩))
    · refine x_iconst (v := 1) dX10_in_10 (by decide) ?_
      refine x_goto 15 dX10_in_11 (by decide) ?_
      exact jn3 _ (Or.inr (Or.inr ⟨c1, c6, rfl⟩))
set_option maxHeartbeats 1000000 in
set_option maxRecDepth 100000 in
theorem mX10_isPlace {g : gX} (V : vM) (v : Int32) : MM g jX10_isPlace V [.int v] (pI V (iB (-4000 ≤ v ∧ v ≤ 4000))) := by
  refine MM.of plX10_isPlace (Nat.le_of_ble_eq_true rfl) ?_
  obtain ⟨Q, hQ⟩ : ∃ Q : Option Value → vM → Prop, Q = (pI V (iB (-4000 ≤ v ∧ v ≤ 4000))) := ⟨_, rfl⟩
  rw [← hQ]
  show XX g jX10_isPlace Q V 0 [(0, .int v)] []
  refine x_iload_n dX10_isPlace_0 0 rfl ?_
  refine x_sipush (v := -4000) dX10_isPlace_1 (by decide) ?_
  refine x_sipush (v := 4000) dX10_isPlace_4 (by decide) ?_
  refine x_callS (K := jX10_in) [.int v, .int (-4000), .int 4000] lk_X10_80 ⟨⟨rfl, rfl⟩, Nat.le_of_ble_eq_true rfl, Nat.le_of_ble_eq_true rfl⟩ (mX10_in V v (-4000) 4000) rfl (Nat.le_of_ble_eq_true rfl) rfl dX10_isPlace_7 (kpI ?_)
  refine x_zret dX10_isPlace_10 rfl (by exact nar01 (by first | exact Or.inl rfl | exact Or.inr rfl | grind)) ?_
  rw [hQ]
  exact ⟨rfl, rfl⟩
set_option maxHeartbeats 1000000 in
set_option maxRecDepth 100000 in
theorem mX10_size {g : gX} (V : vM) (v : Int32) : MM g jX10_size V [.int v] (pI V (if v < 0 then -v else v)) := by
  refine MM.of plX10_size (Nat.le_of_ble_eq_true rfl) ?_
  obtain ⟨Q, hQ⟩ : ∃ Q : Option Value → vM → Prop, Q = (pI V (if v < 0 then -v else v)) := ⟨_, rfl⟩
  rw [← hQ]
  show XX g jX10_size Q V 0 [(0, .int v)] []
  refine x_iload_n dX10_size_0 0 rfl ?_
  have jn3 : ∀ (z2 : Int32), ((0 ≤ v ∧ z2 = v) ∨ (¬ 0 ≤ v ∧ z2 = -v)) → XX g jX10_size Q V 10 [(0, .int v)] [.int z2] := by
    intro z2 hj4
    refine x_iret dX10_size_10 rfl ?_
    rw [hQ]
    refine ⟨rfl, ?_⟩
    congr 2
    grind
  refine x_if_ge 9 dX10_size_1 (by decide) (fun c1 => ?_) (fun c1 => ?_)
  · refine x_iload_n dX10_size_9 0 rfl ?_
    exact jn3 _ (Or.inl ⟨c1, rfl⟩)
  · refine x_iload_n dX10_size_4 0 rfl ?_
    refine x_ineg dX10_size_5 ?_
    refine x_goto 10 dX10_size_6 (by decide) ?_
    exact jn3 _ (Or.inr ⟨c1, rfl⟩)
set_option maxHeartbeats 1000000 in
set_option maxRecDepth 100000 in
theorem mX10_isLetter {g : gX} (V : vM) (v : Int32) : MM g jX10_isLetter V [.int v] (pI V (iB (0 ≤ v ∧ v ≤ 25))) := by
  refine MM.of plX10_isLetter (Nat.le_of_ble_eq_true rfl) ?_
  obtain ⟨Q, hQ⟩ : ∃ Q : Option Value → vM → Prop, Q = (pI V (iB (0 ≤ v ∧ v ≤ 25))) := ⟨_, rfl⟩
  rw [← hQ]
  show XX g jX10_isLetter Q V 0 [(0, .int v)] []
  refine x_iload_n dX10_isLetter_0 0 rfl ?_
  refine x_iconst (v := 0) dX10_isLetter_1 (by decide) ?_
  refine x_bipush (v := 25) dX10_isLetter_2 (by decide) ?_
  refine x_callS (K := jX10_in) [.int v, .int 0, .int 25] lk_X10_80 ⟨⟨rfl, rfl⟩, Nat.le_of_ble_eq_true rfl, Nat.le_of_ble_eq_true rfl⟩ (mX10_in V v 0 25) rfl (Nat.le_of_ble_eq_true rfl) rfl dX10_isLetter_4 (kpI ?_)
  refine x_zret dX10_isLetter_7 rfl (by exact nar01 (by first | exact Or.inl rfl | exact Or.inr rfl | grind)) ?_
  rw [hQ]
  exact ⟨rfl, rfl⟩
set_option maxHeartbeats 1000000 in
set_option maxRecDepth 100000 in
theorem mX10_mid {g : gX} (V : vM) (a b : Int32) : MM g jX10_mid V [.int a, .int b] (pI V ((a + b) >>> 1)) := by
  refine MM.of plX10_mid (Nat.le_of_ble_eq_true rfl) ?_
  obtain ⟨Q, hQ⟩ : ∃ Q : Option Value → vM → Prop, Q = (pI V ((a + b) >>> 1)) := ⟨_, rfl⟩
  rw [← hQ]
  show XX g jX10_mid Q V 0 [(0, .int a), (1, .int b)] []
  refine x_iload_n dX10_mid_0 0 rfl ?_
  refine x_iload_n dX10_mid_1 1 rfl ?_
  refine x_iadd dX10_mid_2 ?_
  refine x_iconst (v := 1) dX10_mid_3 (by decide) ?_
  refine x_ishr dX10_mid_4 ?_
  refine x_iret dX10_mid_5 rfl ?_
  rw [hQ]
  exact ⟨rfl, rfl⟩
set_option maxHeartbeats 1000000 in
set_option maxRecDepth 100000 in
theorem mX10_many {g : gX} (V : vM) : MM g jX10_many V [.ref (g.2.1 49)] (pI V (V 50 168)) := by
  refine MM.of plX10_many (Nat.le_of_ble_eq_true rfl) ?_
  obtain ⟨Q, hQ⟩ : ∃ Q : Option Value → vM → Prop, Q = (pI V (V 50 168)) := ⟨_, rfl⟩
  rw [← hQ]
  show XX g jX10_many Q V 0 [(0, .ref (g.2.1 49))] []
  refine x_aload_n dX10_many_0 0 rfl ?_
  refine x_getR fl_X10_9 rfl rfl dX10_many_1 ?_
  refine x_sipush (v := 168) dX10_many_4 (by decide) ?_
  have q1 : (168 : Int32) = nI 168 := rfl
  refine YY.S (st' := [.int (nI 168), .ref (g.2.1 50)]) (by rw [q1]) ?_
  have b2 : vp_in (nI 168) 170 := by exact vp_in_nI (by omega) (by decide)
  refine x_iald rfl b2 dX10_many_7 ?_
  refine x_topi (y := V 50 168) (by rw [nI_clamp (by omega)]) ?_
  refine x_iret dX10_many_8 rfl ?_
  rw [hQ]
  exact ⟨rfl, rfl⟩
set_option maxHeartbeats 1000000 in
set_option maxRecDepth 100000 in
theorem mX10_kind {g : gX} (V : vM) (i : Nat) (hi : i < 24) : MM g jX10_kind V [.ref (g.2.1 49), .int (nI i)] (pI V (V 50 (i * 7))) := by
  refine MM.of plX10_kind (Nat.le_of_ble_eq_true rfl) ?_
  obtain ⟨Q, hQ⟩ : ∃ Q : Option Value → vM → Prop, Q = (pI V (V 50 (i * 7))) := ⟨_, rfl⟩
  rw [← hQ]
  show XX g jX10_kind Q V 0 [(0, .ref (g.2.1 49)), (1, .int (nI i))] []
  refine x_aload_n dX10_kind_0 0 rfl ?_
  refine x_getR fl_X10_9 rfl rfl dX10_kind_1 ?_
  refine x_bipush (v := 7) dX10_kind_4 (by decide) ?_
  refine x_iload_n dX10_kind_6 1 rfl ?_
  refine x_imul dX10_kind_7 ?_
  have q1 : (7 * (nI i) : Int32) = nI (7 * i) := nmul (rfl) (rfl)
  refine YY.S (st' := [.int (nI (7 * i)), .ref (g.2.1 50)]) (by rw [q1]) ?_
  have b2 : vp_in (nI (7 * i)) 170 := by exact vp_in_nI (by omega) (by decide)
  refine x_iald rfl b2 dX10_kind_8 ?_
  refine x_topi (y := V 50 (7 * i)) (by rw [nI_clamp (by omega)]) ?_
  refine x_iret dX10_kind_9 rfl ?_
  rw [hQ]
  exact ⟨rfl, by rw [Nat.mul_comm]⟩
/-- the model's append on the cells -/
def mad (V : vM) (N : Nat) (kd ax ay bx by_ x y : Int32) : vM := uM (uM (uM (uM (uM (uM (uM (uM V 50 (7 * N) kd) 50 (7 * N + 1) ax) 50 (7 * N + 2) ay) 50 (7 * N + 3) bx) 50 (7 * N + 4) by_) 50 (7 * N + 5) x) 50 (7 * N + 6) y) 50 168 (nI (N + 1))
abbrev inR6 (a b c d e f : Int32) : Prop := (-4000 ≤ a ∧ a ≤ 4000) ∧ (-4000 ≤ b ∧ b ≤ 4000) ∧ (-4000 ≤ c ∧ c ≤ 4000) ∧ (-4000 ≤ d ∧ d ≤ 4000) ∧ (-4000 ≤ e ∧ e ≤ 4000) ∧ (-4000 ≤ f ∧ f ≤ 4000)
def mapZ (V : vM) (N : Nat) (kd ax ay bx by_ x y : Int32) : Int32 := if ¬ inR6 ax ay bx by_ x y then -1000002 else if ¬ kd = 0 ∧ ¬ (0 < N ∧ ¬ V 50 ((N - 1) * 7) = 4) then -1000005 else if N = 24 then -1000004 else nI (N + 1)
def mapV (V : vM) (N : Nat) (kd ax ay bx by_ x y : Int32) : vM := if ¬ inR6 ax ay bx by_ x y then V else if ¬ kd = 0 ∧ ¬ (0 < N ∧ ¬ V 50 ((N - 1) * 7) = 4) then V else if N = 24 then V else mad V N kd ax ay bx by_ x y
/-- whether a command of a kind other than MOVE may come -/
abbrev mop (V : vM) (N : Nat) : Prop := 0 < N ∧ ¬ V 50 ((N - 1) * 7) = 4
set_option maxHeartbeats 1000000 in
set_option maxRecDepth 100000 in
theorem mX10_append {g : gX} (V : vM) (N : Nat) (hN : N ≤ 24) (hm : V 50 168 = nI N) (kd ax ay bx by_ x y : Int32) : MM g jX10_append V [.ref (g.2.1 49), .int kd, .int ax, .int ay, .int bx, .int by_, .int x, .int y] (dI (mapV V N kd ax ay bx by_ x y) (mapZ V N kd ax ay bx by_ x y)) := by
  refine MM.of plX10_append (Nat.le_of_ble_eq_true rfl) ?_
  obtain ⟨Q, hQ⟩ : ∃ Q : Option Value → vM → Prop, Q = (dI (mapV V N kd ax ay bx by_ x y) (mapZ V N kd ax ay bx by_ x y)) := ⟨_, rfl⟩
  rw [← hQ]
  show XX g jX10_append Q V 0 [(0, .ref (g.2.1 49)), (1, .int kd), (2, .int ax), (3, .int ay), (4, .int bx), (5, .int by_), (6, .int x), (7, .int y)] []
  refine x_iload_n dX10_append_0 2 rfl ?_
  refine x_callS (K := jX10_isPlace) [.int ax] lk_X10_84 ⟨⟨rfl, rfl⟩, Nat.le_of_ble_eq_true rfl, Nat.le_of_ble_eq_true rfl⟩ (mX10_isPlace V ax) rfl (Nat.le_of_ble_eq_true rfl) rfl dX10_append_1 (kpI ?_)
  refine x_if_eq 46 dX10_append_4 (by decide) (fun c1 => ?_) (fun c1 => ?_)
  · have c1n : ¬ (-4000 ≤ ax ∧ ax ≤ 4000) := iB_0.mp c1
    refine x_ldc ct_X10_88 dX10_append_46 ?_
    refine x_iret dX10_append_48 rfl ?_
    rw [hQ]
    refine ⟨?_, ?_⟩
    · subst_vars; unfold mapV; first | (rw [if_neg (by grind), if_neg (by grind), if_neg (by grind)]; simp only [nI_1]; rfl) | grind
    · unfold mapZ; congr 2; grind [nI_1]
  · have c1n : (-4000 ≤ ax ∧ ax ≤ 4000) := Classical.not_not.mp (fun q => c1 (iB_0.mpr q))
    refine x_iload_n dX10_append_7 3 rfl ?_
    refine x_callS (K := jX10_isPlace) [.int ay] lk_X10_84 ⟨⟨rfl, rfl⟩, Nat.le_of_ble_eq_true rfl, Nat.le_of_ble_eq_true rfl⟩ (mX10_isPlace V ay) rfl (Nat.le_of_ble_eq_true rfl) rfl dX10_append_8 (kpI ?_)
    refine x_if_eq 46 dX10_append_11 (by decide) (fun c2 => ?_) (fun c2 => ?_)
    · have c2n : ¬ (-4000 ≤ ay ∧ ay ≤ 4000) := iB_0.mp c2
      refine x_ldc ct_X10_88 dX10_append_46 ?_
      refine x_iret dX10_append_48 rfl ?_
      rw [hQ]
      refine ⟨?_, ?_⟩
      · subst_vars; unfold mapV; first | (rw [if_neg (by grind), if_neg (by grind), if_neg (by grind)]; simp only [nI_1]; rfl) | grind
      · unfold mapZ; congr 2; grind [nI_1]
    · have c2n : (-4000 ≤ ay ∧ ay ≤ 4000) := Classical.not_not.mp (fun q => c2 (iB_0.mpr q))
      refine x_iload dX10_append_14 4 rfl ?_
      refine x_callS (K := jX10_isPlace) [.int bx] lk_X10_84 ⟨⟨rfl, rfl⟩, Nat.le_of_ble_eq_true rfl, Nat.le_of_ble_eq_true rfl⟩ (mX10_isPlace V bx) rfl (Nat.le_of_ble_eq_true rfl) rfl dX10_append_16 (kpI ?_)
      refine x_if_eq 46 dX10_append_19 (by decide) (fun c3 => ?_) (fun c3 => ?_)
      · have c3n : ¬ (-4000 ≤ bx ∧ bx ≤ 4000) := iB_0.mp c3
        refine x_ldc ct_X10_88 dX10_append_46 ?_
        refine x_iret dX10_append_48 rfl ?_
        rw [hQ]
        refine ⟨?_, ?_⟩
        · subst_vars; unfold mapV; first | (rw [if_neg (by grind), if_neg (by grind), if_neg (by grind)]; simp only [nI_1]; rfl) | grind
        · unfold mapZ; congr 2; grind [nI_1]
      · have c3n : (-4000 ≤ bx ∧ bx ≤ 4000) := Classical.not_not.mp (fun q => c3 (iB_0.mpr q))
        refine x_iload dX10_append_22 5 rfl ?_
        refine x_callS (K := jX10_isPlace) [.int by_] lk_X10_84 ⟨⟨rfl, rfl⟩, Nat.le_of_ble_eq_true rfl, Nat.le_of_ble_eq_true rfl⟩ (mX10_isPlace V by_) rfl (Nat.le_of_ble_eq_true rfl) rfl dX10_append_24 (kpI ?_)
        refine x_if_eq 46 dX10_append_27 (by decide) (fun c4 => ?_) (fun c4 => ?_)
        · have c4n : ¬ (-4000 ≤ by_ ∧ by_ ≤ 4000) := iB_0.mp c4
          refine x_ldc ct_X10_88 dX10_append_46 ?_
          refine x_iret dX10_append_48 rfl ?_
          rw [hQ]
          refine ⟨?_, ?_⟩
          · subst_vars; unfold mapV; first | (rw [if_neg (by grind), if_neg (by grind), if_neg (by grind)]; simp only [nI_1]; rfl) | grind
          · unfold mapZ; congr 2; grind [nI_1]
        · have c4n : (-4000 ≤ by_ ∧ by_ ≤ 4000) := Classical.not_not.mp (fun q => c4 (iB_0.mpr q))
          refine x_iload dX10_append_30 6 rfl ?_
          refine x_callS (K := jX10_isPlace) [.int x] lk_X10_84 ⟨⟨rfl, rfl⟩, Nat.le_of_ble_eq_true rfl, Nat.le_of_ble_eq_true rfl⟩ (mX10_isPlace V x) rfl (Nat.le_of_ble_eq_true rfl) rfl dX10_append_32 (kpI ?_)
          refine x_if_eq 46 dX10_append_35 (by decide) (fun c5 => ?_) (fun c5 => ?_)
          · have c5n : ¬ (-4000 ≤ x ∧ x ≤ 4000) := iB_0.mp c5
            refine x_ldc ct_X10_88 dX10_append_46 ?_
            refine x_iret dX10_append_48 rfl ?_
            rw [hQ]
            refine ⟨?_, ?_⟩
            · subst_vars; unfold mapV; first | (rw [if_neg (by grind), if_neg (by grind), if_neg (by grind)]; simp only [nI_1]; rfl) | grind
            · unfold mapZ; congr 2; grind [nI_1]
          · have c5n : (-4000 ≤ x ∧ x ≤ 4000) := Classical.not_not.mp (fun q => c5 (iB_0.mpr q))
            refine x_iload dX10_append_38 7 rfl ?_
            refine x_callS (K := jX10_isPlace) [.int y] lk_X10_84 ⟨⟨rfl, rfl⟩, Nat.le_of_ble_eq_true rfl, Nat.le_of_ble_eq_true rfl⟩ (mX10_isPlace V y) rfl (Nat.le_of_ble_eq_true rfl) rfl dX10_append_40 (kpI ?_)
            refine x_if_ne 49 dX10_append_43 (by decide) (fun c6 => ?_) (fun c6 => ?_)
            · have c6n : (-4000 ≤ y ∧ y ≤ 4000) := Classical.not_not.mp (fun q => c6 (iB_0.mpr q))
              refine x_iload_n dX10_append_49 1 rfl ?_
              refine x_if_eq 77 dX10_append_50 (by decide) (fun c7 => ?_) (fun c7 => ?_)
              · refine x_aload_n dX10_append_77 0 rfl ?_
                refine x_callV (K := jX10_many) [] lk_X10_89 ⟨⟨rfl, rfl⟩, Nat.le_of_ble_eq_true rfl, Nat.le_of_ble_eq_true rfl⟩ rfl rfl (mX10_many V) rfl (Nat.le_of_ble_eq_true rfl) rfl dX10_append_78 (kpI ?_)
                refine x_topi (hm) ?_
                refine x_bipush (v := 24) dX10_append_81 (by decide) ?_
                refine x_icmp_ne 89 dX10_append_83 (by decide) (fun c8 => ?_) (fun c8 => ?_)
                · have c8n : ¬ N = 24 := fun q => c8 ((nl_eq (a := N) (b := 24) (rfl) (rfl) (by omega) (by omega)).mpr q)
                  refine x_bipush (v := 7) dX10_append_89 (by decide) ?_
                  refine x_aload_n dX10_append_91 0 rfl ?_
                  refine x_callV (K := jX10_many) [] lk_X10_89 ⟨⟨rfl, rfl⟩, Nat.le_of_ble_eq_true rfl, Nat.le_of_ble_eq_true rfl⟩ rfl rfl (mX10_many V) rfl (Nat.le_of_ble_eq_true rfl) rfl dX10_append_92 (kpI ?_)
                  refine x_topi (hm) ?_
                  refine x_imul dX10_append_95 ?_
                  refine x_istore 8 [(8, .int (7 * (nI N))), (0, .ref (g.2.1 49)), (1, .int kd), (2, .int ax), (3, .int ay), (4, .int bx), (5, .int by_), (6, .int x), (7, .int y)] dX10_append_96 (by decide) rfl ?_
                  refine x_aload_n dX10_append_98 1 rfl ?_
                  refine x_getR fl_X10_9 rfl rfl dX10_append_99 ?_
                  refine x_iload dX10_append_102 0 rfl ?_
                  refine x_iload_n dX10_append_104 2 rfl ?_
                  have q9 : (7 * (nI N) : Int32) = nI (7 * N) := nmul (rfl) (rfl)
                  refine YY.S (st' := [.int kd, .int (nI (7 * N)), .ref (g.2.1 50)]) (by rw [q9]) ?_
                  have b10 : vp_in (nI (7 * N)) 170 := by exact vp_in_nI (by omega) (by decide)
                  refine x_iast rfl b10 dX10_append_105 ?_
                  refine YY.V (V' := uM V 50 (7 * N) kd) (by rw [nI_clamp (by omega)]) ?_
                  obtain ⟨U11, eU11⟩ : ∃ v_v : vM, v_v = uM V 50 (7 * N) kd := ⟨_, rfl⟩
                  refine YY.V eU11.symm ?_
                  refine x_aload_n dX10_append_106 1 rfl ?_
                  refine x_getR fl_X10_9 rfl rfl dX10_append_107 ?_
                  refine x_iload dX10_append_110 0 rfl ?_
                  refine x_iconst (v := 1) dX10_append_112 (by decide) ?_
                  refine x_iadd dX10_append_113 ?_
                  refine x_iload_n dX10_append_114 3 rfl ?_
                  have q12 : ((7 * (nI N)) + 1 : Int32) = nI ((7 * N) + 1) := nadd (nmul (rfl) (rfl)) (rfl)
                  refine YY.S (st' := [.int ax, .int (nI ((7 * N) + 1)), .ref (g.2.1 50)]) (by rw [q12]) ?_
                  have b13 : vp_in (nI ((7 * N) + 1)) 170 := by exact vp_in_nI (by omega) (by decide)
                  refine x_iast rfl b13 dX10_append_115 ?_
                  refine YY.V (V' := uM U11 50 ((7 * N) + 1) ax) (by rw [nI_clamp (by omega)]) ?_
                  obtain ⟨U14, eU14⟩ : ∃ v_v : vM, v_v = uM U11 50 ((7 * N) + 1) ax := ⟨_, rfl⟩
                  refine YY.V eU14.symm ?_
                  refine x_aload_n dX10_append_116 1 rfl ?_
                  refine x_getR fl_X10_9 rfl rfl dX10_append_117 ?_
                  refine x_iload dX10_append_120 0 rfl ?_
                  refine x_iconst (v := 2) dX10_append_122 (by decide) ?_
                  refine x_iadd dX10_append_123 ?_
                  refine x_iload_n dX10_append_124 4 rfl ?_
                  have q15 : ((7 * (nI N)) + 2 : Int32) = nI ((7 * N) + 2) := nadd (nmul (rfl) (rfl)) (rfl)
                  refine YY.S (st' := [.int ay, .int (nI ((7 * N) + 2)), .ref (g.2.1 50)]) (by rw [q15]) ?_
                  have b16 : vp_in (nI ((7 * N) + 2)) 170 := by exact vp_in_nI (by omega) (by decide)
                  refine x_iast rfl b16 dX10_append_125 ?_
                  refine YY.V (V' := uM U14 50 ((7 * N) + 2) ay) (by rw [nI_clamp (by omega)]) ?_
                  obtain ⟨U17, eU17⟩ : ∃ v_v : vM, v_v = uM U14 50 ((7 * N) + 2) ay := ⟨_, rfl⟩
                  refine YY.V eU17.symm ?_
                  refine x_aload_n dX10_append_126 1 rfl ?_
                  refine x_getR fl_X10_9 rfl rfl dX10_append_127 ?_
                  refine x_iload dX10_append_130 0 rfl ?_
                  refine x_iconst (v := 3) dX10_append_132 (by decide) ?_
                  refine x_iadd dX10_append_133 ?_
                  refine x_iload dX10_append_134 5 rfl ?_
                  have q18 : ((7 * (nI N)) + 3 : Int32) = nI ((7 * N) + 3) := nadd (nmul (rfl) (rfl)) (rfl)
                  refine YY.S (st' := [.int bx, .int (nI ((7 * N) + 3)), .ref (g.2.1 50)]) (by rw [q18]) ?_
                  have b19 : vp_in (nI ((7 * N) + 3)) 170 := by exact vp_in_nI (by omega) (by decide)
                  refine x_iast rfl b19 dX10_append_136 ?_
                  refine YY.V (V' := uM U17 50 ((7 * N) + 3) bx) (by rw [nI_clamp (by omega)]) ?_
                  obtain ⟨U20, eU20⟩ : ∃ v_v : vM, v_v = uM U17 50 ((7 * N) + 3) bx := ⟨_, rfl⟩
                  refine YY.V eU20.symm ?_
                  refine x_aload_n dX10_append_137 1 rfl ?_
                  refine x_getR fl_X10_9 rfl rfl dX10_append_138 ?_
                  refine x_iload dX10_append_141 0 rfl ?_
                  refine x_iconst (v := 4) dX10_append_143 (by decide) ?_
                  refine x_iadd dX10_append_144 ?_
                  refine x_iload dX10_append_145 6 rfl ?_
                  have q21 : ((7 * (nI N)) + 4 : Int32) = nI ((7 * N) + 4) := nadd (nmul (rfl) (rfl)) (rfl)
                  refine YY.S (st' := [.int by_, .int (nI ((7 * N) + 4)), .ref (g.2.1 50)]) (by rw [q21]) ?_
                  have b22 : vp_in (nI ((7 * N) + 4)) 170 := by exact vp_in_nI (by omega) (by decide)
                  refine x_iast rfl b22 dX10_append_147 ?_
                  refine YY.V (V' := uM U20 50 ((7 * N) + 4) by_) (by rw [nI_clamp (by omega)]) ?_
                  obtain ⟨U23, eU23⟩ : ∃ v_v : vM, v_v = uM U20 50 ((7 * N) + 4) by_ := ⟨_, rfl⟩
                  refine YY.V eU23.symm ?_
                  refine x_aload_n dX10_append_148 1 rfl ?_
                  refine x_getR fl_X10_9 rfl rfl dX10_append_149 ?_
                  refine x_iload dX10_append_152 0 rfl ?_
                  refine x_iconst (v := 5) dX10_append_154 (by decide) ?_
                  refine x_iadd dX10_append_155 ?_
                  refine x_iload dX10_append_156 7 rfl ?_
                  have q24 : ((7 * (nI N)) + 5 : Int32) = nI ((7 * N) + 5) := nadd (nmul (rfl) (rfl)) (rfl)
                  refine YY.S (st' := [.int x, .int (nI ((7 * N) + 5)), .ref (g.2.1 50)]) (by rw [q24]) ?_
                  have b25 : vp_in (nI ((7 * N) + 5)) 170 := by exact vp_in_nI (by omega) (by decide)
                  refine x_iast rfl b25 dX10_append_158 ?_
                  refine YY.V (V' := uM U23 50 ((7 * N) + 5) x) (by rw [nI_clamp (by omega)]) ?_
                  obtain ⟨U26, eU26⟩ : ∃ v_v : vM, v_v = uM U23 50 ((7 * N) + 5) x := ⟨_, rfl⟩
                  refine YY.V eU26.symm ?_
                  refine x_aload_n dX10_append_159 1 rfl ?_
                  refine x_getR fl_X10_9 rfl rfl dX10_append_160 ?_
                  refine x_iload dX10_append_163 0 rfl ?_
                  refine x_bipush (v := 6) dX10_append_165 (by decide) ?_
                  refine x_iadd dX10_append_167 ?_
                  refine x_iload dX10_append_168 8 rfl ?_
                  have q27 : ((7 * (nI N)) + 6 : Int32) = nI ((7 * N) + 6) := nadd (nmul (rfl) (rfl)) (rfl)
                  refine YY.S (st' := [.int y, .int (nI ((7 * N) + 6)), .ref (g.2.1 50)]) (by rw [q27]) ?_
                  have b28 : vp_in (nI ((7 * N) + 6)) 170 := by exact vp_in_nI (by omega) (by decide)
                  refine x_iast rfl b28 dX10_append_170 ?_
                  refine YY.V (V' := uM U26 50 ((7 * N) + 6) y) (by rw [nI_clamp (by omega)]) ?_
                  obtain ⟨U29, eU29⟩ : ∃ v_v : vM, v_v = uM U26 50 ((7 * N) + 6) y := ⟨_, rfl⟩
                  refine YY.V eU29.symm ?_
                  refine x_aload_n dX10_append_171 1 rfl ?_
                  refine x_getR fl_X10_9 rfl rfl dX10_append_172 ?_
                  refine x_sipush (v := 168) dX10_append_175 (by decide) ?_
                  refine x_dup2 dX10_append_178 rfl rfl ?_
                  have q30 : (168 : Int32) = nI 168 := rfl
                  refine YY.S (st' := [.int (nI 168), .ref (g.2.1 50), .int 168, .ref (g.2.1 50)]) (by rw [q30]) ?_
                  have b31 : vp_in (nI 168) 170 := by exact vp_in_nI (by omega) (by decide)
                  refine x_iald rfl b31 dX10_append_179 ?_
                  refine x_topi (y := U29 50 168) (by rw [nI_clamp (by omega)]) ?_
                  refine x_topi (y := V 50 168) (by rw [eU29, uM_ni (by omega), eU26, uM_ni (by omega), eU23, uM_ni (by omega), eU20, uM_ni (by omega), eU17, uM_ni (by omega), eU14, uM_ni (by omega), eU11, uM_ni (by omega)]) ?_
                  refine x_topi (hm) ?_
                  refine x_iconst (v := 1) dX10_append_180 (by decide) ?_
                  refine x_iadd dX10_append_181 ?_
                  have q32 : (168 : Int32) = nI 168 := rfl
                  refine YY.S (st' := [.int ((nI N) + 1), .int (nI 168), .ref (g.2.1 50)]) (by rw [q32]) ?_
                  have b33 : vp_in (nI 168) 170 := by exact vp_in_nI (by omega) (by decide)
                  refine x_iast rfl b33 dX10_append_182 ?_
                  refine YY.V (V' := uM U29 50 168 ((nI N) + 1)) (by rw [nI_clamp (by omega)]) ?_
                  obtain ⟨U34, eU34⟩ : ∃ v_v : vM, v_v = uM U29 50 168 ((nI N) + 1) := ⟨_, rfl⟩
                  refine YY.V eU34.symm ?_
                  refine x_aload_n dX10_append_183 1 rfl ?_
                  refine x_callV (K := jX10_many) [] lk_X10_89 ⟨⟨rfl, rfl⟩, Nat.le_of_ble_eq_true rfl, Nat.le_of_ble_eq_true rfl⟩ rfl rfl (mX10_many U34) rfl (Nat.le_of_ble_eq_true rfl) rfl dX10_append_184 (kpI ?_)
                  refine x_topi (y := (nI N) + 1) (by rw [eU34, uM_hit]) ?_
                  refine x_iret dX10_append_187 rfl ?_
                  rw [hQ]
                  refine ⟨?_, ?_⟩
                  · subst_vars; unfold mapV; first | (rw [if_neg (by grind), if_neg (by grind), if_neg (by grind)]; simp only [nI_1]; rfl) | grind
                  · unfold mapZ; congr 2; grind [nI_1]
                · have c8n : N = 24 := (nl_eq (a := N) (b := 24) (rfl) (rfl) (by omega) (by omega)).mp c8
                  refine x_ldc ct_X10_98 dX10_append_86 ?_
                  refine x_iret dX10_append_88 rfl ?_
                  rw [hQ]
                  refine ⟨?_, ?_⟩
                  · subst_vars; unfold mapV; first | (rw [if_neg (by grind), if_neg (by grind), if_neg (by grind)]; simp only [nI_1]; rfl) | grind
                  · unfold mapZ; congr 2; grind [nI_1]
              · refine x_aload_n dX10_append_53 0 rfl ?_
                refine x_callV (K := jX10_many) [] lk_X10_89 ⟨⟨rfl, rfl⟩, Nat.le_of_ble_eq_true rfl, Nat.le_of_ble_eq_true rfl⟩ rfl rfl (mX10_many V) rfl (Nat.le_of_ble_eq_true rfl) rfl dX10_append_54 (kpI ?_)
                refine x_topi (hm) ?_
                refine x_if_eq 74 dX10_append_57 (by decide) (fun c35 => ?_) (fun c35 => ?_)
                · have c35n : N = 0 := (nl_eq (a := N) (b := 0) (rfl) (rfl) (by omega) (by omega)).mp c35
                  refine x_ldc ct_X10_97 dX10_append_74 ?_
                  refine x_iret dX10_append_76 rfl ?_
                  rw [hQ]
                  refine ⟨?_, ?_⟩
                  · subst_vars; unfold mapV; first | (rw [if_neg (by grind), if_neg (by grind), if_neg (by grind)]; simp only [nI_1]; rfl) | grind
                  · unfold mapZ; congr 2; grind [nI_1]
                · have c35n : ¬ N = 0 := fun q => c35 ((nl_eq (a := N) (b := 0) (rfl) (rfl) (by omega) (by omega)).mpr q)
                  refine x_aload_n dX10_append_60 0 rfl ?_
                  refine x_aload_n dX10_append_61 0 rfl ?_
                  refine x_callV (K := jX10_many) [] lk_X10_89 ⟨⟨rfl, rfl⟩, Nat.le_of_ble_eq_true rfl, Nat.le_of_ble_eq_true rfl⟩ rfl rfl (mX10_many V) rfl (Nat.le_of_ble_eq_true rfl) rfl dX10_append_62 (kpI ?_)
                  refine x_topi (hm) ?_
                  refine x_iconst (v := 1) dX10_append_65 (by decide) ?_
                  refine x_isub dX10_append_66 ?_
                  have q36 : ((nI N) - 1 : Int32) = nI (N - 1) := nsub (by omega) (rfl) (rfl)
                  refine YY.S (st' := [.int (nI (N - 1)), .ref (g.2.1 49)]) (by rw [q36]) ?_
                  refine x_callV (K := jX10_kind) [.int (nI (N - 1))] lk_X10_93 ⟨⟨rfl, rfl⟩, Nat.le_of_ble_eq_true rfl, Nat.le_of_ble_eq_true rfl⟩ rfl rfl (mX10_kind V (N - 1) (by omega)) rfl (Nat.le_of_ble_eq_true rfl) rfl dX10_append_67 (kpI ?_)
                  refine x_iconst (v := 4) dX10_append_70 (by decide) ?_
                  refine x_icmp_ne 77 dX10_append_71 (by decide) (fun c37 => ?_) (fun c37 => ?_)
                  · refine x_aload_n dX10_append_77 0 rfl ?_
                    refine x_callV (K := jX10_many) [] lk_X10_89 ⟨⟨rfl, rfl⟩, Nat.le_of_ble_eq_true rfl, Nat.le_of_ble_eq_true rfl⟩ rfl rfl (mX10_many V) rfl (Nat.le_of_ble_eq_true rfl) rfl dX10_append_78 (kpI ?_)
                    refine x_topi (hm) ?_
                    refine x_bipush (v := 24) dX10_append_81 (by decide) ?_
                    refine x_icmp_ne 89 dX10_append_83 (by decide) (fun c38 => ?_) (fun c38 => ?_)
                    · have c38n : ¬ N = 24 := fun q => c38 ((nl_eq (a := N) (b := 24) (rfl) (rfl) (by omega) (by omega)).mpr q)
                      refine x_bipush (v := 7) dX10_append_89 (by decide) ?_
                      refine x_aload_n dX10_append_91 0 rfl ?_
                      refine x_callV (K := jX10_many) [] lk_X10_89 ⟨⟨rfl, rfl⟩, Nat.le_of_ble_eq_true rfl, Nat.le_of_ble_eq_true rfl⟩ rfl rfl (mX10_many V) rfl (Nat.le_of_ble_eq_true rfl) rfl dX10_append_92 (kpI ?_)
                      refine x_topi (hm) ?_
                      refine x_imul dX10_append_95 ?_
                      refine x_istore 8 [(8, .int (7 * (nI N))), (0, .ref (g.2.1 49)), (1, .int kd), (2, .int ax), (3, .int ay), (4, .int bx), (5, .int by_), (6, .int x), (7, .int y)] dX10_append_96 (by decide) rfl ?_
                      refine x_aload_n dX10_append_98 1 rfl ?_
                      refine x_getR fl_X10_9 rfl rfl dX10_append_99 ?_
                      refine x_iload dX10_append_102 0 rfl ?_
                      refine x_iload_n dX10_append_104 2 rfl ?_
                      have q39 : (7 * (nI N) : Int32) = nI (7 * N) := nmul (rfl) (rfl)
                      refine YY.S (st' := [.int kd, .int (nI (7 * N)), .ref (g.2.1 50)]) (by rw [q39]) ?_
                      have b40 : vp_in (nI (7 * N)) 170 := by exact vp_in_nI (by omega) (by decide)
                      refine x_iast rfl b40 dX10_append_105 ?_
                      refine YY.V (V' := uM V 50 (7 * N) kd) (by rw [nI_clamp (by omega)]) ?_
                      obtain ⟨U41, eU41⟩ : ∃ v_v : vM, v_v = uM V 50 (7 * N) kd := ⟨_, rfl⟩
                      refine YY.V eU41.symm ?_
                      refine x_aload_n dX10_append_106 1 rfl ?_
                      refine x_getR fl_X10_9 rfl rfl dX10_append_107 ?_
                      refine x_iload dX10_append_110 0 rfl ?_
                      refine x_iconst (v := 1) dX10_append_112 (by decide) ?_
                      refine x_iadd dX10_append_113 ?_
                      refine x_iload_n dX10_append_114 3 rfl ?_
                      have q42 : ((7 * (nI N)) + 1 : Int32) = nI ((7 * N) + 1) := nadd (nmul (rfl) (rfl)) (rfl)
                      refine YY.S (st' := [.int ax, .int (nI ((7 * N) + 1)), .ref (g.2.1 50)]) (by rw [q42]) ?_
                      have b43 : vp_in (nI ((7 * N) + 1)) 170 := by exact vp_in_nI (by omega) (by decide)
                      refine x_iast rfl b43 dX10_append_115 ?_
                      refine YY.V (V' := uM U41 50 ((7 * N) + 1) ax) (by rw [nI_clamp (by omega)]) ?_
                      obtain ⟨U44, eU44⟩ : ∃ v_v : vM, v_v = uM U41 50 ((7 * N) + 1) ax := ⟨_, rfl⟩
                      refine YY.V eU44.symm ?_
                      refine x_aload_n dX10_append_116 1 rfl ?_
                      refine x_getR fl_X10_9 rfl rfl dX10_append_117 ?_
                      refine x_iload dX10_append_120 0 rfl ?_
                      refine x_iconst (v := 2) dX10_append_122 (by decide) ?_
                      refine x_iadd dX10_append_123 ?_
                      refine x_iload_n dX10_append_124 4 rfl ?_
                      have q45 : ((7 * (nI N)) + 2 : Int32) = nI ((7 * N) + 2) := nadd (nmul (rfl) (rfl)) (rfl)
                      refine YY.S (st' := [.int ay, .int (nI ((7 * N) + 2)), .ref (g.2.1 50)]) (by rw [q45]) ?_
                      have b46 : vp_in (nI ((7 * N) + 2)) 170 := by exact vp_in_nI (by omega) (by decide)
                      refine x_iast rfl b46 dX10_append_125 ?_
                      refine YY.V (V' := uM U44 50 ((7 * N) + 2) ay) (by rw [nI_clamp (by omega)]) ?_
                      obtain ⟨U47, eU47⟩ : ∃ v_v : vM, v_v = uM U44 50 ((7 * N) + 2) ay := ⟨_, rfl⟩
                      refine YY.V eU47.symm ?_
                      refine x_aload_n dX10_append_126 1 rfl ?_
                      refine x_getR fl_X10_9 rfl rfl dX10_append_127 ?_
                      refine x_iload dX10_append_130 0 rfl ?_
                      refine x_iconst (v := 3) dX10_append_132 (by decide) ?_
                      refine x_iadd dX10_append_133 ?_
                      refine x_iload dX10_append_134 5 rfl ?_
                      have q48 : ((7 * (nI N)) + 3 : Int32) = nI ((7 * N) + 3) := nadd (nmul (rfl) (rfl)) (rfl)
                      refine YY.S (st' := [.int bx, .int (nI ((7 * N) + 3)), .ref (g.2.1 50)]) (by rw [q48]) ?_
                      have b49 : vp_in (nI ((7 * N) + 3)) 170 := by exact vp_in_nI (by omega) (by decide)
                      refine x_iast rfl b49 dX10_append_136 ?_
                      refine YY.V (V' := uM U47 50 ((7 * N) + 3) bx) (by rw [nI_clamp (by omega)]) ?_
                      obtain ⟨U50, eU50⟩ : ∃ v_v : vM, v_v = uM U47 50 ((7 * N) + 3) bx := ⟨_, rfl⟩
                      refine YY.V eU50.symm ?_
                      refine x_aload_n dX10_append_137 1 rfl ?_
                      refine x_getR fl_X10_9 rfl rfl dX10_append_138 ?_
                      refine x_iload dX10_append_141 0 rfl ?_
                      refine x_iconst (v := 4) dX10_append_143 (by decide) ?_
                      refine x_iadd dX10_append_144 ?_
                      refine x_iload dX10_append_145 6 rfl ?_
                      have q51 : ((7 * (nI N)) + 4 : Int32) = nI ((7 * N) + 4) := nadd (nmul (rfl) (rfl)) (rfl)
                      refine YY.S (st' := [.int by_, .int (nI ((7 * N) + 4)), .ref (g.2.1 50)]) (by rw [q51]) ?_
                      have b52 : vp_in (nI ((7 * N) + 4)) 170 := by exact vp_in_nI (by omega) (by decide)
                      refine x_iast rfl b52 dX10_append_147 ?_
                      refine YY.V (V' := uM U50 50 ((7 * N) + 4) by_) (by rw [nI_clamp (by omega)]) ?_
                      obtain ⟨U53, eU53⟩ : ∃ v_v : vM, v_v = uM U50 50 ((7 * N) + 4) by_ := ⟨_, rfl⟩
                      refine YY.V eU53.symm ?_
                      refine x_aload_n dX10_append_148 1 rfl ?_
                      refine x_getR fl_X10_9 rfl rfl dX10_append_149 ?_
                      refine x_iload dX10_append_152 0 rfl ?_
                      refine x_iconst (v := 5) dX10_append_154 (by decide) ?_
                      refine x_iadd dX10_append_155 ?_
                      refine x_iload dX10_append_156 7 rfl ?_
                      have q54 : ((7 * (nI N)) + 5 : Int32) = nI ((7 * N) + 5) := nadd (nmul (rfl) (rfl)) (rfl)
                      refine YY.S (st' := [.int x, .int (nI ((7 * N) + 5)), .ref (g.2.1 50)]) (by rw [q54]) ?_
                      have b55 : vp_in (nI ((7 * N) + 5)) 170 := by exact vp_in_nI (by omega) (by decide)
                      refine x_iast rfl b55 dX10_append_158 ?_
                      refine YY.V (V' := uM U53 50 ((7 * N) + 5) x) (by rw [nI_clamp (by omega)]) ?_
                      obtain ⟨U56, eU56⟩ : ∃ v_v : vM, v_v = uM U53 50 ((7 * N) + 5) x := ⟨_, rfl⟩
                      refine YY.V eU56.symm ?_
                      refine x_aload_n dX10_append_159 1 rfl ?_
                      refine x_getR fl_X10_9 rfl rfl dX10_append_160 ?_
                      refine x_iload dX10_append_163 0 rfl ?_
                      refine x_bipush (v := 6) dX10_append_165 (by decide) ?_
                      refine x_iadd dX10_append_167 ?_
                      refine x_iload dX10_append_168 8 rfl ?_
                      have q57 : ((7 * (nI N)) + 6 : Int32) = nI ((7 * N) + 6) := nadd (nmul (rfl) (rfl)) (rfl)
                      refine YY.S (st' := [.int y, .int (nI ((7 * N) + 6)), .ref (g.2.1 50)]) (by rw [q57]) ?_
                      have b58 : vp_in (nI ((7 * N) + 6)) 170 := by exact vp_in_nI (by omega) (by decide)
                      refine x_iast rfl b58 dX10_append_170 ?_
                      refine YY.V (V' := uM U56 50 ((7 * N) + 6) y) (by rw [nI_clamp (by omega)]) ?_
                      obtain ⟨U59, eU59⟩ : ∃ v_v : vM, v_v = uM U56 50 ((7 * N) + 6) y := ⟨_, rfl⟩
                      refine YY.V eU59.symm ?_
                      refine x_aload_n dX10_append_171 1 rfl ?_
                      refine x_getR fl_X10_9 rfl rfl dX10_append_172 ?_
                      refine x_sipush (v := 168) dX10_append_175 (by decide) ?_
                      refine x_dup2 dX10_append_178 rfl rfl ?_
                      have q60 : (168 : Int32) = nI 168 := rfl
                      refine YY.S (st' := [.int (nI 168), .ref (g.2.1 50), .int 168, .ref (g.2.1 50)]) (by rw [q60]) ?_
                      have b61 : vp_in (nI 168) 170 := by exact vp_in_nI (by omega) (by decide)
                      refine x_iald rfl b61 dX10_append_179 ?_
                      refine x_topi (y := U59 50 168) (by rw [nI_clamp (by omega)]) ?_
                      refine x_topi (y := V 50 168) (by rw [eU59, uM_ni (by omega), eU56, uM_ni (by omega), eU53, uM_ni (by omega), eU50, uM_ni (by omega), eU47, uM_ni (by omega), eU44, uM_ni (by omega), eU41, uM_ni (by omega)]) ?_
                      refine x_topi (hm) ?_
                      refine x_iconst (v := 1) dX10_append_180 (by decide) ?_
                      refine x_iadd dX10_append_181 ?_
                      have q62 : (168 : Int32) = nI 168 := rfl
                      refine YY.S (st' := [.int ((nI N) + 1), .int (nI 168), .ref (g.2.1 50)]) (by rw [q62]) ?_
                      have b63 : vp_in (nI 168) 170 := by exact vp_in_nI (by omega) (by decide)
                      refine x_iast rfl b63 dX10_append_182 ?_
                      refine YY.V (V' := uM U59 50 168 ((nI N) + 1)) (by rw [nI_clamp (by omega)]) ?_
                      obtain ⟨U64, eU64⟩ : ∃ v_v : vM, v_v = uM U59 50 168 ((nI N) + 1) := ⟨_, rfl⟩
                      refine YY.V eU64.symm ?_
                      refine x_aload_n dX10_append_183 1 rfl ?_
                      refine x_callV (K := jX10_many) [] lk_X10_89 ⟨⟨rfl, rfl⟩, Nat.le_of_ble_eq_true rfl, Nat.le_of_ble_eq_true rfl⟩ rfl rfl (mX10_many U64) rfl (Nat.le_of_ble_eq_true rfl) rfl dX10_append_184 (kpI ?_)
                      refine x_topi (y := (nI N) + 1) (by rw [eU64, uM_hit]) ?_
                      refine x_iret dX10_append_187 rfl ?_
                      rw [hQ]
                      refine ⟨?_, ?_⟩
                      · subst_vars; unfold mapV; first | (rw [if_neg (by grind), if_neg (by grind), if_neg (by grind)]; simp only [nI_1]; rfl) | grind
                      · unfold mapZ; congr 2; grind [nI_1]
                    · have c38n : N = 24 := (nl_eq (a := N) (b := 24) (rfl) (rfl) (by omega) (by omega)).mp c38
                      refine x_ldc ct_X10_98 dX10_append_86 ?_
                      refine x_iret dX10_append_88 rfl ?_
                      rw [hQ]
                      refine ⟨?_, ?_⟩
                      · subst_vars; unfold mapV; first | (rw [if_neg (by grind), if_neg (by grind), if_neg (by grind)]; simp only [nI_1]; rfl) | grind
                      · unfold mapZ; congr 2; grind [nI_1]
                  · refine x_ldc ct_X10_97 dX10_append_74 ?_
                    refine x_iret dX10_append_76 rfl ?_
                    rw [hQ]
                    refine ⟨?_, ?_⟩
                    · subst_vars; unfold mapV; first | (rw [if_neg (by grind), if_neg (by grind), if_neg (by grind)]; simp only [nI_1]; rfl) | grind
                    · unfold mapZ; congr 2; grind [nI_1]
            · have c6n : ¬ (-4000 ≤ y ∧ y ≤ 4000) := iB_0.mp c6
              refine x_ldc ct_X10_88 dX10_append_46 ?_
              refine x_iret dX10_append_48 rfl ?_
              rw [hQ]
              refine ⟨?_, ?_⟩
              · subst_vars; unfold mapV; first | (rw [if_neg (by grind), if_neg (by grind), if_neg (by grind)]; simp only [nI_1]; rfl) | grind
              · unfold mapZ; congr 2; grind [nI_1]
