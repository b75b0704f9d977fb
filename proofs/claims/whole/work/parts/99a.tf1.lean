/-! transform -/
def tr (a c e x y : Int32) : Int32 := (a * x + c * y) >>> (8 &&& 31) + e
def hasP (m : Nat → Int32) (q p : Nat) : Prop := (p = 5 ∧ ¬ m (q * 7) = 4) ∨ (p = 1 ∧ (m (q * 7) = 2 ∨ m (q * 7) = 3)) ∨ (p = 3 ∧ m (q * 7) = 3)
noncomputable def tfF (m : Nat → Int32) (a b c d e f : Int32) : Nat → Int32 := fun j => if j % 7 = 0 then m j else if j % 7 % 2 = 1 then @ite _ (hasP m (j / 7) (j % 7)) (Classical.propDecidable _) (tr a c e (m j) (m (j + 1))) 0 else @ite _ (hasP m (j / 7) (j % 7 - 1)) (Classical.propDecidable _) (tr b d f (m (j - 1)) (m j)) 0
def alR (f : Nat → Int32) (J : Nat) : Prop := ∀ j, j < J → ¬ j % 7 = 0 → inR (f j)
noncomputable def tfM (m : Nat → Int32) (N : Nat) (a b c d e f : Int32) : Nat → Int32 := fun j => if j < 7 * N then tfF m a b c d e f j else m j
section
variable {m : Nat → Int32} {a b c d e f : Int32}
theorem tfF_0 (k : Nat) : tfF m a b c d e f (k * 7) = m (k * 7) := by
  unfold tfF; rw [if_pos (by omega)]
theorem tfF_x {k p : Nat} (hp : p = 1 ∨ p = 3 ∨ p = 5) : tfF m a b c d e f (k * 7 + p) = @ite _ (hasP m k p) (Classical.propDecidable _) (tr a c e (m (k * 7 + p)) (m (k * 7 + p + 1))) 0 := by
  unfold tfF
  rw [show (k * 7 + p) / 7 = k by omega, show (k * 7 + p) % 7 = p by omega, if_neg (by omega), if_pos (by omega)]
theorem tfF_y {k p : Nat} (hp : p = 1 ∨ p = 3 ∨ p = 5) : tfF m a b c d e f (k * 7 + p + 1) = @ite _ (hasP m k p) (Classical.propDecidable _) (tr b d f (m (k * 7 + p)) (m (k * 7 + p + 1))) 0 := by
  unfold tfF
  rw [show (k * 7 + p + 1) / 7 = k by omega, show (k * 7 + p + 1) % 7 = p + 1 by omega, if_neg (by omega), if_neg (by omega), Nat.add_sub_cancel, Nat.add_sub_cancel]
theorem tfF_t {k p : Nat} (hp : p = 1 ∨ p = 3 ∨ p = 5) (h : hasP m k p) : tr a c e (m (k * 7 + p)) (m (k * 7 + p + 1)) = tfF m a b c d e f (k * 7 + p) ∧ tr b d f (m (k * 7 + p)) (m (k * 7 + p + 1)) = tfF m a b c d e f (k * 7 + p + 1) := by
  rw [tfF_x hp, tfF_y hp, if_pos h, if_pos h]
  exact ⟨rfl, rfl⟩
theorem tfF_f {k p : Nat} (hp : p = 1 ∨ p = 3 ∨ p = 5) (h : ¬ hasP m k p) : 0 = tfF m a b c d e f (k * 7 + p) ∧ 0 = tfF m a b c d e f (k * 7 + p + 1) := by
  rw [tfF_x hp, tfF_y hp, if_neg h, if_neg h]
  exact ⟨rfl, rfl⟩
theorem kd7_tf {N : Nat} {i : Nat} (hi : i < N) : tfM m N a b c d e f (i * 7) = m (i * 7) := by
  unfold tfM; rw [if_pos (by omega), tfF_0]
theorem mv7_cong {m m2 : Nat → Int32} : ∀ i, (∀ j, j ≤ i → m2 (j * 7) = m (j * 7)) → mv7 m2 i = mv7 m i
  | 0, _ => rfl
  | i + 1, h => by
    unfold mv7
    rw [h (i + 1) (Nat.le_refl _), mv7_cong i (fun j hj => h j (by omega))]
theorem mv7_0 {m : Nat → Int32} (h0 : m 0 = 0) : ∀ i, m (mv7 m i * 7) = 0
  | 0 => h0
  | i + 1 => by
    unfold mv7
    split
    · assumption
    · exact mv7_0 h0 i
theorem tfM_e {N i p : Nat} (hi : i < N) (hp : p < 7) : tfM m N a b c d e f (i * 7 + p) = tfF m a b c d e f (i * 7 + p) := by
  unfold tfM; rw [if_pos (by omega)]
theorem WF.tf {N : Nat} (hw : WF m N) (hA : alR (tfF m a b c d e f) (7 * N)) : WF (tfM m N a b c d e f) N := by
  refine ⟨hw.1, fun i hi => ?_⟩
  obtain ⟨h1, h2, h3, h4, h5, h6⟩ := hw.2 i hi
  have k := kd7_tf (m := m) (a := a) (b := b) (c := c) (d := d) (e := e) (f := f) hi
  rw [k]
  have z : ∀ p, p = 1 ∨ p = 3 ∨ p = 5 → ¬ hasP m i p → tfM m N a b c d e f (i * 7 + p) = 0 ∧ tfM m N a b c d e f (i * 7 + p + 1) = 0 := by
    intro p hp hn
    have := tfF_f (a := a) (b := b) (c := c) (d := d) (e := e) (f := f) hp hn
    rw [tfM_e hi (by omega), Nat.add_assoc, tfM_e hi (by omega)]
    exact ⟨this.1.symm, this.2.symm⟩
  refine ⟨h1, fun q => ?_, fun p p1 p7 => ?_, fun q => ?_, fun q => ?_, fun q => ?_⟩
  · obtain ⟨j, e1, e2⟩ := h2 q
    exact ⟨j, e1, by rw [kd7_tf (by omega)]; exact e2⟩
  · rw [tfM_e hi p7]
    exact hA _ (by omega) (by omega)
  · exact z 1 (Or.inl rfl) (by unfold hasP; rintro (⟨x, -⟩ | ⟨-, x | x⟩ | ⟨x, -⟩) <;> first | omega | (rw [x] at q; rcases q with q | q | q <;> exact absurd q (by decide)))
  · exact z 3 (Or.inr (Or.inl rfl)) (by unfold hasP; rintro (⟨x, -⟩ | ⟨x, -⟩ | ⟨-, x⟩) <;> first | omega | (rw [x] at q; rcases q with q | q | q | q <;> exact absurd q (by decide)))
  · exact z 5 (Or.inr (Or.inr rfl)) (by unfold hasP; rintro (⟨-, x⟩ | ⟨x, -⟩ | ⟨x, -⟩) <;> first | omega | exact x q)
end
/-- the class's numbers turned -/
def cxT (V : vM) (a b c d e f : Int32) : Nat → Int32 := fun j => if j % 2 = 0 then tr a c e (V 13 j) (V 13 (j + 1)) else tr b d f (V 13 (j - 1)) (V 13 j)
theorem cxT_p {V : vM} {a b c d e f : Int32} {j : Nat} (h : j % 2 = 0) : tr a c e (V 13 j) (V 13 (j + 1)) = cxT V a b c d e f j ∧ tr b d f (V 13 j) (V 13 (j + 1)) = cxT V a b c d e f (j + 1) := by
  unfold cxT
  rw [if_pos h, if_neg (by omega), Nat.add_sub_cancel]
  exact ⟨rfl, rfl⟩
theorem cx_up {V U U2 : vM} {a b c d e f : Int32} {J i : Nat} (hX : ∀ j, j < J → U 15 j = if j < i then cxT V a b c d e f j else V 13 j) {x y : Int32} (q : U2 = uM (uM U 15 i x) 15 (i + 1) y) (hx : x = cxT V a b c d e f i) (hy : y = cxT V a b c d e f (i + 1)) : ∀ j, j < J → U2 15 j = if j < i + 2 then cxT V a b c d e f j else V 13 j := by
  intro j hj
  rw [q]
  by_cases e1 : j = i + 1
  · rw [e1, uM_hit, if_pos (by omega), hy]
  · rw [uM_ni e1]
    by_cases e2 : j = i
    · rw [e2, uM_hit, if_pos (by omega), hx]
    · rw [uM_ni e2, hX j hj]
      by_cases c3 : j < i
      · rw [if_pos c3, if_pos (by omega)]
      · rw [if_neg c3, if_neg (by omega)]
theorem bc_k {V : vM} {a k n b kb nb i : Nat} (h3 : k ≠ n) (hi : i < 24) : bc V a k n b kb nb k i = V kb i := by
  unfold bc
  rw [cM_at, if_neg h3, cM_at, if_pos rfl]
  exact if_pos hi
theorem bc_n {V : vM} {a k n b kb nb i : Nat} (hi : i < 144) : bc V a k n b kb nb n i = V nb i := by
  unfold bc
  rw [cM_at, if_pos rfl]
  exact if_pos hi
set_option maxHeartbeats 1000000 in
set_option maxRecDepth 100000 in
theorem mX5_becomeTransformed {g : gX} (V : vM) (N : Nat) (hN : N ≤ 24) (hsz : V 1 2 = nI N) (a b c d e f : Int32) : MM g jX5_becomeTransformed V [.ref (g.2.1 2), .ref (g.2.1 1), .int a, .int b, .int c, .int d, .int e, .int f] (eV (fun U => U 2 2 = nI N ∧ U 2 3 = V 1 3 ∧ (∀ i, i < 24 → U 14 i = V 12 i) ∧ (∀ j, j < N * 6 → U 15 j = cxT V a b c d e f j) ∧ ∀ q j, q ≠ 2 → q ≠ 14 → q ≠ 15 → U q j = V q j)) := by
  refine MM.of plX5_becomeTransformed (Nat.le_of_ble_eq_true rfl) ?_
  obtain ⟨Q, hQ⟩ : ∃ Q : Option Value → vM → Prop, Q = (eV (fun U => U 2 2 = nI N ∧ U 2 3 = V 1 3 ∧ (∀ i, i < 24 → U 14 i = V 12 i) ∧ (∀ j, j < N * 6 → U 15 j = cxT V a b c d e f j) ∧ ∀ q j, q ≠ 2 → q ≠ 14 → q ≠ 15 → U q j = V q j)) := ⟨_, rfl⟩
  rw [← hQ]
  show XX g jX5_becomeTransformed Q V 0 [(0, .ref (g.2.1 2)), (1, .ref (g.2.1 1)), (2, .int a), (3, .int b), (4, .int c), (5, .int d), (6, .int e), (7, .int f)] []
  refine x_aload_n dX5_becomeTransformed_0 0 rfl ?_
  refine x_aload_n dX5_becomeTransformed_1 1 rfl ?_
  refine x_callV (K := jX5_become) [.ref (g.2.1 1)] lk_X5_59 ⟨⟨rfl, rfl⟩, Nat.le_of_ble_eq_true rfl, Nat.le_of_ble_eq_true rfl⟩ rfl rfl (mX5_become V isP2 isP1 (by decide) (by decide) (by decide) (by decide) (by decide) (by decide) (by decide)) rfl (Nat.le_of_ble_eq_true rfl) rfl dX5_becomeTransformed_2 (kdV ?_)
  obtain ⟨U1, eU1⟩ : ∃ v_v : vM, v_v = bc V 2 14 15 1 12 13 := ⟨_, rfl⟩
  refine YY.V eU1.symm ?_
  have hz2 : U1 2 2 = nI N := by rw [eU1, (bc_2 (by decide) (by decide)).1, hsz]
  refine x_iconst (v := 0) dX5_becomeTransformed_5 (by decide) ?_
  refine x_istore 8 [(8, .int 0), (0, .ref (g.2.1 2)), (1, .ref (g.2.1 1)), (2, .int a), (3, .int b), (4, .int c), (5, .int d), (6, .int e), (7, .int f)] dX5_becomeTransformed_6 (by decide) rfl ?_
  have lp2 : ∀ (fu : Nat) (i : Nat) (U : vM), (i ≤ N * 6 ∧ i % 2 = 0) → (∀ j, j < N * 6 → U 15 j = if j < i then cxT V a b c d e f j else V 13 j) → (∀ q j, q ≠ 15 → U q j = U1 q j) → (N * 6 - i) < fu → XX g jX5_becomeTransformed Q U 8 [(8, .int (nI i)), (0, .ref (g.2.1 2)), (1, .ref (g.2.1 1)), (2, .int a), (3, .int b), (4, .int c), (5, .int d), (6, .int e), (7, .int f)] [] := by
    intro fu
    induction fu with
    | zero => intro _ _ _ _ _ hmz; exact absurd hmz (Nat.not_lt_zero _)
    | succ fu ih =>
      intro i U hi hX hfU hmz
      refine x_iload dX5_becomeTransformed_8 0 rfl ?_
      refine x_aload_n dX5_becomeTransformed_10 1 rfl ?_
      refine x_getI fl_X5_18 rfl rfl dX5_becomeTransformed_11 ?_
      refine x_topi ((hfU 2 2 (by decide)).trans hz2) ?_
      refine x_bipush (v := 6) dX5_becomeTransformed_14 (by decide) ?_
      refine x_imul dX5_becomeTransformed_16 ?_
      refine x_icmp_ge 94 dX5_becomeTransformed_17 (by decide) (fun c3 => ?_) (fun c3 => ?_)
      · have c3n : N * 6 ≤ i := (nl_le (a := N * 6) (b := i) (nmul (rfl) (rfl)) (rfl) (by omega) (by omega)).mp c3
        refine x_vret dX5_becomeTransformed_94 rfl ?_
        rw [hQ]
        refine ⟨rfl, (hfU 2 2 (by decide)).trans hz2, ?_, fun i q => ?_, fun j hj => by rw [hX j hj, if_pos (by omega)], fun q j h1 h2 h3 => ?_⟩
        · rw [hfU 2 3 (by decide), eU1]; exact (bc_2 (by decide) (by decide)).2
        · rw [hfU 14 i (by decide), eU1]; exact bc_k (by decide) q
        · rw [hfU q j h3, eU1]; exact bc_at h1 h2 h3
      · have c3n : i < N * 6 := Nat.not_le.mp (fun q => c3 ((nl_le (a := N * 6) (b := i) (nmul (rfl) (rfl)) (rfl) (by omega) (by omega)).mpr q))
        refine x_aload_n dX5_becomeTransformed_20 1 rfl ?_
        refine x_getR fl_X5_15 rfl rfl dX5_becomeTransformed_21 ?_
        refine x_iload dX5_becomeTransformed_24 0 rfl ?_
        have b4 : vp_in (nI i) 144 := by exact vp_in_nI (by omega) (by decide)
        refine x_iald rfl b4 dX5_becomeTransformed_26 ?_
        refine x_topi (y := U 15 i) (by rw [nI_clamp (by omega)]) ?_
        refine x_topi ((hX i (by omega)).trans (if_neg (by omega))) ?_
        refine x_istore 9 [(9, .int (V 13 i)), (8, .int (nI i)), (0, .ref (g.2.1 2)), (1, .ref (g.2.1 1)), (2, .int a), (3, .int b), (4, .int c), (5, .int d), (6, .int e), (7, .int f)] dX5_becomeTransformed_27 (by decide) rfl ?_
        refine x_aload_n dX5_becomeTransformed_29 2 rfl ?_
        refine x_getR fl_X5_15 rfl rfl dX5_becomeTransformed_30 ?_
        refine x_iload dX5_becomeTransformed_33 1 rfl ?_
        refine x_iconst (v := 1) dX5_becomeTransformed_35 (by decide) ?_
        refine x_iadd dX5_becomeTransformed_36 ?_
        have q5 : ((nI i) + 1 : Int32) = nI (i + 1) := nadd (rfl) (rfl)
        refine YY.S (st' := [.int (nI (i + 1)), .ref (g.2.1 15)]) (by rw [q5]) ?_
        have b6 : vp_in (nI (i + 1)) 144 := by exact vp_in_nI (by omega) (by decide)
        refine x_iald rfl b6 dX5_becomeTransformed_37 ?_
        refine x_topi (y := U 15 (i + 1)) (by rw [nI_clamp (by omega)]) ?_
        refine x_topi ((hX (i + 1) (by omega)).trans (if_neg (by omega))) ?_
        refine x_istore 10 [(10, .int (V 13 (i + 1))), (9, .int (V 13 i)), (8, .int (nI i)), (0, .ref (g.2.1 2)), (1, .ref (g.2.1 1)), (2, .int a), (3, .int b), (4, .int c), (5, .int d), (6, .int e), (7, .int f)] dX5_becomeTransformed_38 (by decide) rfl ?_
        refine x_aload_n dX5_becomeTransformed_40 3 rfl ?_
        refine x_getR fl_X5_15 rfl rfl dX5_becomeTransformed_41 ?_
        refine x_iload dX5_becomeTransformed_44 2 rfl ?_
        refine x_iload_n dX5_becomeTransformed_46 5 rfl ?_
        refine x_iload dX5_becomeTransformed_47 1 rfl ?_
        refine x_imul dX5_becomeTransformed_49 ?_
        refine x_iload dX5_becomeTransformed_50 7 rfl ?_
        refine x_iload dX5_becomeTransformed_52 0 rfl ?_
        refine x_imul dX5_becomeTransformed_54 ?_
        refine x_iadd dX5_becomeTransformed_55 ?_
        refine x_bipush (v := 8) dX5_becomeTransformed_56 (by decide) ?_
        refine x_ishr dX5_becomeTransformed_58 ?_
        refine x_iload dX5_becomeTransformed_59 9 rfl ?_
        refine x_iadd dX5_becomeTransformed_61 ?_
        have b7 : vp_in (nI i) 144 := by exact vp_in_nI (by omega) (by decide)
        refine x_iast rfl b7 dX5_becomeTransformed_62 ?_
        refine YY.V (V' := uM U 15 i ((((a * (V 13 i)) + (c * (V 13 (i + 1)))) >>> (8 &&& 31)) + e)) (by rw [nI_clamp (by omega)]) ?_
        obtain ⟨U8, eU8⟩ : ∃ v_v : vM, v_v = uM U 15 i ((((a * (V 13 i)) + (c * (V 13 (i + 1)))) >>> (8 &&& 31)) + e) := ⟨_, rfl⟩
        refine YY.V eU8.symm ?_
        refine x_aload_n dX5_becomeTransformed_63 3 rfl ?_
        refine x_getR fl_X5_15 rfl rfl dX5_becomeTransformed_64 ?_
        refine x_iload dX5_becomeTransformed_67 2 rfl ?_
        refine x_iconst (v := 1) dX5_becomeTransformed_69 (by decide) ?_
        refine x_iadd dX5_becomeTransformed_70 ?_
        refine x_iload_n dX5_becomeTransformed_71 6 rfl ?_
        refine x_iload dX5_becomeTransformed_72 1 rfl ?_
        refine x_imul dX5_becomeTransformed_74 ?_
        refine x_iload dX5_becomeTransformed_75 8 rfl ?_
        refine x_iload dX5_becomeTransformed_77 0 rfl ?_
        refine x_imul dX5_becomeTransformed_79 ?_
        refine x_iadd dX5_becomeTransformed_80 ?_
        refine x_bipush (v := 8) dX5_becomeTransformed_81 (by decide) ?_
        refine x_ishr dX5_becomeTransformed_83 ?_
        refine x_iload dX5_becomeTransformed_84 10 rfl ?_
        refine x_iadd dX5_becomeTransformed_86 ?_
        have q9 : ((nI i) + 1 : Int32) = nI (i + 1) := nadd (rfl) (rfl)
        refine YY.S (st' := [.int ((((b * (V 13 i)) + (d * (V 13 (i + 1)))) >>> (8 &&& 31)) + f), .int (nI (i + 1)), .ref (g.2.1 15)]) (by rw [q9]) ?_
        have b10 : vp_in (nI (i + 1)) 144 := by exact vp_in_nI (by omega) (by decide)
        refine x_iast rfl b10 dX5_becomeTransformed_87 ?_
        refine YY.V (V' := uM U8 15 (i + 1) ((((b * (V 13 i)) + (d * (V 13 (i + 1)))) >>> (8 &&& 31)) + f)) (by rw [nI_clamp (by omega)]) ?_
        obtain ⟨U11, eU11⟩ : ∃ v_v : vM, v_v = uM U8 15 (i + 1) ((((b * (V 13 i)) + (d * (V 13 (i + 1)))) >>> (8 &&& 31)) + f) := ⟨_, rfl⟩
        refine YY.V eU11.symm ?_
        refine x_iinc 8 (v := (nI i) + 2) 2 [(8, .int ((nI i) + 2)), (10, .int (V 13 (i + 1))), (9, .int (V 13 i)), (0, .ref (g.2.1 2)), (1, .ref (g.2.1 1)), (2, .int a), (3, .int b), (4, .int c), (5, .int d), (6, .int e), (7, .int f)] dX5_becomeTransformed_88 rfl (by rfl) (by decide) rfl ?_
        refine x_goto 8 dX5_becomeTransformed_91 (by decide) ?_
        refine x_lv [0, 3, 4, 5, 6, 7, 8, 9, 10] rfl ?_
        refine YY.L (lv' := [(8, .int (nI (i + 2))), (0, .ref (g.2.1 2)), (1, .ref (g.2.1 1)), (2, .int a), (3, .int b), (4, .int c), (5, .int d), (6, .int e), (7, .int f)]) (by rw [show nI i + 2 = nI (i + 2) from nadd rfl rfl] <;> rfl) ?_
        exact ih (i + 2) U11 (by omega) (by exact cx_up hX (show U11 = uM (uM U 15 i _) 15 (i + 1) _ by rw [eU11, eU8] <;> rfl) (cxT_p (by omega)).1 (cxT_p (by omega)).2) (by intro q j hq; rw [eU11, uM_na hq, eU8, uM_na hq]; exact hfU q j hq) (by omega)
  refine YY.L (lv' := [(8, .int (nI 0)), (0, .ref (g.2.1 2)), (1, .ref (g.2.1 1)), (2, .int a), (3, .int b), (4, .int c), (5, .int d), (6, .int e), (7, .int f)]) (by rfl) ?_
  exact lp2 _ 0 U1 (by omega) (by intro j hj; rw [if_neg (by omega), eU1]; exact bc_n (by omega)) (by exact fun _ _ _ => rfl) (Nat.lt_succ_self _)
theorem pt_n {V : vM} {a k N : Nat} (hsz : V a 2 = nI N) (hN : N ≤ 24) {i : Nat} (hi : i < N) (hk : 0 ≤ V k i ∧ V k i ≤ 4) : ptV V a k (nI i) = nI (ptn (V k i)) := by
  unfold ptV kiV
  rw [if_pos ⟨nI_pos' (by omega), by rw [hsz]; exact nI_lt hi (by omega)⟩, nI_clamp (by omega)]
  rcases k5 hk with e | e | e | e | e <;> rw [e] <;> rfl
theorem nb_n {V : vM} {a n N : Nat} (hsz : V a 2 = nI N) (hN : N ≤ 24) {i : Nat} (hi : i < N) {j : Nat} (hj : j < 6) : nbV V a n (nI i) (nI j) = V n (i * 6 + j) := by
  unfold nbV
  rw [if_pos ⟨nI_pos' (by omega), by rw [hsz]; exact nI_lt hi (by omega), nI_pos' (by omega), (nI_ltI (a := j) (b := 6) (by omega) (by omega)).mpr hj⟩]
  rw [show nI i * 6 + nI j = nI (i * 6 + j) from nadd (nmul rfl rfl) rfl, nI_clamp (by omega)]
def allR (V : vM) (N : Nat) : Prop := ∀ i, i < N → ∀ p, p < 2 * ptn (V 14 i) → inR (V 15 (i * 6 + p))
set_option maxHeartbeats 1000000 in
set_option maxRecDepth 100000 in
theorem mX5_isInRange {g : gX} (V : vM) (N : Nat) (hN : N ≤ 24) (hsz : V 2 2 = nI N) (hk : ∀ i, i < N → 0 ≤ V 14 i ∧ V 14 i ≤ 4) : MM g jX5_isInRange V [.ref (g.2.1 2)] (pI V (bP (allR V N))) := by
  refine MM.of plX5_isInRange (Nat.le_of_ble_eq_true rfl) ?_
  obtain ⟨Q, hQ⟩ : ∃ Q : Option Value → vM → Prop, Q = (pI V (bP (allR V N))) := ⟨_, rfl⟩
  rw [← hQ]
  show XX g jX5_isInRange Q V 0 [(0, .ref (g.2.1 2))] []
  have hkk : kok V 2 14 := ⟨szok_of hsz hN, fun i hi h24 => hk i (by rw [hsz, nI_ltI (by omega) (by omega)] at hi; exact hi)⟩
  refine x_iconst (v := 0) dX5_isInRange_0 (by decide) ?_
  refine x_istore_n 1 [(1, .int 0), (0, .ref (g.2.1 2))] dX5_isInRange_1 rfl (by decide) rfl ?_
  have lp1 : ∀ (fu : Nat) (i : Nat), (i ≤ N) → (∀ q, q < i → ∀ p, p < 2 * ptn (V 14 q) → inR (V 15 (q * 6 + p))) → (N - i) < fu → XX g jX5_isInRange Q V 2 [(1, .int (nI i)), (0, .ref (g.2.1 2))] [] := by
    intro fu
    induction fu with
    | zero => intro _ _ _ hmz; exact absurd hmz (Nat.not_lt_zero _)
    | succ fu ih =>
      intro i hi hA hmz
      refine x_iload_n dX5_isInRange_2 0 rfl ?_
      refine x_aload_n dX5_isInRange_3 1 rfl ?_
      refine x_getI fl_X5_18 rfl rfl dX5_isInRange_4 ?_
      refine x_topi (hsz) ?_
      refine x_icmp_ge 51 dX5_isInRange_7 (by decide) (fun c2 => ?_) (fun c2 => ?_)
      · have c2n : N ≤ i := (nl_le (a := N) (b := i) (rfl) (rfl) (by omega) (by omega)).mp c2
        refine x_iconst (v := 1) dX5_isInRange_51 (by decide) ?_
        refine x_zret dX5_isInRange_52 rfl (by exact nar01 (by first | exact Or.inl rfl | exact Or.inr rfl | grind)) ?_
        rw [hQ]
        exact ⟨rfl, by rw [bP_t (show allR V N from fun q hq => hA q (by omega))]⟩
      · have c2n : i < N := Nat.not_le.mp (fun q => c2 ((nl_le (a := N) (b := i) (rfl) (rfl) (by omega) (by omega)).mpr q))
        refine x_iconst (v := 2) dX5_isInRange_10 (by decide) ?_
        refine x_aload_n dX5_isInRange_11 1 rfl ?_
        refine x_iload_n dX5_isInRange_12 0 rfl ?_
        refine x_callV (K := jX5_pointsOf) [.int (nI i)] lk_X5_42 ⟨⟨rfl, rfl⟩, Nat.le_of_ble_eq_true rfl, Nat.le_of_ble_eq_true rfl⟩ rfl rfl (by have := mX5_pointsOf (g := g) V isP2 hkk (nI i); rw [pt_n hsz hN (by omega) (hk i (by omega))] at this; exact this) rfl (Nat.le_of_ble_eq_true rfl) rfl dX5_isInRange_13 (kpI ?_)
        refine x_imul dX5_isInRange_16 ?_
        refine x_istore_n 2 [(2, .int (2 * (nI (ptn (V 14 i))))), (1, .int (nI i)), (0, .ref (g.2.1 2))] dX5_isInRange_17 rfl (by decide) rfl ?_
        refine x_iconst (v := 0) dX5_isInRange_18 (by decide) ?_
        refine x_istore_n 3 [(3, .int 0), (2, .int (2 * (nI (ptn (V 14 i))))), (1, .int (nI i)), (0, .ref (g.2.1 2))] dX5_isInRange_19 rfl (by decide) rfl ?_
        have lp4 : ∀ (fu1 : Nat) (p : Nat), (p ≤ 2 * ptn (V 14 i)) → (∀ j, j < p → inR (V 15 (i * 6 + j))) → (2 * ptn (V 14 i) - p) < fu1 → XX g jX5_isInRange Q V 20 [(3, .int (nI p)), (2, .int (2 * (nI (ptn (V 14 i))))), (1, .int (nI i)), (0, .ref (g.2.1 2))] [] := by
          intro fu1
          induction fu1 with
          | zero => intro _ _ _ hmz; exact absurd hmz (Nat.not_lt_zero _)
          | succ fu1 ih1 =>
            intro p hp hB hmz
            have hpb := ptn_b (V 14 i)
            refine x_iload_n dX5_isInRange_20 0 rfl ?_
            refine x_iload_n dX5_isInRange_21 1 rfl ?_
            refine x_icmp_ge 45 dX5_isInRange_22 (by decide) (fun c5 => ?_) (fun c5 => ?_)
            · have c5n : 2 * (ptn (V 14 i)) ≤ p := (nl_le (a := 2 * (ptn (V 14 i))) (b := p) (nmul (rfl) (rfl)) (rfl) (by omega) (by omega)).mp c5
              refine x_iinc 1 (v := (nI i) + 1) 2 [(1, .int ((nI i) + 1)), (3, .int (nI p)), (2, .int (2 * (nI (ptn (V 14 i))))), (0, .ref (g.2.1 2))] dX5_isInRange_45 rfl (by rfl) (by decide) rfl ?_
              refine x_goto 2 dX5_isInRange_48 (by decide) ?_
              refine x_lv [0, 3] rfl ?_
              refine YY.L (lv' := [(1, .int (nI (i + 1))), (0, .ref (g.2.1 2))]) (by rw [nI_1] <;> rfl) ?_
              exact ih (i + 1) (by omega) (by intro q hq p hp; by_cases z : q = i; (subst z; exact hB p (by omega)); exact hA q (by omega) p hp) (by omega)
            · have c5n : p < 2 * (ptn (V 14 i)) := Nat.not_le.mp (fun q => c5 ((nl_le (a := 2 * (ptn (V 14 i))) (b := p) (nmul (rfl) (rfl)) (rfl) (by omega) (by omega)).mpr q))
              refine x_aload_n dX5_isInRange_25 3 rfl ?_
              refine x_iload_n dX5_isInRange_26 2 rfl ?_
              refine x_iload_n dX5_isInRange_27 0 rfl ?_
              refine x_callV (K := jX5_numberOf) [.int (nI i), .int (nI p)] lk_X5_45 ⟨⟨rfl, rfl⟩, Nat.le_of_ble_eq_true rfl, Nat.le_of_ble_eq_true rfl⟩ rfl rfl (by have := mX5_numberOf (g := g) V isP2 hkk.1 (nI i) (nI p); rw [nb_n hsz hN (by omega) (by have := ptn_b (V 14 i); omega)] at this; exact this) rfl (Nat.le_of_ble_eq_true rfl) rfl dX5_isInRange_28 (kpI ?_)
              refine x_callSN (K := jX9_fits) [.int (V 15 (i * 6 + p))] kbX9_fits st_fits (nwr1 (g := g)) ⟨⟨rfl, rfl⟩, Nat.le_of_ble_eq_true rfl, Nat.le_of_ble_eq_true rfl⟩ (mX9_fits V (V 15 (i * 6 + p))) rfl (Nat.le_of_ble_eq_true rfl) rfl dX5_isInRange_31 (kpI ?_)
              refine x_if_ne 39 dX5_isInRange_34 (by decide) (fun c6 => ?_) (fun c6 => ?_)
              · have c6n : (-4000 ≤ V 15 (i * 6 + p) ∧ V 15 (i * 6 + p) ≤ 4000) := Classical.not_not.mp (fun q => c6 (iB_0.mpr q))
                refine x_iinc 3 (v := (nI p) + 1) 0 [(3, .int ((nI p) + 1)), (2, .int (2 * (nI (ptn (V 14 i))))), (1, .int (nI i)), (0, .ref (g.2.1 2))] dX5_isInRange_39 rfl (by rfl) (by decide) rfl ?_
                refine x_goto 20 dX5_isInRange_42 (by decide) ?_
                refine YY.L (lv' := [(3, .int (nI (p + 1))), (2, .int (2 * (nI (ptn (V 14 i))))), (1, .int (nI i)), (0, .ref (g.2.1 2))]) (by rw [nI_1] <;> rfl) ?_
                exact ih1 (p + 1) (by omega) (by intro j hj; by_cases z : j = p; (subst z; exact (show -4000 ≤ V 15 (i * 6 + j) ∧ V 15 (i * 6 + j) ≤ 4000 by assumption)); exact hB j (by omega)) (by omega)
              · have c6n : ¬ (-4000 ≤ V 15 (i * 6 + p) ∧ V 15 (i * 6 + p) ≤ 4000) := iB_0.mp c6
                refine x_iconst (v := 0) dX5_isInRange_37 (by decide) ?_
                refine x_zret dX5_isInRange_38 rfl (by exact nar01 (by first | exact Or.inl rfl | exact Or.inr rfl | grind)) ?_
                rw [hQ]
                exact ⟨rfl, by rw [bP_f (show ¬ allR V N from fun q => absurd (q i (by omega) p (by omega)) (by assumption))]⟩
        refine YY.L (lv' := [(3, .int (nI 0)), (2, .int (2 * (nI (ptn (V 14 i))))), (1, .int (nI i)), (0, .ref (g.2.1 2))]) (by rfl) ?_
        exact lp4 _ 0 (by omega) (by exact fun q h => absurd h (Nat.not_lt_zero _)) (Nat.lt_succ_self _)
  refine YY.L (lv' := [(1, .int (nI 0)), (0, .ref (g.2.1 2))]) (by rfl) ?_
  exact lp1 _ 0 (by omega) (by exact fun q h => absurd h (Nat.not_lt_zero _)) (Nat.lt_succ_self _)
