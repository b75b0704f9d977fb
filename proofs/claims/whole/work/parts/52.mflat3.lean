def s5 (S : FS) (i : Nat) : FS := (S.1, S.2.1, uM S.2.2 5 i 0)
def MLi (m : Nat → Int32) (t : Int32) (V U : vM) (i : Nat) : Prop := FRM U (fall m t i) i ∧ (0 < i → SB (fall m t i)) ∧ (i = 0 → (fall m t i).2.2 4 (fall m t i).2.1 = nI (fall m t i).1) ∧ frM V U
theorem frM.trans {V U W : vM} (h : frM V U) (h2 : frM U W) : frM V W := fun a i n1 n2 => by rw [h2 a i n1 n2, h a i n1 n2]
theorem frM_at {V U : vM} (h : frM V U) (i : Nat) : U 50 i = V 50 i := h 50 i (by omega) (by omega)
theorem ML_init (m : Nat → Int32) (t : Int32) (V : vM) : MLi m t V (uM (uM V 49 32 0) 49 34 0) 0 := by
  refine ⟨⟨?_, ?_, fun i hi => absurd hi (Nat.not_lt_zero _), fun i hi => absurd hi (Nat.not_lt_zero _), fun i hi => absurd hi (Nat.not_lt_zero _)⟩, fun q => absurd q (by omega), fun _ => rfl, fun a i n1 n2 => ?_⟩
  · rw [uM_ni (by decide), uM_hit]; rfl
  · rw [uM_hit]; rfl
  · rw [uM_at, if_neg (fun q => (n1 q.1).2.1 q.2), uM_at, if_neg (fun q => (n1 q.1).1 q.2)]
theorem SB.five {S : FS} (h : SB S) (i : Nat) : SB (s5 S i) := by
  obtain ⟨⟨b, h1, h2⟩, h3⟩ := h
  exact ⟨⟨b, by simpa [s5, uM_at] using h1, h2⟩, by simpa [s5, uM_at] using h3⟩
theorem ML_zero {m : Nat → Int32} {t : Int32} {V U U1 : vM} {i : Nat} (h : MLi m t V U i) (e : U1 = uM (uM U 66 i 0) 49 38 0) : FRM U1 (s5 (fall m t i) i) (i + 1) ∧ (0 < i → SB (s5 (fall m t i) i)) ∧ (s5 (fall m t i) i).2.2 4 (fall m t i).2.1 = nI (fall m t i).1 ∧ frM V U1 := by
  obtain ⟨⟨h1, h2, h3, h4, h5⟩, b1, b2, fr⟩ := h
  have k : ∀ a j, a ≠ 66 → (a = 49 → j ≠ 38) → U1 a j = U a j := fun a j n1 n2 => by
    rw [e, uM_at, if_neg (fun q => n2 q.1 q.2), uM_na n1]
  refine ⟨⟨?_, ?_, fun j hj => ?_, fun j hj => ?_, fun c hc => ?_⟩, fun q => (b1 q).five i, ?_, fun a j n1 n2 => ?_⟩
  · rw [k 49 32 (by omega) (by omega)]; exact h1
  · rw [k 49 34 (by omega) (by omega)]; exact h2
  · rw [k 62 j (by omega) (by omega), k 63 j (by omega) (by omega), k 64 j (by omega) (by omega)]
    simpa [s5, uM_at] using h3 j hj
  · rw [k 65 j (by omega) (by omega)]
    simpa [s5, uM_at] using h4 j hj
  · rw [e, uM_na (by decide)]
    by_cases q : c = i
    · subst q; simp [s5, uM_hit]
    · rw [uM_ni q]
      simp [s5, uM_ni q, h5 c (by omega)]
  · rcases Nat.eq_zero_or_pos i with q | q
    · simpa [s5, uM_at] using b2 q
    · simpa [s5, uM_at] using (b1 q).2
  · rw [k a j (by omega) (fun q => (n1 q).2.2)]
    exact fr a j n1 n2
theorem ML_move {m : Nat → Int32} {t : Int32} {V U1 U2 : vM} {i : Nat} (hz : FRM U1 (s5 (fall m t i) i) (i + 1) ∧ (0 < i → SB (s5 (fall m t i) i)) ∧ (s5 (fall m t i) i).2.2 4 (fall m t i).2.1 = nI (fall m t i).1 ∧ frM V U1) (hk : m (i * 7) = 0)
    (e : U2 = mcap (uM (uM U1 65 (fall m t i).2.1 (nI (fall m t i).1)) 49 34 (nI ((fall m t i).2.1 + 1))) (fall m t i).1 (ex7 m i) (ey7 m i) 0) : MLi m t V U2 (i + 1) := by
  obtain ⟨⟨h1, h2, h3, h4, h5⟩, b1, b2, fr⟩ := hz
  have h2 : U1 49 34 = nI (fall m t i).2.1 := h2
  have k : ∀ a j, (a < 62 ∨ 65 < a) → (a = 49 → j ≠ 34 ∧ j ≠ 32) → U2 a j = U1 a j := fun a j n1 n2 => by
    rw [e]; unfold mcap
    rw [uM_at, if_neg (fun q => (n2 q.1).2 q.2), uM_na (by omega), uM_na (by omega), uM_na (by omega), uM_at, if_neg (fun q => (n2 q.1).1 q.2), uM_na (by omega)]
  have ef : fall m t (i + 1) = fbeg (s5 (fall m t i) i) i (ex7 m i) (ey7 m i) := by
    rw [fall_s, fcmd, if_pos hk]; rfl
  unfold MLi
  rw [ef]
  refine ⟨⟨?_, ?_, fun j hj => ?_, fun j hj => ?_, fun c hc => ?_⟩, fun _ => ?_, fun q => absurd q (by omega), fun a j n1 n2 => ?_⟩
  · rw [e]; unfold mcap; rw [uM_hit]; rfl
  · rw [e]; unfold mcap; rw [uM_ni (by decide), uM_na (by decide), uM_na (by decide), uM_na (by decide), uM_hit]; rfl
  · have hj : j < (fall m t i).1 + 1 := hj
    rw [e]
    by_cases q : j = (fall m t i).1
    · subst q; simp [mcap, fbeg, fpsh, s5, uM_at]
    · have := h3 j (by show j < (fall m t i).1; omega)
      simp [mcap, fbeg, fpsh, s5, uM_at, q] at this ⊢
      exact this
  · have hj : j < (fall m t i).2.1 + 1 := hj
    rw [e]
    by_cases q : j = (fall m t i).2.1
    · subst q
      have := b2
      simp [s5, uM_at] at this
      simp [mcap, fbeg, fpsh, s5, uM_at, this]
    · have := h4 j (by show j < (fall m t i).2.1; omega)
      simp [s5, uM_at] at this
      simp [mcap, fbeg, fpsh, s5, uM_at, q, this, show ¬ j = (fall m t i).2.1 + 1 by omega]
  · rw [k 66 c (by omega) (by omega), h5 c hc]
    simp [fbeg, fpsh, s5, uM_at]
  · refine ⟨⟨(fall m t i).1, ?_, ?_⟩, ?_⟩
    · show (fbeg (s5 (fall m t i) i) i (ex7 m i) (ey7 m i)).2.2 4 ((fall m t i).2.1 + 1 - 1) = _
      rw [Nat.add_sub_cancel]
      simp [s5, uM_at] at b2
      simp [fbeg, fpsh, s5, uM_at, b2]
    · show _ < (fall m t i).1 + 1; omega
    · show (fbeg (s5 (fall m t i) i) i (ex7 m i) (ey7 m i)).2.2 4 ((fall m t i).2.1 + 1) = nI ((fall m t i).1 + 1)
      simp [fbeg, fpsh, s5, uM_at]
  · rw [k a j (by omega) (fun q => ⟨(n1 q).2.1, (n1 q).1⟩)]
    exact fr a j n1 n2
theorem frM_mav {V : vM} {S : FS} {c : Nat} {x y : Int32} : frM V (mavV V S c x y) := fun a i n1 n2 => by
  unfold mavV
  split
  · rfl
  · unfold mcap
    rw [uM_at, if_neg (fun q => (n1 q.1).1 q.2), uM_na (by omega), uM_na (by omega), uM_na (by omega), uM_na (by omega)]
theorem ML_add {m : Nat → Int32} {t : Int32} {V U1 U2 : vM} {i : Nat} (hz : FRM U1 (s5 (fall m t i) i) (i + 1) ∧ (0 < i → SB (s5 (fall m t i) i)) ∧ (s5 (fall m t i) i).2.2 4 (fall m t i).2.1 = nI (fall m t i).1 ∧ frM V U1) (hi0 : 0 < i) (hS : SOK (fall m t i)) (h0 : ¬ m (i * 7) = 0) (h2 : ¬ m (i * 7) = 2) (h3 : ¬ m (i * 7) = 3)
    (e : U2 = mavV U1 (s5 (fall m t i) i) i (ex7 m i) (ey7 m i)) : MLi m t V U2 (i + 1) := by
  have ef : fall m t (i + 1) = fadd (s5 (fall m t i) i) i (ex7 m i) (ey7 m i) ∨ fall m t (i + 1) = fcls (fadd (s5 (fall m t i) i) i (ex7 m i) (ey7 m i)) := by
    rw [fall_s, fcmd, if_neg h0, if_neg h2, if_neg h3]
    by_cases q : m (i * 7) = 4
    · rw [if_pos q]; exact Or.inr rfl
    · rw [if_neg q]; exact Or.inl rfl
  have a1 := FRM_add hz.1 i (by omega) (ex7 m i) (ey7 m i) hS.1
  have a2 := SB_add (hz.2.1 hi0) hS.2.1 i (ex7 m i) (ey7 m i)
  have fr : frM V U2 := by rw [e]; exact hz.2.2.2.trans frM_mav
  unfold MLi
  rw [← e] at a1
  rcases ef with q | q
  · rw [q]
    exact ⟨a1, fun _ => a2, fun z => absurd z (by omega), fr⟩
  · rw [q]
    obtain ⟨b1, b2, b3, b4, b5⟩ := a1
    obtain ⟨⟨b, c1, c2⟩, c3⟩ := a2
    refine ⟨⟨b1, b2, fun j hj => by simpa [fcls, uM_at] using b3 j hj, fun j hj => by simpa [fcls, uM_at] using b4 j hj, fun j hj => by simpa [fcls, uM_at] using b5 j hj⟩, fun _ => ⟨⟨b, by simpa [fcls, uM_at] using c1, c2⟩, by simpa [fcls, uM_at] using c3⟩, fun z => absurd z (by omega), fr⟩
theorem cv7_2 {m : Nat → Int32} {i : Nat} (hk : m (i * 7) = 2) : cv7 m i 0 = ex7 m (i - 1) ∧ cv7 m i 1 = ey7 m (i - 1) ∧ cv7 m i 2 = m (i * 7 + 1) ∧ cv7 m i 3 = m (i * 7 + 2) ∧ cv7 m i 4 = m (i * 7 + 5) ∧ cv7 m i 5 = m (i * 7 + 6) := by
  simp [cv7, cst, nb7, hk]
theorem cv7_3 {m : Nat → Int32} {i : Nat} (hk : m (i * 7) = 3) : cv7 m i 0 = ex7 m (i - 1) ∧ cv7 m i 1 = ey7 m (i - 1) ∧ cv7 m i 2 = m (i * 7 + 1) ∧ cv7 m i 3 = m (i * 7 + 2) ∧ cv7 m i 4 = m (i * 7 + 3) ∧ cv7 m i 5 = m (i * 7 + 4) ∧ cv7 m i 6 = m (i * 7 + 5) ∧ cv7 m i 7 = m (i * 7 + 6) := by
  have : ¬ m (i * 7) = 2 := by rw [hk]; decide
  simp [cv7, cst, nb7, this]
theorem ML_curve {m : Nat → Int32} {t : Int32} {V U1 U2 : vM} {i N : Nat} (hw : WF m N) (hi : i < N) {l : Nat} (hl : l = 2 ∨ l = 3) (hz : FRM U1 (s5 (fall m t i) i) (i + 1) ∧ (0 < i → SB (s5 (fall m t i) i)) ∧ (s5 (fall m t i) i).2.2 4 (fall m t i).2.1 = nI (fall m t i).1 ∧ frM V U1) (hi0 : 0 < i) (hS : SOK (fall m t i)) (hk : m (i * 7) = nI l) {x0 x1 x2 x3 x4 x5 x6 x7 : Int32}
    (e : U2 = mpush U1 0 0 x0 x1 x2 x3 x4 x5 x6 x7) (q0 : x0 = cv7 m i 0 ∧ x1 = cv7 m i 1 ∧ x2 = cv7 m i 2 ∧ x3 = cv7 m i 3 ∧ x4 = cv7 m i 4 ∧ x5 = cv7 m i 5) (q6 : l = 3 → x6 = cv7 m i 6 ∧ x7 = cv7 m i 7) : AM l t i ((fall m t i).1 + 64) (fsub l t i 6 (cv7 m i) (s5 (fall m t i) i)) U2 U2 [(0, cv7 m i)] (s5 (fall m t i) i) := by
  obtain ⟨rfl, rfl, rfl, rfl, rfl, rfl⟩ := q0
  refine ⟨by rw [e]; exact mpush_p.2.2.2.2.2.2.2.2.2, ⟨by rw [e]; exact mpush_p.2.2.2.2.2.2.2.2.1, fun j hj => by rw [e]; exact mpush_q hl q6 j hj, trivial⟩, ⟨Nat.zero_le _, by omega, trivial⟩, ⟨hw.cv_r hi hl hk, trivial⟩, ?_, hS.five i 0, hz.2.1 hi0, rfl, ?_, fun a j _ _ => rfl⟩
  · refine hz.1.kept ?_ ?_ (fun a j q => ?_)
    · rw [e, mpush_at (by omega) (by omega) (by omega)]
    · rw [e, mpush_at (by omega) (by omega) (by omega)]
    · rw [e, mpush_at (by omega) (by omega) (by omega)]
  · show (fall m t i).1 + (2 ^ (6 - 0) + 0) ≤ _
    omega
theorem ML_cend {m : Nat → Int32} {t : Int32} {V U1 U2 U3 : vM} {i : Nat} {l B : Nat} (hl : l = 2 ∨ l = 3) (hk : m (i * 7) = nI l) (fr : frM V U1) {h x0 x1 x2 x3 x4 x5 x6 x7 : Int32} (e : U2 = mpush U1 0 h x0 x1 x2 x3 x4 x5 x6 x7)
    (hU : FRM U3 (fsub l t i 6 (cv7 m i) (s5 (fall m t i) i)) (i + 1) ∧ SOK (fsub l t i 6 (cv7 m i) (s5 (fall m t i) i)) ∧ SB (fsub l t i 6 (cv7 m i) (s5 (fall m t i) i)) ∧ (fsub l t i 6 (cv7 m i) (s5 (fall m t i) i)).1 ≤ B ∧ frM U2 U3) : MLi m t V U3 (i + 1) := by
  have ef : fall m t (i + 1) = fsub l t i 6 (cv7 m i) (s5 (fall m t i) i) := by
    rw [fall_s, fcmd]
    rcases hl with rfl | rfl
    · rw [if_neg (by rw [hk]; decide), if_pos (show m (i * 7) = 2 from hk)]; rfl
    · rw [if_neg (by rw [hk]; decide), if_neg (by rw [hk]; decide), if_pos (show m (i * 7) = 3 from hk)]; rfl
  unfold MLi
  rw [ef]
  refine ⟨hU.1, fun _ => hU.2.2.1, fun z => absurd z (by omega), (fr.trans ?_).trans hU.2.2.2.2⟩
  intro a j n1 n2
  rw [e, mpush_at (fun q => (n1 q).2.2) (by omega) (by omega)]
set_option maxHeartbeats 4000000 in
set_option maxRecDepth 100000 in
theorem mX10_flatten {g : gX} {m : Nat → Int32} (V : vM) {N : Nat} (hw : WF m N) (hm0 : V 50 = m) (hN8 : m 168 = nI N) (t : Int32) (ht : m 169 = t) : MM g jX10_flatten V [.ref (g.2.1 49)] (eV (fun U => FRM U (fall m t N) N ∧ U 65 (fall m t N).2.1 = nI (fall m t N).1 ∧ frM V U)) := by
  refine MM.of plX10_flatten (Nat.le_of_ble_eq_true rfl) ?_
  obtain ⟨Q, hQ⟩ : ∃ Q : Option Value → vM → Prop, Q = (eV (fun U => FRM U (fall m t N) N ∧ U 65 (fall m t N).2.1 = nI (fall m t N).1 ∧ frM V U)) := ⟨_, rfl⟩
  rw [← hQ]
  show XX g jX10_flatten Q V 0 [(0, .ref (g.2.1 49))] []
  refine x_aload_n dX10_flatten_0 0 rfl ?_
  refine x_iconst (v := 0) dX10_flatten_1 (by decide) ?_
  refine x_putI fp_X10_208 rfl rfl dX10_flatten_2 ?_
  obtain ⟨U1, eU1⟩ : ∃ v_v : vM, v_v = uM V 49 32 0 := ⟨_, rfl⟩
  refine YY.V eU1.symm ?_
  refine x_aload_n dX10_flatten_5 0 rfl ?_
  refine x_iconst (v := 0) dX10_flatten_6 (by decide) ?_
  refine x_putI fp_X10_211 rfl rfl dX10_flatten_7 ?_
  obtain ⟨U2, eU2⟩ : ∃ v_v : vM, v_v = uM U1 49 34 0 := ⟨_, rfl⟩
  refine YY.V eU2.symm ?_
  refine x_iconst (v := 0) dX10_flatten_10 (by decide) ?_
  refine x_istore_n 1 [(1, .int 0), (0, .ref (g.2.1 49))] dX10_flatten_11 rfl (by decide) rfl ?_
  have lp3 : ∀ (fu : Nat) (i : Nat) (U : vM), (i ≤ N) → (MLi m t V U i) → (N - i) < fu → XX g jX10_flatten Q U 12 [(1, .int (nI i)), (0, .ref (g.2.1 49))] [] := by
    intro fu
    induction fu with
    | zero => intro _ _ _ _ hmz; exact absurd hmz (Nat.not_lt_zero _)
    | succ fu ih =>
      intro i U hi hM hmz
      have hN24 := hw.1
      obtain ⟨hg1, hg2, hg3, hg4⟩ := fall_ok hw t i hi
      have hcl := cntM_le (kd7 m) i
      have hm50 : U 50 = m := by funext j; rw [frM_at hM.2.2.2, hm0]
      refine x_iload_n dX10_flatten_12 0 rfl ?_
      refine x_aload_n dX10_flatten_13 1 rfl ?_
      refine x_callV (K := jX10_many) [] lk_X10_89 ⟨⟨rfl, rfl⟩, Nat.le_of_ble_eq_true rfl, Nat.le_of_ble_eq_true rfl⟩ rfl rfl (by have := mX10_many (g := g) U; rw [hm50, hN8] at this; exact this) rfl (Nat.le_of_ble_eq_true rfl) rfl dX10_flatten_14 (kpI ?_)
      refine x_icmp_ge 272 dX10_flatten_17 (by decide) (fun c4 => ?_) (fun c4 => ?_)
      · have c4n : N ≤ i := (nl_le (a := N) (b := i) (rfl) (rfl) (by omega) (by omega)).mp c4
        refine x_aload_n dX10_flatten_272 1 rfl ?_
        refine x_getR fl_X10_56 rfl rfl dX10_flatten_273 ?_
        refine x_aload_n dX10_flatten_276 1 rfl ?_
        refine x_getI fl_X10_211 rfl rfl dX10_flatten_277 ?_
        refine x_topi (hM.1.2.1) ?_
        refine x_aload_n dX10_flatten_280 1 rfl ?_
        refine x_getI fl_X10_208 rfl rfl dX10_flatten_281 ?_
        refine x_topi (hM.1.1) ?_
        have b5 : vp_in (nI ((fall m t i).2.1)) 26 := by exact vp_in_nI (by omega) (by decide)
        refine x_iast rfl b5 dX10_flatten_284 ?_
        refine YY.V (V' := uM U 65 ((fall m t i).2.1) (nI ((fall m t i).1))) (by rw [nI_clamp (by omega)]) ?_
        obtain ⟨U6, eU6⟩ : ∃ v_v : vM, v_v = uM U 65 ((fall m t i).2.1) (nI ((fall m t i).1)) := ⟨_, rfl⟩
        refine YY.V eU6.symm ?_
        refine x_vret dX10_flatten_285 rfl ?_
        rw [hQ]
        refine ⟨rfl, ?_⟩
        have e : i = N := by omega
        subst e
        obtain ⟨⟨a1, a2, a3, a4, a5⟩, -, -, fr⟩ := hM
        subst_vars
        exact ⟨⟨by rw [uM_na (by decide)]; exact a1, by rw [uM_na (by decide)]; exact a2, fun j hj => by rw [uM_na (by decide), uM_na (by decide), uM_na (by decide)]; exact a3 j hj, fun j hj => by rw [uM_ni (by omega)]; exact a4 j hj, fun c hc => by rw [uM_na (by decide)]; exact a5 c hc⟩, uM_hit, fun a j n1 n2 => by rw [uM_na (by omega)]; exact fr a j n1 n2⟩
      · have c4n : i < N := Nat.not_le.mp (fun q => c4 ((nl_le (a := N) (b := i) (rfl) (rfl) (by omega) (by omega)).mpr q))
        have hiN : i < N := by omega
        refine x_aload_n dX10_flatten_20 1 rfl ?_
        refine x_getR fl_X10_59 rfl rfl dX10_flatten_21 ?_
        refine x_iload_n dX10_flatten_24 0 rfl ?_
        refine x_iconst (v := 0) dX10_flatten_25 (by decide) ?_
        have b7 : vp_in (nI i) 24 := by exact vp_in_nI (by omega) (by decide)
        refine x_iast rfl b7 dX10_flatten_26 ?_
        refine YY.V (V' := uM U 66 i 0) (by rw [nI_clamp (by omega)]) ?_
        obtain ⟨U8, eU8⟩ : ∃ v_v : vM, v_v = uM U 66 i 0 := ⟨_, rfl⟩
        refine YY.V eU8.symm ?_
        refine x_bipush (v := 7) dX10_flatten_27 (by decide) ?_
        refine x_iload_n dX10_flatten_29 0 rfl ?_
        refine x_imul dX10_flatten_30 ?_
        refine x_istore_n 2 [(2, .int (7 * (nI i))), (1, .int (nI i)), (0, .ref (g.2.1 49))] dX10_flatten_31 rfl (by decide) rfl ?_
        refine x_aload_n dX10_flatten_32 2 rfl ?_
        refine x_iconst (v := 0) dX10_flatten_33 (by decide) ?_
        refine x_putI fp_X10_220 rfl rfl dX10_flatten_34 ?_
        obtain ⟨U9, eU9⟩ : ∃ v_v : vM, v_v = uM U8 49 38 0 := ⟨_, rfl⟩
        refine YY.V eU9.symm ?_
        have hz := ML_zero hM (show U9 = uM (uM U 66 i 0) 49 38 0 by rw [eU9, eU8])
        refine x_aload_n dX10_flatten_37 2 rfl ?_
        refine x_iload_n dX10_flatten_38 1 rfl ?_
        have h50U9 : U9 50 = m := by funext j; rw [eU9, uM_na (by decide), eU8, uM_na (by decide), hm50]
        refine x_callV (K := jX10_kind) [.int (nI i)] lk_X10_93 ⟨⟨rfl, rfl⟩, Nat.le_of_ble_eq_true rfl, Nat.le_of_ble_eq_true rfl⟩ rfl rfl (by have := mX10_kind (g := g) U9 i (by omega); rw [h50U9] at this; exact this) rfl (Nat.le_of_ble_eq_true rfl) rfl dX10_flatten_39 (kpI ?_)
        by_cases c10 : (m (i * 7)) = 0
        · refine x_tableIn 72 dX10_flatten_42 (by rw [c10]; decide) (by rw [c10]; decide) (by rw [c10]; rfl) (by decide) ?_
          refine x_aload_n dX10_flatten_72 2 rfl ?_
          refine x_getR fl_X10_56 rfl rfl dX10_flatten_73 ?_
          refine x_aload_n dX10_flatten_76 2 rfl ?_
          refine x_getI fl_X10_211 rfl rfl dX10_flatten_77 ?_
          refine x_topi (y := U 49 34) (by rw [eU9, uM_ni (by decide), eU8, uM_na (by decide)]) ?_
          refine x_topi (hM.1.2.1) ?_
          refine x_aload_n dX10_flatten_80 2 rfl ?_
          refine x_getI fl_X10_208 rfl rfl dX10_flatten_81 ?_
          refine x_topi (y := U 49 32) (by rw [eU9, uM_ni (by decide), eU8, uM_na (by decide)]) ?_
          refine x_topi (hM.1.1) ?_
          have b11 : vp_in (nI ((fall m t i).2.1)) 26 := by exact vp_in_nI (by omega) (by decide)
          refine x_iast rfl b11 dX10_flatten_84 ?_
          refine YY.V (V' := uM U9 65 ((fall m t i).2.1) (nI ((fall m t i).1))) (by rw [nI_clamp (by omega)]) ?_
          obtain ⟨U12, eU12⟩ : ∃ v_v : vM, v_v = uM U9 65 ((fall m t i).2.1) (nI ((fall m t i).1)) := ⟨_, rfl⟩
          refine YY.V eU12.symm ?_
          refine x_aload_n dX10_flatten_85 2 rfl ?_
          refine x_dup dX10_flatten_86 rfl ?_
          refine x_getI fl_X10_211 rfl rfl dX10_flatten_87 ?_
          refine x_topi (y := U 49 34) (by rw [eU12, uM_na (by decide), eU9, uM_ni (by decide), eU8, uM_na (by decide)]) ?_
          refine x_topi (hM.1.2.1) ?_
          refine x_iconst (v := 1) dX10_flatten_90 (by decide) ?_
          refine x_iadd dX10_flatten_91 ?_
          refine x_putI fp_X10_211 rfl rfl dX10_flatten_92 ?_
          obtain ⟨U13, eU13⟩ : ∃ v_v : vM, v_v = uM U12 49 34 ((nI ((fall m t i).2.1)) + 1) := ⟨_, rfl⟩
          refine YY.V eU13.symm ?_
          refine x_aload_n dX10_flatten_95 2 rfl ?_
          refine x_iload_n dX10_flatten_96 1 rfl ?_
          refine x_aload_n dX10_flatten_97 2 rfl ?_
          refine x_iload_n dX10_flatten_98 1 rfl ?_
          have h50U13 : U13 50 = m := by funext j; rw [eU13, uM_na (by decide), eU12, uM_na (by decide), eU9, uM_na (by decide), eU8, uM_na (by decide), hm50]
          refine x_callV (K := jX10_endX) [.int (nI i)] lk_X10_114 ⟨⟨rfl, rfl⟩, Nat.le_of_ble_eq_true rfl, Nat.le_of_ble_eq_true rfl⟩ rfl rfl (by have := mX10_endX (g := g) U13 N hN24 (by rw [h50U13]; exact hN8) (by rw [h50U13]; exact hw) i (by omega); rw [h50U13] at this; exact this) rfl (Nat.le_of_ble_eq_true rfl) rfl dX10_flatten_99 (kpI ?_)
          refine x_aload_n dX10_flatten_102 2 rfl ?_
          refine x_iload_n dX10_flatten_103 1 rfl ?_
          have h50U13 : U13 50 = m := by funext j; rw [eU13, uM_na (by decide), eU12, uM_na (by decide), eU9, uM_na (by decide), eU8, uM_na (by decide), hm50]
          refine x_callV (K := jX10_endY) [.int (nI i)] lk_X10_117 ⟨⟨rfl, rfl⟩, Nat.le_of_ble_eq_true rfl, Nat.le_of_ble_eq_true rfl⟩ rfl rfl (by have := mX10_endY (g := g) U13 N hN24 (by rw [h50U13]; exact hN8) (by rw [h50U13]; exact hw) i (by omega); rw [h50U13] at this; exact this) rfl (Nat.le_of_ble_eq_true rfl) rfl dX10_flatten_104 (kpI ?_)
          have hxr := hw.exy_r hiN
          have hAv := mX10_addVertex (g := g) U13 (n := (fall m t i).1) (f := (fall m t i).2.1 + 1) (b := (fall m t i).1) (by rw [eU13, uM_ni (by decide), eU12, uM_na (by decide)]; exact hz.1.1) (by rw [eU13, uM_hit, nI_1]) (by omega) (by omega) (by rw [Nat.add_sub_cancel]; rw [eU13, uM_na (by decide), eU12, uM_hit]) (Nat.le_refl _) (by omega) i (by omega) (ex7 m i) (ey7 m i) (fun q => absurd q (by omega))
          rw [if_neg (Nat.lt_irrefl _)] at hAv
          refine x_callV (K := jX10_addVertex) [.int (nI i), .int (ex7 m i), .int (ey7 m i)] lk_X10_227 ⟨⟨rfl, rfl⟩, Nat.le_of_ble_eq_true rfl, Nat.le_of_ble_eq_true rfl⟩ rfl rfl (hAv) rfl (Nat.le_of_ble_eq_true rfl) rfl dX10_flatten_107 (kdV ?_)
          obtain ⟨U14, eU14⟩ : ∃ v_v : vM, v_v = mcap U13 (fall m t i).1 (ex7 m i) (ey7 m i) 0 := ⟨_, rfl⟩
          refine YY.V eU14.symm ?_
          refine x_goto 266 dX10_flatten_110 (by decide) ?_
          refine x_iinc 1 (v := (nI i) + 1) 1 [(1, .int ((nI i) + 1)), (2, .int (7 * (nI i))), (0, .ref (g.2.1 49))] dX10_flatten_266 rfl (by rfl) (by decide) rfl ?_
          refine x_goto 12 dX10_flatten_269 (by decide) ?_
          refine x_lv [0, 2] rfl ?_
          refine YY.L (lv' := [(1, .int (nI (i + 1))), (0, .ref (g.2.1 49))]) (by first | rfl | (simp only [nI_1]; done) | (simp only [← nI_add]; rfl)) ?_
          exact ih (i + 1) U14 (by omega) (by first | exact hEnd | exact ML_add hz hi0 hS1 (by grind) (by grind) (by grind) (by assumption) | exact ML_move hz (by assumption) (by subst_vars; simp only [nI_1])) (by omega)
        by_cases c15 : (m (i * 7)) = 1
        · refine x_tableIn 251 dX10_flatten_42 (by rw [c15]; decide) (by rw [c15]; decide) (by rw [c15]; rfl) (by decide) ?_
          have hi0 : 0 < i := by obtain ⟨j, q, -⟩ := (hw.2 i hiN).2.1 (by grind); omega
          have hS1 := hg1 hi0
          refine x_aload_n dX10_flatten_251 2 rfl ?_
          refine x_iload_n dX10_flatten_252 1 rfl ?_
          refine x_aload_n dX10_flatten_253 2 rfl ?_
          refine x_iload_n dX10_flatten_254 1 rfl ?_
          have h50U9 : U9 50 = m := by funext j; rw [eU9, uM_na (by decide), eU8, uM_na (by decide), hm50]
          refine x_callV (K := jX10_endX) [.int (nI i)] lk_X10_114 ⟨⟨rfl, rfl⟩, Nat.le_of_ble_eq_true rfl, Nat.le_of_ble_eq_true rfl⟩ rfl rfl (by have := mX10_endX (g := g) U9 N hN24 (by rw [h50U9]; exact hN8) (by rw [h50U9]; exact hw) i (by omega); rw [h50U9] at this; exact this) rfl (Nat.le_of_ble_eq_true rfl) rfl dX10_flatten_255 (kpI ?_)
          refine x_aload_n dX10_flatten_258 2 rfl ?_
          refine x_iload_n dX10_flatten_259 1 rfl ?_
          have h50U9 : U9 50 = m := by funext j; rw [eU9, uM_na (by decide), eU8, uM_na (by decide), hm50]
          refine x_callV (K := jX10_endY) [.int (nI i)] lk_X10_117 ⟨⟨rfl, rfl⟩, Nat.le_of_ble_eq_true rfl, Nat.le_of_ble_eq_true rfl⟩ rfl rfl (by have := mX10_endY (g := g) U9 N hN24 (by rw [h50U9]; exact hN8) (by rw [h50U9]; exact hw) i (by omega); rw [h50U9] at this; exact this) rfl (Nat.le_of_ble_eq_true rfl) rfl dX10_flatten_260 (kpI ?_)
          have hxr := hw.exy_r hiN
          refine x_callV (K := jX10_addVertex) [.int (nI i), .int (ex7 m i), .int (ey7 m i)] lk_X10_227 ⟨⟨rfl, rfl⟩, Nat.le_of_ble_eq_true rfl, Nat.le_of_ble_eq_true rfl⟩ rfl rfl (mX10_addVertexS hz.1 (hS1.five i 0) (hz.2.1 hi0) (by show (fall m t i).1 < 1700; omega) i (by omega) hxr.1 hxr.2) rfl (Nat.le_of_ble_eq_true rfl) rfl dX10_flatten_263 (kdV ?_)
          obtain ⟨U16, eU16⟩ : ∃ v_v : vM, v_v = mavV U9 (s5 (fall m t i) i) i (ex7 m i) (ey7 m i) := ⟨_, rfl⟩
          refine YY.V eU16.symm ?_
          refine x_iinc 1 (v := (nI i) + 1) 1 [(1, .int ((nI i) + 1)), (2, .int (7 * (nI i))), (0, .ref (g.2.1 49))] dX10_flatten_266 rfl (by rfl) (by decide) rfl ?_
          refine x_goto 12 dX10_flatten_269 (by decide) ?_
          refine x_lv [0, 2] rfl ?_
          refine YY.L (lv' := [(1, .int (nI (i + 1))), (0, .ref (g.2.1 49))]) (by first | rfl | (simp only [nI_1]; done) | (simp only [← nI_add]; rfl)) ?_
          exact ih (i + 1) U16 (by omega) (by first | exact hEnd | exact ML_add hz hi0 hS1 (by grind) (by grind) (by grind) (by assumption) | exact ML_move hz (by assumption) (by subst_vars; simp only [nI_1])) (by omega)
        by_cases c17 : (m (i * 7)) = 2
        · refine x_tableIn 113 dX10_flatten_42 (by rw [c17]; decide) (by rw [c17]; decide) (by rw [c17]; rfl) (by decide) ?_
          have hi0 : 0 < i := by obtain ⟨j, q, -⟩ := (hw.2 i hiN).2.1 (by grind); omega
          have hS1 := hg1 hi0
          refine x_aload_n dX10_flatten_113 2 rfl ?_
          refine x_iconst (v := 0) dX10_flatten_114 (by decide) ?_
          refine x_aload_n dX10_flatten_115 2 rfl ?_
          refine x_iload_n dX10_flatten_116 1 rfl ?_
          refine x_iconst (v := 1) dX10_flatten_117 (by decide) ?_
          refine x_isub dX10_flatten_118 ?_
          have q18 : ((nI i) - 1 : Int32) = nI (i - 1) := nsub (by omega) (rfl) (rfl)
          refine YY.S (st' := [.int (nI (i - 1)), .ref (g.2.1 49), .int 0, .ref (g.2.1 49)]) (by rw [q18]) ?_
          have h50U9 : U9 50 = m := by funext j; rw [eU9, uM_na (by decide), eU8, uM_na (by decide), hm50]
          refine x_callV (K := jX10_endX) [.int (nI (i - 1))] lk_X10_114 ⟨⟨rfl, rfl⟩, Nat.le_of_ble_eq_true rfl, Nat.le_of_ble_eq_true rfl⟩ rfl rfl (by have := mX10_endX (g := g) U9 N hN24 (by rw [h50U9]; exact hN8) (by rw [h50U9]; exact hw) (i - 1) (by omega); rw [h50U9] at this; exact this) rfl (Nat.le_of_ble_eq_true rfl) rfl dX10_flatten_119 (kpI ?_)
          refine x_aload_n dX10_flatten_122 2 rfl ?_
          refine x_iload_n dX10_flatten_123 1 rfl ?_
          refine x_iconst (v := 1) dX10_flatten_124 (by decide) ?_
          refine x_isub dX10_flatten_125 ?_
          have q19 : ((nI i) - 1 : Int32) = nI (i - 1) := nsub (by omega) (rfl) (rfl)
          refine YY.S (st' := [.int (nI (i - 1)), .ref (g.2.1 49), .int (ex7 m (i - 1)), .int 0, .ref (g.2.1 49)]) (by rw [q19]) ?_
          have h50U9 : U9 50 = m := by funext j; rw [eU9, uM_na (by decide), eU8, uM_na (by decide), hm50]
          refine x_callV (K := jX10_endY) [.int (nI (i - 1))] lk_X10_117 ⟨⟨rfl, rfl⟩, Nat.le_of_ble_eq_true rfl, Nat.le_of_ble_eq_true rfl⟩ rfl rfl (by have := mX10_endY (g := g) U9 N hN24 (by rw [h50U9]; exact hN8) (by rw [h50U9]; exact hw) (i - 1) (by omega); rw [h50U9] at this; exact this) rfl (Nat.le_of_ble_eq_true rfl) rfl dX10_flatten_126 (kpI ?_)
          refine x_aload_n dX10_flatten_129 2 rfl ?_
          refine x_getR fl_X10_9 rfl rfl dX10_flatten_130 ?_
          refine x_iload_n dX10_flatten_133 0 rfl ?_
          refine x_iconst (v := 1) dX10_flatten_134 (by decide) ?_
          refine x_iadd dX10_flatten_135 ?_
          have q20 : ((7 * (nI i)) + 1 : Int32) = nI ((7 * i) + 1) := nadd (nmul (rfl) (rfl)) (rfl)
          refine YY.S (st' := [.int (nI ((7 * i) + 1)), .ref (g.2.1 50), .int (ey7 m (i - 1)), .int (ex7 m (i - 1)), .int 0, .ref (g.2.1 49)]) (by rw [q20]) ?_
          have b21 : vp_in (nI ((7 * i) + 1)) 170 := by exact vp_in_nI (by omega) (by decide)
          refine x_iald rfl b21 dX10_flatten_136 ?_
          refine x_topi (y := U9 50 ((7 * i) + 1)) (by rw [nI_clamp (by omega)]) ?_
          refine x_topi (y := U 50 ((7 * i) + 1)) (by rw [eU9, uM_na (by decide), eU8, uM_na (by decide)]) ?_
          refine x_aload_n dX10_flatten_137 2 rfl ?_
          refine x_getR fl_X10_9 rfl rfl dX10_flatten_138 ?_
          refine x_iload_n dX10_flatten_141 0 rfl ?_
          refine x_iconst (v := 2) dX10_flatten_142 (by decide) ?_
          refine x_iadd dX10_flatten_143 ?_
          have q22 : ((7 * (nI i)) + 2 : Int32) = nI ((7 * i) + 2) := nadd (nmul (rfl) (rfl)) (rfl)
          refine YY.S (st' := [.int (nI ((7 * i) + 2)), .ref (g.2.1 50), .int (U 50 ((7 * i) + 1)), .int (ey7 m (i - 1)), .int (ex7 m (i - 1)), .int 0, .ref (g.2.1 49)]) (by rw [q22]) ?_
          have b23 : vp_in (nI ((7 * i) + 2)) 170 := by exact vp_in_nI (by omega) (by decide)
          refine x_iald rfl b23 dX10_flatten_144 ?_
          refine x_topi (y := U9 50 ((7 * i) + 2)) (by rw [nI_clamp (by omega)]) ?_
          refine x_topi (y := U 50 ((7 * i) + 2)) (by rw [eU9, uM_na (by decide), eU8, uM_na (by decide)]) ?_
          refine x_aload_n dX10_flatten_145 2 rfl ?_
          refine x_getR fl_X10_9 rfl rfl dX10_flatten_146 ?_
          refine x_iload_n dX10_flatten_149 0 rfl ?_
          refine x_iconst (v := 5) dX10_flatten_150 (by decide) ?_
          refine x_iadd dX10_flatten_151 ?_
          have q24 : ((7 * (nI i)) + 5 : Int32) = nI ((7 * i) + 5) := nadd (nmul (rfl) (rfl)) (rfl)
          refine YY.S (st' := [.int (nI ((7 * i) + 5)), .ref (g.2.1 50), .int (U 50 ((7 * i) + 2)), .int (U 50 ((7 * i) + 1)), .int (ey7 m (i - 1)), .int (ex7 m (i - 1)), .int 0, .ref (g.2.1 49)]) (by rw [q24]) ?_
          have b25 : vp_in (nI ((7 * i) + 5)) 170 := by exact vp_in_nI (by omega) (by decide)
          refine x_iald rfl b25 dX10_flatten_152 ?_
          refine x_topi (y := U9 50 ((7 * i) + 5)) (by rw [nI_clamp (by omega)]) ?_
          refine x_topi (y := U 50 ((7 * i) + 5)) (by rw [eU9, uM_na (by decide), eU8, uM_na (by decide)]) ?_
          refine x_aload_n dX10_flatten_153 2 rfl ?_
          refine x_getR fl_X10_9 rfl rfl dX10_flatten_154 ?_
          refine x_iload_n dX10_flatten_157 0 rfl ?_
          refine x_bipush (v := 6) dX10_flatten_158 (by decide) ?_
          refine x_iadd dX10_flatten_160 ?_
          have q26 : ((7 * (nI i)) + 6 : Int32) = nI ((7 * i) + 6) := nadd (nmul (rfl) (rfl)) (rfl)
          refine YY.S (st' := [.int (nI ((7 * i) + 6)), .ref (g.2.1 50), .int (U 50 ((7 * i) + 5)), .int (U 50 ((7 * i) + 2)), .int (U 50 ((7 * i) + 1)), .int (ey7 m (i - 1)), .int (ex7 m (i - 1)), .int 0, .ref (g.2.1 49)]) (by rw [q26]) ?_
          have b27 : vp_in (nI ((7 * i) + 6)) 170 := by exact vp_in_nI (by omega) (by decide)
          refine x_iald rfl b27 dX10_flatten_161 ?_
          refine x_topi (y := U9 50 ((7 * i) + 6)) (by rw [nI_clamp (by omega)]) ?_
          refine x_topi (y := U 50 ((7 * i) + 6)) (by rw [eU9, uM_na (by decide), eU8, uM_na (by decide)]) ?_
          refine x_iconst (v := 0) dX10_flatten_162 (by decide) ?_
          refine x_iconst (v := 0) dX10_flatten_163 (by decide) ?_
          have hp0 : U9 49 38 = nI 0 := by rw [eU9, uM_hit]; rfl
          refine x_callV (K := jX10_push) [.int 0, .int (ex7 m (i - 1)), .int (ey7 m (i - 1)), .int (U 50 ((7 * i) + 1)), .int (U 50 ((7 * i) + 2)), .int (U 50 ((7 * i) + 5)), .int (U 50 ((7 * i) + 6)), .int 0, .int 0] lk_X10_235 ⟨⟨rfl, rfl⟩, Nat.le_of_ble_eq_true rfl, Nat.le_of_ble_eq_true rfl⟩ rfl rfl (mX10_push U9 (m := 0) hp0 (by omega) 0 (ex7 m (i - 1)) (ey7 m (i - 1)) (U 50 ((7 * i) + 1)) (U 50 ((7 * i) + 2)) (U 50 ((7 * i) + 5)) (U 50 ((7 * i) + 6)) 0 0) rfl (Nat.le_of_ble_eq_true rfl) rfl dX10_flatten_164 (kdV ?_)
          obtain ⟨U28, eU28⟩ : ∃ v_v : vM, v_v = mpush U9 0 0 (ex7 m (i - 1)) (ey7 m (i - 1)) (U 50 ((7 * i) + 1)) (U 50 ((7 * i) + 2)) (U 50 ((7 * i) + 5)) (U 50 ((7 * i) + 6)) 0 0 := ⟨_, rfl⟩
          refine YY.V eU28.symm ?_
          refine x_aload_n dX10_flatten_167 2 rfl ?_
          refine x_iload_n dX10_flatten_168 1 rfl ?_
          have hP5 : ∀ j, U9 50 j = m j := fun j => by rw [h50U9]
          have hcv := cv7_2 (m := m) (i := i) (by assumption)
          have hH0 := ML_curve hw hiN (l := 2) (by omega) hz hi0 hS1 (by assumption) eU28 (by simp only [hP5, hm50, hcv, Nat.mul_comm 7 i, and_self]) (fun q => absurd q (by decide))
          have ht5 : U28 50 169 = t := by rw [eU28, mpush_at (by omega) (by omega) (by omega), h50U9]; exact ht
          refine x_callV (K := jX10_flattenQuad) [.int (nI i)] lk_X10_239 ⟨⟨rfl, rfl⟩, Nat.le_of_ble_eq_true rfl, Nat.le_of_ble_eq_true rfl⟩ rfl rfl (mX10_flattenQuad U28 i (by omega) t ht5 (B := (fall m t i).1 + 64) (by omega) hH0) rfl (Nat.le_of_ble_eq_true rfl) rfl dX10_flatten_169 (keV fun U29 hU30 => ?_)
          have hEnd := ML_cend (l := 2) (by omega) (by assumption) hz.2.2.2 eU28 hU30
          refine x_goto 266 dX10_flatten_172 (by decide) ?_
          refine x_iinc 1 (v := (nI i) + 1) 1 [(1, .int ((nI i) + 1)), (2, .int (7 * (nI i))), (0, .ref (g.2.1 49))] dX10_flatten_266 rfl (by rfl) (by decide) rfl ?_
          refine x_goto 12 dX10_flatten_269 (by decide) ?_
          refine x_lv [0, 2] rfl ?_
          refine YY.L (lv' := [(1, .int (nI (i + 1))), (0, .ref (g.2.1 49))]) (by first | rfl | (simp only [nI_1]; done) | (simp only [← nI_add]; rfl)) ?_
          exact ih (i + 1) U29 (by omega) (by first | exact hEnd | exact ML_add hz hi0 hS1 (by grind) (by grind) (by grind) (by assumption) | exact ML_move hz (by assumption) (by subst_vars; simp only [nI_1])) (by omega)
        by_cases c31 : (m (i * 7)) = 3
        · refine x_tableIn 175 dX10_flatten_42 (by rw [c31]; decide) (by rw [c31]; decide) (by rw [c31]; rfl) (by decide) ?_
          have hi0 : 0 < i := by obtain ⟨j, q, -⟩ := (hw.2 i hiN).2.1 (by grind); omega
          have hS1 := hg1 hi0
          refine x_aload_n dX10_flatten_175 2 rfl ?_
          refine x_iconst (v := 0) dX10_flatten_176 (by decide) ?_
          refine x_aload_n dX10_flatten_177 2 rfl ?_
          refine x_iload_n dX10_flatten_178 1 rfl ?_
          refine x_iconst (v := 1) dX10_flatten_179 (by decide) ?_
          refine x_isub dX10_flatten_180 ?_
          have q32 : ((nI i) - 1 : Int32) = nI (i - 1) := nsub (by omega) (rfl) (rfl)
          refine YY.S (st' := [.int (nI (i - 1)), .ref (g.2.1 49), .int 0, .ref (g.2.1 49)]) (by rw [q32]) ?_
          have h50U9 : U9 50 = m := by funext j; rw [eU9, uM_na (by decide), eU8, uM_na (by decide), hm50]
          refine x_callV (K := jX10_endX) [.int (nI (i - 1))] lk_X10_114 ⟨⟨rfl, rfl⟩, Nat.le_of_ble_eq_true rfl, Nat.le_of_ble_eq_true rfl⟩ rfl rfl (by have := mX10_endX (g := g) U9 N hN24 (by rw [h50U9]; exact hN8) (by rw [h50U9]; exact hw) (i - 1) (by omega); rw [h50U9] at this; exact this) rfl (Nat.le_of_ble_eq_true rfl) rfl dX10_flatten_181 (kpI ?_)
          refine x_aload_n dX10_flatten_184 2 rfl ?_
          refine x_iload_n dX10_flatten_185 1 rfl ?_
          refine x_iconst (v := 1) dX10_flatten_186 (by decide) ?_
          refine x_isub dX10_flatten_187 ?_
          have q33 : ((nI i) - 1 : Int32) = nI (i - 1) := nsub (by omega) (rfl) (rfl)
          refine YY.S (st' := [.int (nI (i - 1)), .ref (g.2.1 49), .int (ex7 m (i - 1)), .int 0, .ref (g.2.1 49)]) (by rw [q33]) ?_
          have h50U9 : U9 50 = m := by funext j; rw [eU9, uM_na (by decide), eU8, uM_na (by decide), hm50]
          refine x_callV (K := jX10_endY) [.int (nI (i - 1))] lk_X10_117 ⟨⟨rfl, rfl⟩, Nat.le_of_ble_eq_true rfl, Nat.le_of_ble_eq_true rfl⟩ rfl rfl (by have := mX10_endY (g := g) U9 N hN24 (by rw [h50U9]; exact hN8) (by rw [h50U9]; exact hw) (i - 1) (by omega); rw [h50U9] at this; exact this) rfl (Nat.le_of_ble_eq_true rfl) rfl dX10_flatten_188 (kpI ?_)
          refine x_aload_n dX10_flatten_191 2 rfl ?_
          refine x_getR fl_X10_9 rfl rfl dX10_flatten_192 ?_
          refine x_iload_n dX10_flatten_195 0 rfl ?_
          refine x_iconst (v := 1) dX10_flatten_196 (by decide) ?_
          refine x_iadd dX10_flatten_197 ?_
          have q34 : ((7 * (nI i)) + 1 : Int32) = nI ((7 * i) + 1) := nadd (nmul (rfl) (rfl)) (rfl)
          refine YY.S (st' := [.int (nI ((7 * i) + 1)), .ref (g.2.1 50), .int (ey7 m (i - 1)), .int (ex7 m (i - 1)), .int 0, .ref (g.2.1 49)]) (by rw [q34]) ?_
          have b35 : vp_in (nI ((7 * i) + 1)) 170 := by exact vp_in_nI (by omega) (by decide)
          refine x_iald rfl b35 dX10_flatten_198 ?_
          refine x_topi (y := U9 50 ((7 * i) + 1)) (by rw [nI_clamp (by omega)]) ?_
          refine x_topi (y := U 50 ((7 * i) + 1)) (by rw [eU9, uM_na (by decide), eU8, uM_na (by decide)]) ?_
          refine x_aload_n dX10_flatten_199 2 rfl ?_
          refine x_getR fl_X10_9 rfl rfl dX10_flatten_200 ?_
          refine x_iload_n dX10_flatten_203 0 rfl ?_
          refine x_iconst (v := 2) dX10_flatten_204 (by decide) ?_
          refine x_iadd dX10_flatten_205 ?_
          have q36 : ((7 * (nI i)) + 2 : Int32) = nI ((7 * i) + 2) := nadd (nmul (rfl) (rfl)) (rfl)
          refine YY.S (st' := [.int (nI ((7 * i) + 2)), .ref (g.2.1 50), .int (U 50 ((7 * i) + 1)), .int (ey7 m (i - 1)), .int (ex7 m (i - 1)), .int 0, .ref (g.2.1 49)]) (by rw [q36]) ?_
          have b37 : vp_in (nI ((7 * i) + 2)) 170 := by exact vp_in_nI (by omega) (by decide)
          refine x_iald rfl b37 dX10_flatten_206 ?_
          refine x_topi (y := U9 50 ((7 * i) + 2)) (by rw [nI_clamp (by omega)]) ?_
          refine x_topi (y := U 50 ((7 * i) + 2)) (by rw [eU9, uM_na (by decide), eU8, uM_na (by decide)]) ?_
          refine x_aload_n dX10_flatten_207 2 rfl ?_
          refine x_getR fl_X10_9 rfl rfl dX10_flatten_208 ?_
          refine x_iload_n dX10_flatten_211 0 rfl ?_
          refine x_iconst (v := 3) dX10_flatten_212 (by decide) ?_
          refine x_iadd dX10_flatten_213 ?_
          have q38 : ((7 * (nI i)) + 3 : Int32) = nI ((7 * i) + 3) := nadd (nmul (rfl) (rfl)) (rfl)
          refine YY.S (st' := [.int (nI ((7 * i) + 3)), .ref (g.2.1 50), .int (U 50 ((7 * i) + 2)), .int (U 50 ((7 * i) + 1)), .int (ey7 m (i - 1)), .int (ex7 m (i - 1)), .int 0, .ref (g.2.1 49)]) (by rw [q38]) ?_
          have b39 : vp_in (nI ((7 * i) + 3)) 170 := by exact vp_in_nI (by omega) (by decide)
          refine x_iald rfl b39 dX10_flatten_214 ?_
          refine x_topi (y := U9 50 ((7 * i) + 3)) (by rw [nI_clamp (by omega)]) ?_
          refine x_topi (y := U 50 ((7 * i) + 3)) (by rw [eU9, uM_na (by decide), eU8, uM_na (by decide)]) ?_
          refine x_aload_n dX10_flatten_215 2 rfl ?_
          refine x_getR fl_X10_9 rfl rfl dX10_flatten_216 ?_
          refine x_iload_n dX10_flatten_219 0 rfl ?_
          refine x_iconst (v := 4) dX10_flatten_220 (by decide) ?_
          refine x_iadd dX10_flatten_221 ?_
          have q40 : ((7 * (nI i)) + 4 : Int32) = nI ((7 * i) + 4) := nadd (nmul (rfl) (rfl)) (rfl)
          refine YY.S (st' := [.int (nI ((7 * i) + 4)), .ref (g.2.1 50), .int (U 50 ((7 * i) + 3)), .int (U 50 ((7 * i) + 2)), .int (U 50 ((7 * i) + 1)), .int (ey7 m (i - 1)), .int (ex7 m (i - 1)), .int 0, .ref (g.2.1 49)]) (by rw [q40]) ?_
          have b41 : vp_in (nI ((7 * i) + 4)) 170 := by exact vp_in_nI (by omega) (by decide)
          refine x_iald rfl b41 dX10_flatten_222 ?_
          refine x_topi (y := U9 50 ((7 * i) + 4)) (by rw [nI_clamp (by omega)]) ?_
          refine x_topi (y := U 50 ((7 * i) + 4)) (by rw [eU9, uM_na (by decide), eU8, uM_na (by decide)]) ?_
          refine x_aload_n dX10_flatten_223 2 rfl ?_
          refine x_getR fl_X10_9 rfl rfl dX10_flatten_224 ?_
          refine x_iload_n dX10_flatten_227 0 rfl ?_
          refine x_iconst (v := 5) dX10_flatten_228 (by decide) ?_
          refine x_iadd dX10_flatten_229 ?_
          have q42 : ((7 * (nI i)) + 5 : Int32) = nI ((7 * i) + 5) := nadd (nmul (rfl) (rfl)) (rfl)
          refine YY.S (st' := [.int (nI ((7 * i) + 5)), .ref (g.2.1 50), .int (U 50 ((7 * i) + 4)), .int (U 50 ((7 * i) + 3)), .int (U 50 ((7 * i) + 2)), .int (U 50 ((7 * i) + 1)), .int (ey7 m (i - 1)), .int (ex7 m (i - 1)), .int 0, .ref (g.2.1 49)]) (by rw [q42]) ?_
          have b43 : vp_in (nI ((7 * i) + 5)) 170 := by exact vp_in_nI (by omega) (by decide)
          refine x_iald rfl b43 dX10_flatten_230 ?_
          refine x_topi (y := U9 50 ((7 * i) + 5)) (by rw [nI_clamp (by omega)]) ?_
          refine x_topi (y := U 50 ((7 * i) + 5)) (by rw [eU9, uM_na (by decide), eU8, uM_na (by decide)]) ?_
          refine x_aload_n dX10_flatten_231 2 rfl ?_
          refine x_getR fl_X10_9 rfl rfl dX10_flatten_232 ?_
          refine x_iload_n dX10_flatten_235 0 rfl ?_
          refine x_bipush (v := 6) dX10_flatten_236 (by decide) ?_
          refine x_iadd dX10_flatten_238 ?_
          have q44 : ((7 * (nI i)) + 6 : Int32) = nI ((7 * i) + 6) := nadd (nmul (rfl) (rfl)) (rfl)
          refine YY.S (st' := [.int (nI ((7 * i) + 6)), .ref (g.2.1 50), .int (U 50 ((7 * i) + 5)), .int (U 50 ((7 * i) + 4)), .int (U 50 ((7 * i) + 3)), .int (U 50 ((7 * i) + 2)), .int (U 50 ((7 * i) + 1)), .int (ey7 m (i - 1)), .int (ex7 m (i - 1)), .int 0, .ref (g.2.1 49)]) (by rw [q44]) ?_
          have b45 : vp_in (nI ((7 * i) + 6)) 170 := by exact vp_in_nI (by omega) (by decide)
          refine x_iald rfl b45 dX10_flatten_239 ?_
          refine x_topi (y := U9 50 ((7 * i) + 6)) (by rw [nI_clamp (by omega)]) ?_
          refine x_topi (y := U 50 ((7 * i) + 6)) (by rw [eU9, uM_na (by decide), eU8, uM_na (by decide)]) ?_
          have hp0 : U9 49 38 = nI 0 := by rw [eU9, uM_hit]; rfl
          refine x_callV (K := jX10_push) [.int 0, .int (ex7 m (i - 1)), .int (ey7 m (i - 1)), .int (U 50 ((7 * i) + 1)), .int (U 50 ((7 * i) + 2)), .int (U 50 ((7 * i) + 3)), .int (U 50 ((7 * i) + 4)), .int (U 50 ((7 * i) + 5)), .int (U 50 ((7 * i) + 6))] lk_X10_235 ⟨⟨rfl, rfl⟩, Nat.le_of_ble_eq_true rfl, Nat.le_of_ble_eq_true rfl⟩ rfl rfl (mX10_push U9 (m := 0) hp0 (by omega) 0 (ex7 m (i - 1)) (ey7 m (i - 1)) (U 50 ((7 * i) + 1)) (U 50 ((7 * i) + 2)) (U 50 ((7 * i) + 3)) (U 50 ((7 * i) + 4)) (U 50 ((7 * i) + 5)) (U 50 ((7 * i) + 6))) rfl (Nat.le_of_ble_eq_true rfl) rfl dX10_flatten_240 (kdV ?_)
          obtain ⟨U46, eU46⟩ : ∃ v_v : vM, v_v = mpush U9 0 0 (ex7 m (i - 1)) (ey7 m (i - 1)) (U 50 ((7 * i) + 1)) (U 50 ((7 * i) + 2)) (U 50 ((7 * i) + 3)) (U 50 ((7 * i) + 4)) (U 50 ((7 * i) + 5)) (U 50 ((7 * i) + 6)) := ⟨_, rfl⟩
          refine YY.V eU46.symm ?_
          refine x_aload_n dX10_flatten_243 2 rfl ?_
          refine x_iload_n dX10_flatten_244 1 rfl ?_
          have hP5 : ∀ j, U9 50 j = m j := fun j => by rw [h50U9]
          have hcv := cv7_3 (m := m) (i := i) (by assumption)
          have hH0 := ML_curve hw hiN (l := 3) (by omega) hz hi0 hS1 (by assumption) eU46 (by simp only [hP5, hm50, hcv, Nat.mul_comm 7 i, and_self]) (fun _ => by simp only [hP5, hm50, hcv, Nat.mul_comm 7 i, and_self])
          have ht5 : U46 50 169 = t := by rw [eU46, mpush_at (by omega) (by omega) (by omega), h50U9]; exact ht
          refine x_callV (K := jX10_flattenCubic) [.int (nI i)] lk_X10_242 ⟨⟨rfl, rfl⟩, Nat.le_of_ble_eq_true rfl, Nat.le_of_ble_eq_true rfl⟩ rfl rfl (mX10_flattenCubic U46 i (by omega) t ht5 (B := (fall m t i).1 + 64) (by omega) hH0) rfl (Nat.le_of_ble_eq_true rfl) rfl dX10_flatten_245 (keV fun U47 hU48 => ?_)
          have hEnd := ML_cend (l := 3) (by omega) (by assumption) hz.2.2.2 eU46 hU48
          refine x_goto 266 dX10_flatten_248 (by decide) ?_
          refine x_iinc 1 (v := (nI i) + 1) 1 [(1, .int ((nI i) + 1)), (2, .int (7 * (nI i))), (0, .ref (g.2.1 49))] dX10_flatten_266 rfl (by rfl) (by decide) rfl ?_
          refine x_goto 12 dX10_flatten_269 (by decide) ?_
          refine x_lv [0, 2] rfl ?_
          refine YY.L (lv' := [(1, .int (nI (i + 1))), (0, .ref (g.2.1 49))]) (by first | rfl | (simp only [nI_1]; done) | (simp only [← nI_add]; rfl)) ?_
          exact ih (i + 1) U47 (by omega) (by first | exact hEnd | exact ML_add hz hi0 hS1 (by grind) (by grind) (by grind) (by assumption) | exact ML_move hz (by assumption) (by subst_vars; simp only [nI_1])) (by omega)
        refine x_tableOut 251 dX10_flatten_42 (by have q0 : ¬ (m (i * 7)).toInt = 0 := fun q => c10 (Int32.toInt_inj.mp (q.trans (by decide))); have q1 : ¬ (m (i * 7)).toInt = 1 := fun q => c15 (Int32.toInt_inj.mp (q.trans (by decide))); have q2 : ¬ (m (i * 7)).toInt = 2 := fun q => c17 (Int32.toInt_inj.mp (q.trans (by decide))); have q3 : ¬ (m (i * 7)).toInt = 3 := fun q => c31 (Int32.toInt_inj.mp (q.trans (by decide))); omega) (by decide) ?_
        have hi0 : 0 < i := by obtain ⟨j, q, -⟩ := (hw.2 i hiN).2.1 (by grind); omega
        have hS1 := hg1 hi0
        refine x_aload_n dX10_flatten_251 2 rfl ?_
        refine x_iload_n dX10_flatten_252 1 rfl ?_
        refine x_aload_n dX10_flatten_253 2 rfl ?_
        refine x_iload_n dX10_flatten_254 1 rfl ?_
        have h50U9 : U9 50 = m := by funext j; rw [eU9, uM_na (by decide), eU8, uM_na (by decide), hm50]
        refine x_callV (K := jX10_endX) [.int (nI i)] lk_X10_114 ⟨⟨rfl, rfl⟩, Nat.le_of_ble_eq_true rfl, Nat.le_of_ble_eq_true rfl⟩ rfl rfl (by have := mX10_endX (g := g) U9 N hN24 (by rw [h50U9]; exact hN8) (by rw [h50U9]; exact hw) i (by omega); rw [h50U9] at this; exact this) rfl (Nat.le_of_ble_eq_true rfl) rfl dX10_flatten_255 (kpI ?_)
        refine x_aload_n dX10_flatten_258 2 rfl ?_
        refine x_iload_n dX10_flatten_259 1 rfl ?_
        have h50U9 : U9 50 = m := by funext j; rw [eU9, uM_na (by decide), eU8, uM_na (by decide), hm50]
        refine x_callV (K := jX10_endY) [.int (nI i)] lk_X10_117 ⟨⟨rfl, rfl⟩, Nat.le_of_ble_eq_true rfl, Nat.le_of_ble_eq_true rfl⟩ rfl rfl (by have := mX10_endY (g := g) U9 N hN24 (by rw [h50U9]; exact hN8) (by rw [h50U9]; exact hw) i (by omega); rw [h50U9] at this; exact this) rfl (Nat.le_of_ble_eq_true rfl) rfl dX10_flatten_260 (kpI ?_)
        have hxr := hw.exy_r hiN
        refine x_callV (K := jX10_addVertex) [.int (nI i), .int (ex7 m i), .int (ey7 m i)] lk_X10_227 ⟨⟨rfl, rfl⟩, Nat.le_of_ble_eq_true rfl, Nat.le_of_ble_eq_true rfl⟩ rfl rfl (mX10_addVertexS hz.1 (hS1.five i 0) (hz.2.1 hi0) (by show (fall m t i).1 < 1700; omega) i (by omega) hxr.1 hxr.2) rfl (Nat.le_of_ble_eq_true rfl) rfl dX10_flatten_263 (kdV ?_)
        obtain ⟨U49, eU49⟩ : ∃ v_v : vM, v_v = mavV U9 (s5 (fall m t i) i) i (ex7 m i) (ey7 m i) := ⟨_, rfl⟩
        refine YY.V eU49.symm ?_
        refine x_iinc 1 (v := (nI i) + 1) 1 [(1, .int ((nI i) + 1)), (2, .int (7 * (nI i))), (0, .ref (g.2.1 49))] dX10_flatten_266 rfl (by rfl) (by decide) rfl ?_
        refine x_goto 12 dX10_flatten_269 (by decide) ?_
        refine x_lv [0, 2] rfl ?_
        refine YY.L (lv' := [(1, .int (nI (i + 1))), (0, .ref (g.2.1 49))]) (by first | rfl | (simp only [nI_1]; done) | (simp only [← nI_add]; rfl)) ?_
        exact ih (i + 1) U49 (by omega) (by first | exact hEnd | exact ML_add hz hi0 hS1 (by grind) (by grind) (by grind) (by assumption) | exact ML_move hz (by assumption) (by subst_vars; simp only [nI_1])) (by omega)
  refine YY.L (lv' := [(1, .int (nI 0)), (0, .ref (g.2.1 49))]) (by rfl) ?_
  exact lp3 _ 0 U2 (by omega) (by subst_vars; exact ML_init _ _ V) (Nat.lt_succ_self _)
