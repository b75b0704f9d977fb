abbrev cW (s : RSt) : Nat := (rFC s).2.1.2.2.2
abbrev xW (s : RSt) : Int32 := (rFC s).2.2.1.1
abbrev yW (s : RSt) : Int32 := (rFC s).2.2.1.2.1
abbrev sxW (s : RSt) : Int32 := (rFC s).2.2.1.2.2.1
abbrev syW (s : RSt) : Int32 := (rFC s).2.2.1.2.2.2
abbrev XW (s : RSt) : Nat → Int32 := (rFC s).2.2.2.1
abbrev OW (s : RSt) : Nat → Int32 := (rFC s).2.2.2.2
theorem rBg_e (nx sm : Int32) (w : RSt) : rBg nx sm w = ((nx, sm, 0), (0, 0, 0, w.2.1.2.2.2), (w.2.2.1.1, w.2.2.1.2.1, w.2.2.1.2.2.1, w.2.2.1.2.2.2), w.2.2.2.1, w.2.2.2.2) := by
  obtain ⟨⟨k, s, ng⟩, ⟨c, v, d, cm⟩, ⟨x, y, sx, sy⟩, X, O⟩ := w
  rfl
theorem btw_cm {P : Nat → Int32} {n a : Nat} {s : RSt} (h : Btw P n a s) : cW s ≤ a := by
  have := (RI_run a s h.1).fc.1
  exact RE.le this
theorem btw_go2 {P : Nat → Int32} {n a : Nat} {s : RSt} (h : Btw P n a s) {nx sm : Int32} (e : rLt (sgP P n a) = (nx, sm)) (hn : 0 ≤ nx) (hq : nx = 0 ∨ (¬ s.1.1 = -1 ∧ ¬ s.1.1 = 4)) : a < n ∧ rRun P (a + 1) = some ((nx, sm, 0), (0, 0, 0, cW s), (xW s, yW s, sxW s, syW s), XW s, OW s) := by
  have := btw_go h e hn hq
  rw [rBg_e] at this
  exact this
theorem cmdB {V U : vM} {P : Nat → Int32} {n : Nat} {s : RSt} {k sm : Int32} (hk : 0 ≤ k ∧ k ≤ 3) (h : CmdP V P n k sm (cW s) (xW s) (yW s) (sxW s) (syW s) (OW s) U) : frC V U ∧ ∃ a', MR U P n a' ∧ ((U 49 19 = 1 ∧ Bad P n a') ∨ (U 49 19 = 0 ∧ ∃ s', Btw P n a' s' ∧ s'.1.1 = k ∧ RDM U (rFC s') ∧ cW s' = cW s + 1 ∧ (k = 0 → sxW s' = xW s' ∧ syW s' = yW s') ∧ (¬ k = 0 → sxW s' = sxW s ∧ syW s' = syW s))) := by
  obtain ⟨hF, a', hM, h | ⟨h19, ng, c, v, d, X', hs, hd, hc, hN, hR⟩⟩ := h
  · exact ⟨hF, a', hM, Or.inl h⟩
  · refine ⟨hF, a', hM, Or.inr ⟨h19, _, btw_cmd hk hs hd hc hN, rfl, hR, ?_⟩⟩
    have k1 : ¬ k = -1 := fun z => by rw [z] at hk; exact absurd hk.1 (by decide)
    have k4 : ¬ k = 4 := fun z => by rw [z] at hk; exact absurd hk.2 (by decide)
    generalize cW s = cm at *
    generalize xW s = x at *
    generalize yW s = y at *
    generalize sxW s = sx at *
    generalize syW s = sy at *
    generalize OW s = O at *
    have e : rFC ((k, sm, ng), (c, v, d, cm), (x, y, sx, sy), X', O) = ((k, sm, 0), (c + 1, 0, 0, cm + 1), (rX2 k sm ng c v x y X' (rNd k - 2), rX2 k sm ng c v x y X' (rNd k - 1), if k = 0 then rX2 k sm ng c v x y X' (rNd k - 2) else sx, if k = 0 then rX2 k sm ng c v x y X' (rNd k - 1) else sy), rX2 k sm ng c v x y X', rOut O cm (rRow k (rX2 k sm ng c v x y X'))) := by
      unfold rFC; dsimp only; rw [if_neg k1, if_neg k4]
    unfold cW xW yW sxW syW
    rw [e]
    exact ⟨rfl, fun z => ⟨if_pos z, if_pos z⟩, fun z => ⟨if_neg z, if_neg z⟩⟩
def frD (V U : vM) : Prop := ∀ b i, b ≠ 60 → ¬ (b = 49 ∧ 18 ≤ i ∧ i ≤ 26) → U b i = V b i
theorem frD.refl (V : vM) : frD V V := fun _ _ _ _ => rfl
theorem frD.trans {V U W : vM} (h : frD V U) (k : frD U W) : frD V W := fun b i p q => by rw [k b i p q, h b i p q]
theorem frC.D {V U : vM} (h : frC V U) : frD V U := fun b i p q => h b i p (fun w => q ⟨w.1, by omega, by omega⟩)
theorem frD.st {V U W : vM} (h : frD V U) {i : Nat} {x : Int32} (e : W = uM U 49 i x) (hi : 18 ≤ i ∧ i ≤ 26) : frD V W := fun b j p q => by rw [e, uM_at, if_neg (fun z => q ⟨z.1, by omega, by omega⟩)]; exact h b j p q
theorem frD.row {V U W : vM} (h : frD V U) {i : Nat} {x : Int32} (e : W = uM U 60 i x) : frD V W := fun b j p q => by rw [e, uM_na p]; exact h b j p q
theorem RDM.set {U W : vM} {w : RSt} (h : RDM U w) {i : Nat} {x : Int32} (e : W = uM U 49 i x) (hi : i < 21 ∨ 24 < i) : RDM W w := by
  obtain ⟨h1, h2, h3, h4, h5⟩ := h
  exact ⟨by rw [e, uM_ni (by omega)]; exact h1, by rw [e, uM_ni (by omega)]; exact h2, by rw [e, uM_ni (by omega)]; exact h3, by rw [e, uM_ni (by omega)]; exact h4, fun j hj => by rw [e, uM_na (by decide)]; exact h5 j hj⟩
def CI (V : vM) (P : Nat → Int32) (n c0 b μ : Nat) (U : vM) : Prop := MR U P n b ∧ frD V U ∧ ((U 49 19 = 1 ∧ Bad P n b) ∨ (U 49 19 = 0 ∧ ∃ s, Btw P n b s ∧ (0 ≤ s.1.1 ∧ s.1.1 ≤ 3) ∧ RDM U (rFC s) ∧ U 49 25 = sxW s ∧ U 49 26 = syW s ∧ cW s + μ = n ∧ c0 ≤ cW s))
theorem CI_0 {V U T1 T2 : vM} {P : Nat → Int32} {n b : Nat} {s : RSt} (hF : frC V U) (hM : MR U P n b) (hR : (U 49 19 = 1 ∧ Bad P n b) ∨ (U 49 19 = 0 ∧ ∃ s', Btw P n b s' ∧ s'.1.1 = 0 ∧ RDM U (rFC s') ∧ cW s' = cW s + 1 ∧ ((0 : Int32) = 0 → sxW s' = xW s' ∧ syW s' = yW s') ∧ (¬ (0 : Int32) = 0 → sxW s' = sxW s ∧ syW s' = syW s))) (e1 : T1 = uM U 49 25 (U 49 23)) (e2 : T2 = uM T1 49 26 (U 49 24)) : ∃ μ, CI V P n (cW s + 1) b μ T2 := by
  have h19 : T2 49 19 = U 49 19 := by rw [e2, uM_ni (by decide), e1, uM_ni (by decide)]
  have hMT := (hM.set e1 (by decide) (by decide)).set e2 (by decide) (by decide)
  have hFT := (hF.D.st e1 (by decide)).st e2 (by decide)
  rcases hR with hB | ⟨h0, s', hB, hk, hRD, hc, hsx, -⟩
  · exact ⟨0, hMT, hFT, Or.inl ⟨h19.trans hB.1, hB.2⟩⟩
  · have hcm := btw_cm hB
    have hbn := hM.2.2.2.1
    refine ⟨n - cW s', hMT, hFT, Or.inr ⟨h19.trans h0, s', hB, by rw [hk]; decide, (hRD.set e1 (by omega)).set e2 (by omega), ?_, ?_, by omega, by omega⟩⟩
    · rw [e2, uM_ni (by decide), e1, uM_hit, (hsx rfl).1]; exact hRD.2.1
    · rw [e2, uM_hit, (hsx rfl).2]; exact hRD.2.2.1
theorem CI_s {V U U2 : vM} {P : Nat → Int32} {n c0 b b2 μ : Nat} {s : RSt} {k : Int32} (hI : CI V P n c0 b μ U) (hbn : b < n) (hB : Btw P n b s) (hx : U 49 25 = sxW s) (hy : U 49 26 = syW s) (hmu : cW s + μ = n) (hc0 : c0 ≤ cW s) (hk : 0 ≤ k ∧ k ≤ 3) (hk0 : ¬ k = 0) (hF : frC U U2) (hM : MR U2 P n b2) (hR : (U2 49 19 = 1 ∧ Bad P n b2) ∨ (U2 49 19 = 0 ∧ ∃ s', Btw P n b2 s' ∧ s'.1.1 = k ∧ RDM U2 (rFC s') ∧ cW s' = cW s + 1 ∧ (k = 0 → sxW s' = xW s' ∧ syW s' = yW s') ∧ (¬ k = 0 → sxW s' = sxW s ∧ syW s' = syW s))) : ∃ μ2, CI V P n c0 b2 μ2 U2 ∧ μ2 < μ := by
  have hcm := btw_cm hB
  have hFT := hI.2.1.trans hF.D
  rcases hR with hB2 | ⟨h0, s', hB2, hk2, hRD, hc, -, hsx⟩
  · exact ⟨0, ⟨hM, hFT, Or.inl hB2⟩, by omega⟩
  · have hcm2 := btw_cm hB2
    have hbn2 := hM.2.2.2.1
    refine ⟨n - cW s', ⟨hM, hFT, Or.inr ⟨h0, s', hB2, by rw [hk2]; exact hk, hRD, ?_, ?_, by omega, by omega⟩⟩, by omega⟩
    · rw [(hsx hk0).1, ← hx]; exact hF 49 25 (by decide) (by decide)
    · rw [(hsx hk0).2, ← hy]; exact hF 49 26 (by decide) (by decide)
def CtP (V : vM) (P : Nat → Int32) (n c0 : Nat) (U : vM) : Prop := frD V U ∧ ∃ a', MR U P n a' ∧ ((U 49 19 = 1 ∧ Bad P n a') ∨ (U 49 19 = 0 ∧ ∃ s', Btw P n a' s' ∧ ¬ s'.1.1 = -1 ∧ RDM U (rFC s') ∧ CE P n a' s' ∧ c0 ≤ cW s'))
theorem rLt_n0 {ch : Int32} (h1 : ¬ ch = 77) (h2 : ¬ ch = 109) : ¬ (rLt ch).1 = 0 := by
  rcases rLt_c ch with ⟨q, -⟩ | ⟨q, -⟩ | ⟨q, e⟩ | ⟨q, e⟩ | ⟨-, -, -, -, e⟩
  · exact absurd q h1
  · exact absurd q h2
  · rw [e]; exact fun z => by have z2 : kaZ ch = 0 := z; rw [z2] at q; exact absurd q (by decide)
  · rw [e]; decide
  · rw [e]; decide
theorem rLt_le0 {ch : Int32} (h1 : kaZ ch ≤ 0) (h2 : ¬ ch = 90) : (rLt ch).1 ≤ 0 := by
  rcases rLt_c ch with ⟨q, e⟩ | ⟨q, e⟩ | ⟨q, e⟩ | ⟨q, e⟩ | ⟨-, -, -, -, e⟩
  · rw [e]; decide
  · rw [e]; decide
  · rw [e]; exact h1
  · exact absurd q h2
  · rw [e]; decide
theorem rLt_ka {ch : Int32} (h : 0 < kaZ ch) : rLt ch = (kaZ ch, if 97 ≤ ch then 1 else 0) := by
  rcases rLt_c ch with ⟨q, e⟩ | ⟨q, e⟩ | ⟨q, e⟩ | ⟨q, e⟩ | ⟨-, -, q, -, e⟩
  · rw [q] at h; exact absurd h (by decide)
  · rw [q] at h; exact absurd h (by decide)
  · exact e
  · rw [q] at h; exact absurd h (by decide)
  · rw [q] at h; exact absurd h (by decide)
theorem k03n {k : Int32} (h : 0 ≤ k ∧ k ≤ 3) : ¬ k = -1 ∧ ¬ k = 4 := ⟨fun z => by rw [z] at h; exact absurd h.1 (by decide), fun z => by rw [z] at h; exact absurd h.2 (by decide)⟩
theorem RDM_cl {T : vM} {s : RSt} (h21 : T 49 21 = nI (cW s + 1)) (h23 : T 49 23 = sxW s) (h24 : T 49 24 = syW s) (h22 : T 49 22 = bP (¬ alR (OW s) (7 * cW s))) (hO : ∀ j, j < 7 * cW s → T 60 j = OW s j) (hrow : ∀ p, p < 7 → T 60 (7 * cW s + p) = if p = 0 then 4 else 0) : RDM T (rFC ((4, 0, 0), (0, 0, 0, cW s), (xW s, yW s, sxW s, syW s), XW s, OW s)) ∧ cW ((4, 0, 0), (0, 0, 0, cW s), (xW s, yW s, sxW s, syW s), XW s, OW s) = cW s + 1 := by
  generalize cW s = cm at *
  generalize xW s = x at *
  generalize yW s = y at *
  generalize sxW s = sx at *
  generalize syW s = sy at *
  generalize OW s = O at *
  generalize XW s = X at *
  have e : rFC ((4, 0, 0), (0, 0, 0, cm), (x, y, sx, sy), X, O) = ((4, 0, 0), (0, 0, 0, cm + 1), (sx, sy, sx, sy), X, rOut O cm (rRow 4 X)) := by
    unfold rFC; dsimp only; rw [if_neg (by decide), if_pos rfl]
  unfold cW
  rw [e]
  have hr : ∀ p, p < 7 → rRow 4 X p = if p = 0 then 4 else 0 := by
    intro p hp
    unfold rRow
    by_cases z : p = 0
    · rw [if_pos z, if_pos z]
    · rw [if_neg z, if_neg z, if_neg (by decide), if_neg (by decide), if_neg (by decide)]
  refine ⟨⟨h21, h23, h24, ?_, fun j hj => ?_⟩, rfl⟩
  · show T 49 22 = bP (¬ alR (rOut O cm (rRow 4 X)) (7 * (cm + 1)))
    rw [h22]
    refine bP_iff (not_congr (Iff.trans ?_ alR_out.symm))
    exact ⟨fun q => ⟨q, fun p p1 p7 => by rw [hr p p7, if_neg (by omega)]; exact inR0⟩, fun q => q.1⟩
  · show T 60 j = rOut O cm (rRow 4 X) j
    have hj2 : j < 7 * (cm + 1) := hj
    by_cases c : j < 7 * cm
    · unfold rOut; rw [if_neg (by omega)]; exact hO j c
    · unfold rOut; rw [if_pos (by omega), hr _ (by omega), ← hrow _ (by omega), show 7 * cm + (j - cm * 7) = j by omega]
set_option maxHeartbeats 2000000 in
set_option maxRecDepth 100000 in
theorem mX10_readContour {g : gX} {V : vM} {P : Nat → Int32} {n a : Nat} {s : RSt} (hMR : MR V P n a) (h19 : V 49 19 = 0) (hB : Btw P n a s) (hRD : RDM V (rFC s)) (hCE : CE P n a s) (he : a < n ∨ s.1.1 = -1) : MM g jX10_readContour V [.ref (g.2.1 49)] (eV (CtP V P n (cW s + 1))) := by
  refine MM.of plX10_readContour (Nat.le_of_ble_eq_true rfl) ?_
  obtain ⟨Q, hQ⟩ : ∃ Q : Option Value → vM → Prop, Q = (eV (CtP V P n (cW s + 1))) := ⟨_, rfl⟩
  rw [← hQ]
  show XX g jX10_readContour Q V 0 [(0, .ref (g.2.1 49))] []
  have han := hMR.2.2.2.1
  refine x_aload_n dX10_readContour_0 0 rfl ?_
  refine x_callV (K := jX10_sign) [] lk_X10_140 ⟨⟨rfl, rfl⟩, Nat.le_of_ble_eq_true rfl, Nat.le_of_ble_eq_true rfl⟩ rfl rfl (mX10_sign2 hMR) rfl (Nat.le_of_ble_eq_true rfl) rfl dX10_readContour_1 (kpI ?_)
  refine x_bipush (v := 77) dX10_readContour_4 (by decide) ?_
  refine x_icmp_eq 24 dX10_readContour_6 (by decide) (fun c1 => ?_) (fun c1 => ?_)
  · refine x_aload_n dX10_readContour_24 0 rfl ?_
    refine x_iconst (v := 0) dX10_readContour_25 (by decide) ?_
    refine x_aload_n dX10_readContour_26 0 rfl ?_
    refine x_callV (K := jX10_sign) [] lk_X10_140 ⟨⟨rfl, rfl⟩, Nat.le_of_ble_eq_true rfl, Nat.le_of_ble_eq_true rfl⟩ rfl rfl (mX10_sign2 hMR) rfl (Nat.le_of_ble_eq_true rfl) rfl dX10_readContour_27 (kpI ?_)
    refine x_bipush (v := 109) dX10_readContour_30 (by decide) ?_
    refine x_icmp_ne 39 dX10_readContour_32 (by decide) (fun c2 => ?_) (fun c2 => by exfalso; exact absurd ((show sgP P n a = 77 by assumption).symm.trans c2) (by decide))
    refine x_iconst (v := 0) dX10_readContour_39 (by decide) ?_
    have hLt : rLt (sgP P n a) = (0, 0) := by rw [show sgP P n a = 77 by assumption]; decide
    obtain ⟨hln, hgo⟩ := btw_go2 hB hLt (by decide) (Or.inl rfl)
    refine x_callV (K := jX10_readCommand) [.int 0, .int 0] lk_X10_169 ⟨⟨rfl, rfl⟩, Nat.le_of_ble_eq_true rfl, Nat.le_of_ble_eq_true rfl⟩ rfl rfl (mX10_readCommand (k := 0) (sm := 0) (by decide) hMR hln h19 (by decide) (btw_cm hB) hRD.1 hRD.2.1 hRD.2.2.1 hRD.2.2.2.1 hRD.2.2.2.2 hgo) rfl (Nat.le_of_ble_eq_true rfl) rfl dX10_readContour_40 (keV fun U3 hU4 => ?_)
    obtain ⟨hFc, b1, hMb, hR1⟩ := cmdB (s := s) (by decide) hU4
    refine x_aload_n dX10_readContour_43 0 rfl ?_
    refine x_aload_n dX10_readContour_44 0 rfl ?_
    refine x_getI fl_X10_153 rfl rfl dX10_readContour_45 ?_
    refine x_putI fp_X10_172 rfl rfl dX10_readContour_48 ?_
    obtain ⟨U5, eU5⟩ : ∃ v_v : vM, v_v = uM U3 49 25 (U3 49 23) := ⟨_, rfl⟩
    refine YY.V eU5.symm ?_
    refine x_aload_n dX10_readContour_51 0 rfl ?_
    refine x_aload_n dX10_readContour_52 0 rfl ?_
    refine x_getI fl_X10_156 rfl rfl dX10_readContour_53 ?_
    refine x_topi (y := U3 49 24) (by rw [eU5, uM_ni (by decide)]) ?_
    refine x_putI fp_X10_175 rfl rfl dX10_readContour_56 ?_
    obtain ⟨U6, eU6⟩ : ∃ v_v : vM, v_v = uM U5 49 26 (U3 49 24) := ⟨_, rfl⟩
    refine YY.V eU6.symm ?_
    obtain ⟨μ0, hCI0⟩ := CI_0 hFc hMb hR1 eU5 eU6
    refine x_aload_n dX10_readContour_59 0 rfl ?_
    refine x_callV (K := jX10_kindAt) [] lk_X10_178 ⟨⟨rfl, rfl⟩, Nat.le_of_ble_eq_true rfl, Nat.le_of_ble_eq_true rfl⟩ rfl rfl (mX10_kindAt hCI0.1) rfl (Nat.le_of_ble_eq_true rfl) rfl dX10_readContour_60 (kpI ?_)
    refine x_istore_n 1 [(1, .int (kaZ (sgP P n b1))), (0, .ref (g.2.1 49))] dX10_readContour_63 rfl (by decide) rfl ?_
    have lp7 : ∀ (fu : Nat) (b : Nat) (μ : Nat) (U : vM), (CI V P n (cW s + 1) b μ U) → (μ) < fu → XX g jX10_readContour Q U 64 [(1, .int (kaZ (sgP P n b))), (0, .ref (g.2.1 49))] [] := by
      intro fu
      induction fu with
      | zero => intro _ _ _ _ hmz; exact absurd hmz (Nat.not_lt_zero _)
      | succ fu ih =>
        intro b μ U hCI hmz
        have hbn := hCI.1.2.2.2.1
        refine x_aload_n dX10_readContour_64 1 rfl ?_
        refine x_getI fl_X10_143 rfl rfl dX10_readContour_65 ?_
        refine x_if_ne 102 dX10_readContour_68 (by decide) (fun c8 => ?_) (fun c8 => ?_)
        · refine x_aload_n dX10_readContour_102 1 rfl ?_
          refine x_getI fl_X10_143 rfl rfl dX10_readContour_103 ?_
          refine x_if_ne 196 dX10_readContour_106 (by decide) (fun c9 => ?_) (fun c9 => by exfalso; exact absurd c9 (by assumption))
          refine x_vret dX10_readContour_196 rfl ?_
          rw [hQ]
          exact ⟨rfl, hCI.2.1, b, hCI.1, Or.inl (hCI.2.2.resolve_right (fun q => absurd q.1 (by assumption)))⟩
        · refine x_iload_n dX10_readContour_71 0 rfl ?_
          refine x_if_le 102 dX10_readContour_72 (by decide) (fun c10 => ?_) (fun c10 => ?_)
          · refine x_aload_n dX10_readContour_102 1 rfl ?_
            refine x_getI fl_X10_143 rfl rfl dX10_readContour_103 ?_
            refine x_if_ne 196 dX10_readContour_106 (by decide) (fun c11 => by exfalso; exact absurd (by assumption) c11) (fun c11 => ?_)
            refine x_aload_n dX10_readContour_109 1 rfl ?_
            refine x_callV (K := jX10_sign) [] lk_X10_140 ⟨⟨rfl, rfl⟩, Nat.le_of_ble_eq_true rfl, Nat.le_of_ble_eq_true rfl⟩ rfl rfl (mX10_sign2 hCI.1) rfl (Nat.le_of_ble_eq_true rfl) rfl dX10_readContour_110 (kpI ?_)
            refine x_bipush (v := 90) dX10_readContour_113 (by decide) ?_
            refine x_icmp_ne 196 dX10_readContour_115 (by decide) (fun c12 => ?_) (fun c12 => ?_)
            · refine x_vret dX10_readContour_196 rfl ?_
              rw [hQ]
              obtain ⟨h19U, s1, hB1, hk1, hRD1, hbx, hby, hmu, hc0⟩ := hCI.2.2.resolve_left (fun q => absurd (q.1.symm.trans (by assumption)) (by decide))
              exact ⟨rfl, hCI.2.1, b, hCI.1, Or.inr ⟨h19U, s1, hB1, (k03n hk1).1, hRD1, Or.inr (Or.inr (rLt_le0 (by assumption) (by assumption))), hc0⟩⟩
            · obtain ⟨h19U, s1, hB1, hk1, hRD1, hbx, hby, hmu, hc0⟩ := hCI.2.2.resolve_left (fun q => absurd (q.1.symm.trans (by assumption)) (by decide))
              have hLt : rLt (sgP P n b) = (4, 0) := by rw [show sgP P n b = 90 by assumption]; decide
              obtain ⟨hln, hgo⟩ := btw_go2 hB1 hLt (by decide) (Or.inr (k03n hk1))
              have hcm := btw_cm hB1
              obtain ⟨c1, hc1⟩ : ∃ c1, c1 = cW s1 := ⟨_, rfl⟩
              have h21c : U 49 21 = nI c1 := by rw [hc1]; exact hRD1.1
              rw [← hc1] at hcm
              have hn120 := hMR.2.2.2.2
              refine x_aload_n dX10_readContour_118 1 rfl ?_
              refine x_dup dX10_readContour_119 rfl ?_
              refine x_getI fl_X10_137 rfl rfl dX10_readContour_120 ?_
              refine x_topi (hCI.1.2.2.1) ?_
              refine x_iconst (v := 1) dX10_readContour_123 (by decide) ?_
              refine x_iadd dX10_readContour_124 ?_
              refine x_topi (y := nI (b + 1)) (by rw [nI_1]) ?_
              refine x_putI fp_X10_137 rfl rfl dX10_readContour_125 ?_
              obtain ⟨U13, eU13⟩ : ∃ v_v : vM, v_v = uM U 49 18 (nI (b + 1)) := ⟨_, rfl⟩
              refine YY.V eU13.symm ?_
              refine x_aload_n dX10_readContour_128 1 rfl ?_
              refine x_getR fl_X10_41 rfl rfl dX10_readContour_129 ?_
              refine x_bipush (v := 7) dX10_readContour_132 (by decide) ?_
              refine x_aload_n dX10_readContour_134 1 rfl ?_
              refine x_getI fl_X10_162 rfl rfl dX10_readContour_135 ?_
              refine x_topi (y := U 49 21) (by rw [eU13, uM_ni (by decide)]) ?_
              refine x_topi (h21c) ?_
              refine x_imul dX10_readContour_138 ?_
              refine x_iconst (v := 4) dX10_readContour_139 (by decide) ?_
              have q14 : (7 * (nI c1) : Int32) = nI (7 * c1) := nmul (rfl) (rfl)
              refine YY.S (st' := [.int 4, .int (nI (7 * c1)), .ref (g.2.1 60)]) (by rw [q14]) ?_
              have b15 : vp_in (nI (7 * c1)) 840 := by exact vp_in_nI (by omega) (by decide)
              refine x_iast rfl b15 dX10_readContour_140 ?_
              refine YY.V (V' := uM U13 60 (7 * c1) 4) (by rw [nI_clamp (by omega)]) ?_
              obtain ⟨U16, eU16⟩ : ∃ v_v : vM, v_v = uM U13 60 (7 * c1) 4 := ⟨_, rfl⟩
              refine YY.V eU16.symm ?_
              refine x_iconst (v := 1) dX10_readContour_141 (by decide) ?_
              refine x_istore_n 2 [(2, .int 1), (1, .int (kaZ (sgP P n b))), (0, .ref (g.2.1 49))] dX10_readContour_142 rfl (by decide) rfl ?_
              refine x_iload_n dX10_readContour_143 0 rfl ?_
              refine x_bipush (v := 7) dX10_readContour_144 (by decide) ?_
              refine x_icmp_ge 170 dX10_readContour_146 (by decide) (fun c17 => by exfalso; revert c17; decide) (fun c17 => ?_)
              refine x_aload_n dX10_readContour_149 2 rfl ?_
              refine x_getR fl_X10_41 rfl rfl dX10_readContour_150 ?_
              refine x_bipush (v := 7) dX10_readContour_153 (by decide) ?_
              refine x_aload_n dX10_readContour_155 2 rfl ?_
              refine x_getI fl_X10_162 rfl rfl dX10_readContour_156 ?_
              refine x_topi (y := U 49 21) (by rw [eU16, uM_na (by decide), eU13, uM_ni (by decide)]) ?_
              refine x_topi (h21c) ?_
              refine x_imul dX10_readContour_159 ?_
              refine x_iload_n dX10_readContour_160 0 rfl ?_
              refine x_iadd dX10_readContour_161 ?_
              refine x_iconst (v := 0) dX10_readContour_162 (by decide) ?_
              have q18 : ((7 * (nI c1)) + 1 : Int32) = nI ((7 * c1) + 1) := nadd (nmul (rfl) (rfl)) (rfl)
              refine YY.S (st' := [.int 0, .int (nI ((7 * c1) + 1)), .ref (g.2.1 60)]) (by rw [q18]) ?_
              have b19 : vp_in (nI ((7 * c1) + 1)) 840 := by exact vp_in_nI (by omega) (by decide)
              refine x_iast rfl b19 dX10_readContour_163 ?_
              refine YY.V (V' := uM U16 60 ((7 * c1) + 1) 0) (by rw [nI_clamp (by omega)]) ?_
              obtain ⟨U20, eU20⟩ : ∃ v_v : vM, v_v = uM U16 60 ((7 * c1) + 1) 0 := ⟨_, rfl⟩
              refine YY.V eU20.symm ?_
              refine x_iinc 2 (v := 2) 0 [(2, .int 2), (1, .int (kaZ (sgP P n b))), (0, .ref (g.2.1 49))] dX10_readContour_164 rfl (by decide) (by decide) rfl ?_
              refine x_goto 143 dX10_readContour_167 (by decide) ?_
              refine x_iload_n dX10_readContour_143 0 rfl ?_
              refine x_bipush (v := 7) dX10_readContour_144 (by decide) ?_
              refine x_icmp_ge 170 dX10_readContour_146 (by decide) (fun c21 => by exfalso; revert c21; decide) (fun c21 => ?_)
              refine x_aload_n dX10_readContour_149 2 rfl ?_
              refine x_getR fl_X10_41 rfl rfl dX10_readContour_150 ?_
              refine x_bipush (v := 7) dX10_readContour_153 (by decide) ?_
              refine x_aload_n dX10_readContour_155 2 rfl ?_
              refine x_getI fl_X10_162 rfl rfl dX10_readContour_156 ?_
              refine x_topi (y := U 49 21) (by rw [eU20, uM_na (by decide), eU16, uM_na (by decide), eU13, uM_ni (by decide)]) ?_
              refine x_topi (h21c) ?_
              refine x_imul dX10_readContour_159 ?_
              refine x_iload_n dX10_readContour_160 0 rfl ?_
              refine x_iadd dX10_readContour_161 ?_
              refine x_iconst (v := 0) dX10_readContour_162 (by decide) ?_
              have q22 : ((7 * (nI c1)) + 2 : Int32) = nI ((7 * c1) + 2) := nadd (nmul (rfl) (rfl)) (rfl)
              refine YY.S (st' := [.int 0, .int (nI ((7 * c1) + 2)), .ref (g.2.1 60)]) (by rw [q22]) ?_
              have b23 : vp_in (nI ((7 * c1) + 2)) 840 := by exact vp_in_nI (by omega) (by decide)
              refine x_iast rfl b23 dX10_readContour_163 ?_
              refine YY.V (V' := uM U20 60 ((7 * c1) + 2) 0) (by rw [nI_clamp (by omega)]) ?_
              obtain ⟨U24, eU24⟩ : ∃ v_v : vM, v_v = uM U20 60 ((7 * c1) + 2) 0 := ⟨_, rfl⟩
              refine YY.V eU24.symm ?_
              refine x_iinc 2 (v := 3) 0 [(2, .int 3), (1, .int (kaZ (sgP P n b))), (0, .ref (g.2.1 49))] dX10_readContour_164 rfl (by decide) (by decide) rfl ?_
              refine x_goto 143 dX10_readContour_167 (by decide) ?_
              refine x_iload_n dX10_readContour_143 0 rfl ?_
              refine x_bipush (v := 7) dX10_readContour_144 (by decide) ?_
              refine x_icmp_ge 170 dX10_readContour_146 (by decide) (fun c25 => by exfalso; revert c25; decide) (fun c25 => ?_)
              refine x_aload_n dX10_readContour_149 2 rfl ?_
              refine x_getR fl_X10_41 rfl rfl dX10_readContour_150 ?_
              refine x_bipush (v := 7) dX10_readContour_153 (by decide) ?_
              refine x_aload_n dX10_readContour_155 2 rfl ?_
              refine x_getI fl_X10_162 rfl rfl dX10_readContour_156 ?_
              refine x_topi (y := U 49 21) (by rw [eU24, uM_na (by decide), eU20, uM_na (by decide), eU16, uM_na (by decide), eU13, uM_ni (by decide)]) ?_
              refine x_topi (h21c) ?_
              refine x_imul dX10_readContour_159 ?_
              refine x_iload_n dX10_readContour_160 0 rfl ?_
              refine x_iadd dX10_readContour_161 ?_
              refine x_iconst (v := 0) dX10_readContour_162 (by decide) ?_
              have q26 : ((7 * (nI c1)) + 3 : Int32) = nI ((7 * c1) + 3) := nadd (nmul (rfl) (rfl)) (rfl)
              refine YY.S (st' := [.int 0, .int (nI ((7 * c1) + 3)), .ref (g.2.1 60)]) (by rw [q26]) ?_
              have b27 : vp_in (nI ((7 * c1) + 3)) 840 := by exact vp_in_nI (by omega) (by decide)
              refine x_iast rfl b27 dX10_readContour_163 ?_
              refine YY.V (V' := uM U24 60 ((7 * c1) + 3) 0) (by rw [nI_clamp (by omega)]) ?_
              obtain ⟨U28, eU28⟩ : ∃ v_v : vM, v_v = uM U24 60 ((7 * c1) + 3) 0 := ⟨_, rfl⟩
              refine YY.V eU28.symm ?_
              refine x_iinc 2 (v := 4) 0 [(2, .int 4), (1, .int (kaZ (sgP P n b))), (0, .ref (g.2.1 49))] dX10_readContour_164 rfl (by decide) (by decide) rfl ?_
              refine x_goto 143 dX10_readContour_167 (by decide) ?_
              refine x_iload_n dX10_readContour_143 0 rfl ?_
              refine x_bipush (v := 7) dX10_readContour_144 (by decide) ?_
              refine x_icmp_ge 170 dX10_readContour_146 (by decide) (fun c29 => by exfalso; revert c29; decide) (fun c29 => ?_)
              refine x_aload_n dX10_readContour_149 2 rfl ?_
              refine x_getR fl_X10_41 rfl rfl dX10_readContour_150 ?_
              refine x_bipush (v := 7) dX10_readContour_153 (by decide) ?_
              refine x_aload_n dX10_readContour_155 2 rfl ?_
              refine x_getI fl_X10_162 rfl rfl dX10_readContour_156 ?_
              refine x_topi (y := U 49 21) (by rw [eU28, uM_na (by decide), eU24, uM_na (by decide), eU20, uM_na (by decide), eU16, uM_na (by decide), eU13, uM_ni (by decide)]) ?_
              refine x_topi (h21c) ?_
              refine x_imul dX10_readContour_159 ?_
              refine x_iload_n dX10_readContour_160 0 rfl ?_
              refine x_iadd dX10_readContour_161 ?_
              refine x_iconst (v := 0) dX10_readContour_162 (by decide) ?_
              have q30 : ((7 * (nI c1)) + 4 : Int32) = nI ((7 * c1) + 4) := nadd (nmul (rfl) (rfl)) (rfl)
              refine YY.S (st' := [.int 0, .int (nI ((7 * c1) + 4)), .ref (g.2.1 60)]) (by rw [q30]) ?_
              have b31 : vp_in (nI ((7 * c1) + 4)) 840 := by exact vp_in_nI (by omega) (by decide)
              refine x_iast rfl b31 dX10_readContour_163 ?_
              refine YY.V (V' := uM U28 60 ((7 * c1) + 4) 0) (by rw [nI_clamp (by omega)]) ?_
              obtain ⟨U32, eU32⟩ : ∃ v_v : vM, v_v = uM U28 60 ((7 * c1) + 4) 0 := ⟨_, rfl⟩
              refine YY.V eU32.symm ?_
              refine x_iinc 2 (v := 5) 0 [(2, .int 5), (1, .int (kaZ (sgP P n b))), (0, .ref (g.2.1 49))] dX10_readContour_164 rfl (by decide) (by decide) rfl ?_
              refine x_goto 143 dX10_readContour_167 (by decide) ?_
              refine x_iload_n dX10_readContour_143 0 rfl ?_
              refine x_bipush (v := 7) dX10_readContour_144 (by decide) ?_
              refine x_icmp_ge 170 dX10_readContour_146 (by decide) (fun c33 => by exfalso; revert c33; decide) (fun c33 => ?_)
              refine x_aload_n dX10_readContour_149 2 rfl ?_
              refine x_getR fl_X10_41 rfl rfl dX10_readContour_150 ?_
              refine x_bipush (v := 7) dX10_readContour_153 (by decide) ?_
              refine x_aload_n dX10_readContour_155 2 rfl ?_
              refine x_getI fl_X10_162 rfl rfl dX10_readContour_156 ?_
              refine x_topi (y := U 49 21) (by rw [eU32, uM_na (by decide), eU28, uM_na (by decide), eU24, uM_na (by decide), eU20, uM_na (by decide), eU16, uM_na (by decide), eU13, uM_ni (by decide)]) ?_
              refine x_topi (h21c) ?_
              refine x_imul dX10_readContour_159 ?_
              refine x_iload_n dX10_readContour_160 0 rfl ?_
              refine x_iadd dX10_readContour_161 ?_
              refine x_iconst (v := 0) dX10_readContour_162 (by decide) ?_
              have q34 : ((7 * (nI c1)) + 5 : Int32) = nI ((7 * c1) + 5) := nadd (nmul (rfl) (rfl)) (rfl)
              refine YY.S (st' := [.int 0, .int (nI ((7 * c1) + 5)), .ref (g.2.1 60)]) (by rw [q34]) ?_
              have b35 : vp_in (nI ((7 * c1) + 5)) 840 := by exact vp_in_nI (by omega) (by decide)
              refine x_iast rfl b35 dX10_readContour_163 ?_
              refine YY.V (V' := uM U32 60 ((7 * c1) + 5) 0) (by rw [nI_clamp (by omega)]) ?_
              obtain ⟨U36, eU36⟩ : ∃ v_v : vM, v_v = uM U32 60 ((7 * c1) + 5) 0 := ⟨_, rfl⟩
              refine YY.V eU36.symm ?_
              refine x_iinc 2 (v := 6) 0 [(2, .int 6), (1, .int (kaZ (sgP P n b))), (0, .ref (g.2.1 49))] dX10_readContour_164 rfl (by decide) (by decide) rfl ?_
              refine x_goto 143 dX10_readContour_167 (by decide) ?_
              refine x_iload_n dX10_readContour_143 0 rfl ?_
              refine x_bipush (v := 7) dX10_readContour_144 (by decide) ?_
              refine x_icmp_ge 170 dX10_readContour_146 (by decide) (fun c37 => by exfalso; revert c37; decide) (fun c37 => ?_)
              refine x_aload_n dX10_readContour_149 2 rfl ?_
              refine x_getR fl_X10_41 rfl rfl dX10_readContour_150 ?_
              refine x_bipush (v := 7) dX10_readContour_153 (by decide) ?_
              refine x_aload_n dX10_readContour_155 2 rfl ?_
              refine x_getI fl_X10_162 rfl rfl dX10_readContour_156 ?_
              refine x_topi (y := U 49 21) (by rw [eU36, uM_na (by decide), eU32, uM_na (by decide), eU28, uM_na (by decide), eU24, uM_na (by decide), eU20, uM_na (by decide), eU16, uM_na (by decide), eU13, uM_ni (by decide)]) ?_
              refine x_topi (h21c) ?_
              refine x_imul dX10_readContour_159 ?_
              refine x_iload_n dX10_readContour_160 0 rfl ?_
              refine x_iadd dX10_readContour_161 ?_
              refine x_iconst (v := 0) dX10_readContour_162 (by decide) ?_
              have q38 : ((7 * (nI c1)) + 6 : Int32) = nI ((7 * c1) + 6) := nadd (nmul (rfl) (rfl)) (rfl)
              refine YY.S (st' := [.int 0, .int (nI ((7 * c1) + 6)), .ref (g.2.1 60)]) (by rw [q38]) ?_
              have b39 : vp_in (nI ((7 * c1) + 6)) 840 := by exact vp_in_nI (by omega) (by decide)
              refine x_iast rfl b39 dX10_readContour_163 ?_
              refine YY.V (V' := uM U36 60 ((7 * c1) + 6) 0) (by rw [nI_clamp (by omega)]) ?_
              obtain ⟨U40, eU40⟩ : ∃ v_v : vM, v_v = uM U36 60 ((7 * c1) + 6) 0 := ⟨_, rfl⟩
              refine YY.V eU40.symm ?_
              refine x_iinc 2 (v := 7) 0 [(2, .int 7), (1, .int (kaZ (sgP P n b))), (0, .ref (g.2.1 49))] dX10_readContour_164 rfl (by decide) (by decide) rfl ?_
              refine x_goto 143 dX10_readContour_167 (by decide) ?_
              refine x_iload_n dX10_readContour_143 0 rfl ?_
              refine x_bipush (v := 7) dX10_readContour_144 (by decide) ?_
              refine x_icmp_ge 170 dX10_readContour_146 (by decide) (fun c41 => ?_) (fun c41 => by exfalso; revert c41; decide)
              refine x_aload_n dX10_readContour_170 2 rfl ?_
              refine x_dup dX10_readContour_171 rfl ?_
              refine x_getI fl_X10_162 rfl rfl dX10_readContour_172 ?_
              refine x_topi (y := U 49 21) (by rw [eU40, uM_na (by decide), eU36, uM_na (by decide), eU32, uM_na (by decide), eU28, uM_na (by decide), eU24, uM_na (by decide), eU20, uM_na (by decide), eU16, uM_na (by decide), eU13, uM_ni (by decide)]) ?_
              refine x_topi (h21c) ?_
              refine x_iconst (v := 1) dX10_readContour_175 (by decide) ?_
              refine x_iadd dX10_readContour_176 ?_
              refine x_putI fp_X10_162 rfl rfl dX10_readContour_177 ?_
              obtain ⟨U42, eU42⟩ : ∃ v_v : vM, v_v = uM U40 49 21 ((nI c1) + 1) := ⟨_, rfl⟩
              refine YY.V eU42.symm ?_
              refine x_aload_n dX10_readContour_180 2 rfl ?_
              refine x_aload_n dX10_readContour_181 2 rfl ?_
              refine x_getI fl_X10_172 rfl rfl dX10_readContour_182 ?_
              refine x_topi (y := U 49 25) (by rw [eU42, uM_ni (by decide), eU40, uM_na (by decide), eU36, uM_na (by decide), eU32, uM_na (by decide), eU28, uM_na (by decide), eU24, uM_na (by decide), eU20, uM_na (by decide), eU16, uM_na (by decide), eU13, uM_ni (by decide)]) ?_
              refine x_putI fp_X10_153 rfl rfl dX10_readContour_185 ?_
              obtain ⟨U43, eU43⟩ : ∃ v_v : vM, v_v = uM U42 49 23 (U 49 25) := ⟨_, rfl⟩
              refine YY.V eU43.symm ?_
              refine x_aload_n dX10_readContour_188 2 rfl ?_
              refine x_aload_n dX10_readContour_189 2 rfl ?_
              refine x_getI fl_X10_175 rfl rfl dX10_readContour_190 ?_
              refine x_topi (y := U 49 26) (by rw [eU43, uM_ni (by decide), eU42, uM_ni (by decide), eU40, uM_na (by decide), eU36, uM_na (by decide), eU32, uM_na (by decide), eU28, uM_na (by decide), eU24, uM_na (by decide), eU20, uM_na (by decide), eU16, uM_na (by decide), eU13, uM_ni (by decide)]) ?_
              refine x_putI fp_X10_156 rfl rfl dX10_readContour_193 ?_
              obtain ⟨U44, eU44⟩ : ∃ v_v : vM, v_v = uM U43 49 24 (U 49 26) := ⟨_, rfl⟩
              refine YY.V eU44.symm ?_
              refine x_vret dX10_readContour_196 rfl ?_
              rw [hQ]
              have hMT : MR U44 P n (b + 1) := ((((((((((hCI.1.at eU13 (by omega)).row eU16).row eU20).row eU24).row eU28).row eU32).row eU36).row eU40).set eU42 (by decide) (by decide)).set eU43 (by decide) (by decide)).set eU44 (by decide) (by decide)
              have hFT : frD V U44 := ((((((((((hCI.2.1.st eU13 (by decide)).row eU16).row eU20).row eU24).row eU28).row eU32).row eU36).row eU40).st eU42 (by decide)).st eU43 (by decide)).st eU44 (by decide)
              have t19 : U44 49 19 = 0 := by rw [eU44, uM_ni (by decide), eU43, uM_ni (by decide), eU42, uM_ni (by decide), eU40, uM_na (by decide), eU36, uM_na (by decide), eU32, uM_na (by decide), eU28, uM_na (by decide), eU24, uM_na (by decide), eU20, uM_na (by decide), eU16, uM_na (by decide), eU13, uM_ni (by decide)]; exact h19U
              have t22 : U44 49 22 = U 49 22 := by rw [eU44, uM_ni (by decide), eU43, uM_ni (by decide), eU42, uM_ni (by decide), eU40, uM_na (by decide), eU36, uM_na (by decide), eU32, uM_na (by decide), eU28, uM_na (by decide), eU24, uM_na (by decide), eU20, uM_na (by decide), eU16, uM_na (by decide), eU13, uM_ni (by decide)]
              have t21 : U44 49 21 = nI (cW s1 + 1) := by rw [eU44, uM_ni (by decide), eU43, uM_ni (by decide), eU42, uM_hit, nI_1, hc1]
              have t23 : U44 49 23 = sxW s1 := by rw [eU44, uM_ni (by decide), eU43, uM_hit]; exact hbx
              have t24 : U44 49 24 = syW s1 := by rw [eU44, uM_hit]; exact hby
              have t60 : ∀ i, U44 60 i = U40 60 i := fun i => by rw [eU44, uM_na (by decide), eU43, uM_na (by decide), eU42, uM_na (by decide)]
              have tO : ∀ j, j < 7 * cW s1 → U44 60 j = OW s1 j := fun j hj => by rw [t60, eU40, uM_ni (by rw [← hc1] at hj; omega), eU36, uM_ni (by rw [← hc1] at hj; omega), eU32, uM_ni (by rw [← hc1] at hj; omega), eU28, uM_ni (by rw [← hc1] at hj; omega), eU24, uM_ni (by rw [← hc1] at hj; omega), eU20, uM_ni (by rw [← hc1] at hj; omega), eU16, uM_ni (by rw [← hc1] at hj; omega), eU13, uM_na (by decide)]; exact hRD1.2.2.2.2 j hj
              have tr : ∀ p, p < 7 → U44 60 (7 * cW s1 + p) = if p = 0 then 4 else 0 := by
                intro p hp
                rw [t60, ← hc1]
                rcases (show p = 0 ∨ p = 1 ∨ p = 2 ∨ p = 3 ∨ p = 4 ∨ p = 5 ∨ p = 6 by omega) with h | h | h | h | h | h | h
                · rw [h, eU40, uM_ni (by omega), eU36, uM_ni (by omega), eU32, uM_ni (by omega), eU28, uM_ni (by omega), eU24, uM_ni (by omega), eU20, uM_ni (by omega), eU16]; exact uM_hit
                · rw [h, eU40, uM_ni (by omega), eU36, uM_ni (by omega), eU32, uM_ni (by omega), eU28, uM_ni (by omega), eU24, uM_ni (by omega), eU20]; exact uM_hit
                · rw [h, eU40, uM_ni (by omega), eU36, uM_ni (by omega), eU32, uM_ni (by omega), eU28, uM_ni (by omega), eU24]; exact uM_hit
                · rw [h, eU40, uM_ni (by omega), eU36, uM_ni (by omega), eU32, uM_ni (by omega), eU28]; exact uM_hit
                · rw [h, eU40, uM_ni (by omega), eU36, uM_ni (by omega), eU32]; exact uM_hit
                · rw [h, eU40, uM_ni (by omega), eU36]; exact uM_hit
                · rw [h, Nat.add_zero, eU40]; exact uM_hit
              obtain ⟨hRT, hcT⟩ := RDM_cl t21 t23 t24 (t22.trans hRD1.2.2.2.1) tO tr
              exact ⟨rfl, hFT, b + 1, hMT, Or.inr ⟨t19, _, btw_0 (Or.inr rfl) hgo, by show ¬ (4 : Int32) = -1; decide, hRT, Or.inr (Or.inl rfl), by rw [hcT]; omega⟩⟩
          · obtain ⟨h19U, s1, hB1, hk1, hRD1, hbx, hby, hmu, hc0⟩ := hCI.2.2.resolve_left (fun q => absurd (q.1.symm.trans (by assumption)) (by decide))
            have hka : 0 < kaZ (sgP P n b) := Int32.not_le.mp (by assumption)
            refine x_aload_n dX10_readContour_75 1 rfl ?_
            refine x_iload_n dX10_readContour_76 0 rfl ?_
            refine x_aload_n dX10_readContour_77 1 rfl ?_
            refine x_callV (K := jX10_sign) [] lk_X10_140 ⟨⟨rfl, rfl⟩, Nat.le_of_ble_eq_true rfl, Nat.le_of_ble_eq_true rfl⟩ rfl rfl (mX10_sign2 hCI.1) rfl (Nat.le_of_ble_eq_true rfl) rfl dX10_readContour_78 (kpI ?_)
            refine x_bipush (v := 97) dX10_readContour_81 (by decide) ?_
            refine x_icmp_lt 90 dX10_readContour_83 (by decide) (fun c45 => ?_) (fun c45 => ?_)
            · refine x_iconst (v := 0) dX10_readContour_90 (by decide) ?_
              have hLt : rLt (sgP P n b) = (kaZ (sgP P n b), 0) := by rw [rLt_ka hka, if_neg (Int32.not_le.mpr (by assumption))]
              obtain ⟨hln, hgo⟩ := btw_go2 hB1 hLt (kaZ_b _).1 (Or.inr (k03n hk1))
              refine x_callV (K := jX10_readCommand) [.int (kaZ (sgP P n b)), .int 0] lk_X10_169 ⟨⟨rfl, rfl⟩, Nat.le_of_ble_eq_true rfl, Nat.le_of_ble_eq_true rfl⟩ rfl rfl (mX10_readCommand (kaZ_b _) hCI.1 hln h19U (by decide) (btw_cm hB1) hRD1.1 hRD1.2.1 hRD1.2.2.1 hRD1.2.2.2.1 hRD1.2.2.2.2 hgo) rfl (Nat.le_of_ble_eq_true rfl) rfl dX10_readContour_91 (keV fun U46 hU47 => ?_)
              obtain ⟨hF2, b2, hM2, hR2⟩ := cmdB (s := s1) (kaZ_b _) hU47
              obtain ⟨μ2, hCI2, hμ2⟩ := CI_s hCI hln hB1 hbx hby hmu hc0 (kaZ_b _) (fun z => by rw [z] at hka; exact absurd hka (by decide)) hF2 hM2 hR2
              refine x_aload_n dX10_readContour_94 1 rfl ?_
              refine x_callV (K := jX10_kindAt) [] lk_X10_178 ⟨⟨rfl, rfl⟩, Nat.le_of_ble_eq_true rfl, Nat.le_of_ble_eq_true rfl⟩ rfl rfl (mX10_kindAt hM2) rfl (Nat.le_of_ble_eq_true rfl) rfl dX10_readContour_95 (kpI ?_)
              refine x_istore_n 1 [(1, .int (kaZ (sgP P n b2))), (0, .ref (g.2.1 49))] dX10_readContour_98 rfl (by decide) rfl ?_
              refine x_goto 64 dX10_readContour_99 (by decide) ?_
              exact ih b2 μ2 U46 (by exact hCI2) (by omega)
            · refine x_iconst (v := 1) dX10_readContour_86 (by decide) ?_
              refine x_goto 91 dX10_readContour_87 (by decide) ?_
              have hLt : rLt (sgP P n b) = (kaZ (sgP P n b), 1) := by rw [rLt_ka hka, if_pos (Int32.not_lt.mp (by assumption))]
              obtain ⟨hln, hgo⟩ := btw_go2 hB1 hLt (kaZ_b _).1 (Or.inr (k03n hk1))
              refine x_callV (K := jX10_readCommand) [.int (kaZ (sgP P n b)), .int 1] lk_X10_169 ⟨⟨rfl, rfl⟩, Nat.le_of_ble_eq_true rfl, Nat.le_of_ble_eq_true rfl⟩ rfl rfl (mX10_readCommand (kaZ_b _) hCI.1 hln h19U (by decide) (btw_cm hB1) hRD1.1 hRD1.2.1 hRD1.2.2.1 hRD1.2.2.2.1 hRD1.2.2.2.2 hgo) rfl (Nat.le_of_ble_eq_true rfl) rfl dX10_readContour_91 (keV fun U48 hU49 => ?_)
              obtain ⟨hF2, b2, hM2, hR2⟩ := cmdB (s := s1) (kaZ_b _) hU49
              obtain ⟨μ2, hCI2, hμ2⟩ := CI_s hCI hln hB1 hbx hby hmu hc0 (kaZ_b _) (fun z => by rw [z] at hka; exact absurd hka (by decide)) hF2 hM2 hR2
              refine x_aload_n dX10_readContour_94 1 rfl ?_
              refine x_callV (K := jX10_kindAt) [] lk_X10_178 ⟨⟨rfl, rfl⟩, Nat.le_of_ble_eq_true rfl, Nat.le_of_ble_eq_true rfl⟩ rfl rfl (mX10_kindAt hM2) rfl (Nat.le_of_ble_eq_true rfl) rfl dX10_readContour_95 (kpI ?_)
              refine x_istore_n 1 [(1, .int (kaZ (sgP P n b2))), (0, .ref (g.2.1 49))] dX10_readContour_98 rfl (by decide) rfl ?_
              refine x_goto 64 dX10_readContour_99 (by decide) ?_
              exact ih b2 μ2 U48 (by exact hCI2) (by omega)
    exact lp7 _ b1 μ0 U6 (by exact hCI0) (Nat.lt_succ_self _)
  · refine x_aload_n dX10_readContour_9 0 rfl ?_
    refine x_callV (K := jX10_sign) [] lk_X10_140 ⟨⟨rfl, rfl⟩, Nat.le_of_ble_eq_true rfl, Nat.le_of_ble_eq_true rfl⟩ rfl rfl (mX10_sign2 hMR) rfl (Nat.le_of_ble_eq_true rfl) rfl dX10_readContour_10 (kpI ?_)
    refine x_bipush (v := 109) dX10_readContour_13 (by decide) ?_
    refine x_icmp_eq 24 dX10_readContour_15 (by decide) (fun c50 => ?_) (fun c50 => ?_)
    · refine x_aload_n dX10_readContour_24 0 rfl ?_
      refine x_iconst (v := 0) dX10_readContour_25 (by decide) ?_
      refine x_aload_n dX10_readContour_26 0 rfl ?_
      refine x_callV (K := jX10_sign) [] lk_X10_140 ⟨⟨rfl, rfl⟩, Nat.le_of_ble_eq_true rfl, Nat.le_of_ble_eq_true rfl⟩ rfl rfl (mX10_sign2 hMR) rfl (Nat.le_of_ble_eq_true rfl) rfl dX10_readContour_27 (kpI ?_)
      refine x_bipush (v := 109) dX10_readContour_30 (by decide) ?_
      refine x_icmp_ne 39 dX10_readContour_32 (by decide) (fun c51 => by exfalso; exact absurd (show sgP P n a = 109 by assumption) c51) (fun c51 => ?_)
      refine x_iconst (v := 1) dX10_readContour_35 (by decide) ?_
      refine x_goto 40 dX10_readContour_36 (by decide) ?_
      have hLt : rLt (sgP P n a) = (0, 1) := by rw [show sgP P n a = 109 by assumption]; decide
      obtain ⟨hln, hgo⟩ := btw_go2 hB hLt (by decide) (Or.inl rfl)
      refine x_callV (K := jX10_readCommand) [.int 0, .int 1] lk_X10_169 ⟨⟨rfl, rfl⟩, Nat.le_of_ble_eq_true rfl, Nat.le_of_ble_eq_true rfl⟩ rfl rfl (mX10_readCommand (k := 0) (sm := 1) (by decide) hMR hln h19 (by decide) (btw_cm hB) hRD.1 hRD.2.1 hRD.2.2.1 hRD.2.2.2.1 hRD.2.2.2.2 hgo) rfl (Nat.le_of_ble_eq_true rfl) rfl dX10_readContour_40 (keV fun U52 hU53 => ?_)
      obtain ⟨hFc, b1, hMb, hR1⟩ := cmdB (s := s) (by decide) hU53
      refine x_aload_n dX10_readContour_43 0 rfl ?_
      refine x_aload_n dX10_readContour_44 0 rfl ?_
      refine x_getI fl_X10_153 rfl rfl dX10_readContour_45 ?_
      refine x_putI fp_X10_172 rfl rfl dX10_readContour_48 ?_
      obtain ⟨U54, eU54⟩ : ∃ v_v : vM, v_v = uM U52 49 25 (U52 49 23) := ⟨_, rfl⟩
      refine YY.V eU54.symm ?_
      refine x_aload_n dX10_readContour_51 0 rfl ?_
      refine x_aload_n dX10_readContour_52 0 rfl ?_
      refine x_getI fl_X10_156 rfl rfl dX10_readContour_53 ?_
      refine x_topi (y := U52 49 24) (by rw [eU54, uM_ni (by decide)]) ?_
      refine x_putI fp_X10_175 rfl rfl dX10_readContour_56 ?_
      obtain ⟨U55, eU55⟩ : ∃ v_v : vM, v_v = uM U54 49 26 (U52 49 24) := ⟨_, rfl⟩
      refine YY.V eU55.symm ?_
      obtain ⟨μ0, hCI0⟩ := CI_0 hFc hMb hR1 eU54 eU55
      refine x_aload_n dX10_readContour_59 0 rfl ?_
      refine x_callV (K := jX10_kindAt) [] lk_X10_178 ⟨⟨rfl, rfl⟩, Nat.le_of_ble_eq_true rfl, Nat.le_of_ble_eq_true rfl⟩ rfl rfl (mX10_kindAt hCI0.1) rfl (Nat.le_of_ble_eq_true rfl) rfl dX10_readContour_60 (kpI ?_)
      refine x_istore_n 1 [(1, .int (kaZ (sgP P n b1))), (0, .ref (g.2.1 49))] dX10_readContour_63 rfl (by decide) rfl ?_
      have lp56 : ∀ (fu : Nat) (b : Nat) (μ : Nat) (U : vM), (CI V P n (cW s + 1) b μ U) → (μ) < fu → XX g jX10_readContour Q U 64 [(1, .int (kaZ (sgP P n b))), (0, .ref (g.2.1 49))] [] := by
        intro fu
        induction fu with
        | zero => intro _ _ _ _ hmz; exact absurd hmz (Nat.not_lt_zero _)
        | succ fu ih =>
          intro b μ U hCI hmz
          have hbn := hCI.1.2.2.2.1
          refine x_aload_n dX10_readContour_64 1 rfl ?_
          refine x_getI fl_X10_143 rfl rfl dX10_readContour_65 ?_
          refine x_if_ne 102 dX10_readContour_68 (by decide) (fun c57 => ?_) (fun c57 => ?_)
          · refine x_aload_n dX10_readContour_102 1 rfl ?_
            refine x_getI fl_X10_143 rfl rfl dX10_readContour_103 ?_
            refine x_if_ne 196 dX10_readContour_106 (by decide) (fun c58 => ?_) (fun c58 => by exfalso; exact absurd c58 (by assumption))
            refine x_vret dX10_readContour_196 rfl ?_
            rw [hQ]
            exact ⟨rfl, hCI.2.1, b, hCI.1, Or.inl (hCI.2.2.resolve_right (fun q => absurd q.1 (by assumption)))⟩
          · refine x_iload_n dX10_readContour_71 0 rfl ?_
            refine x_if_le 102 dX10_readContour_72 (by decide) (fun c59 => ?_) (fun c59 => ?_)
            · refine x_aload_n dX10_readContour_102 1 rfl ?_
              refine x_getI fl_X10_143 rfl rfl dX10_readContour_103 ?_
              refine x_if_ne 196 dX10_readContour_106 (by decide) (fun c60 => by exfalso; exact absurd (by assumption) c60) (fun c60 => ?_)
              refine x_aload_n dX10_readContour_109 1 rfl ?_
              refine x_callV (K := jX10_sign) [] lk_X10_140 ⟨⟨rfl, rfl⟩, Nat.le_of_ble_eq_true rfl, Nat.le_of_ble_eq_true rfl⟩ rfl rfl (mX10_sign2 hCI.1) rfl (Nat.le_of_ble_eq_true rfl) rfl dX10_readContour_110 (kpI ?_)
              refine x_bipush (v := 90) dX10_readContour_113 (by decide) ?_
              refine x_icmp_ne 196 dX10_readContour_115 (by decide) (fun c61 => ?_) (fun c61 => ?_)
              · refine x_vret dX10_readContour_196 rfl ?_
                rw [hQ]
                obtain ⟨h19U, s1, hB1, hk1, hRD1, hbx, hby, hmu, hc0⟩ := hCI.2.2.resolve_left (fun q => absurd (q.1.symm.trans (by assumption)) (by decide))
                exact ⟨rfl, hCI.2.1, b, hCI.1, Or.inr ⟨h19U, s1, hB1, (k03n hk1).1, hRD1, Or.inr (Or.inr (rLt_le0 (by assumption) (by assumption))), hc0⟩⟩
              · obtain ⟨h19U, s1, hB1, hk1, hRD1, hbx, hby, hmu, hc0⟩ := hCI.2.2.resolve_left (fun q => absurd (q.1.symm.trans (by assumption)) (by decide))
                have hLt : rLt (sgP P n b) = (4, 0) := by rw [show sgP P n b = 90 by assumption]; decide
                obtain ⟨hln, hgo⟩ := btw_go2 hB1 hLt (by decide) (Or.inr (k03n hk1))
                have hcm := btw_cm hB1
                obtain ⟨c1, hc1⟩ : ∃ c1, c1 = cW s1 := ⟨_, rfl⟩
                have h21c : U 49 21 = nI c1 := by rw [hc1]; exact hRD1.1
                rw [← hc1] at hcm
                have hn120 := hMR.2.2.2.2
                refine x_aload_n dX10_readContour_118 1 rfl ?_
                refine x_dup dX10_readContour_119 rfl ?_
                refine x_getI fl_X10_137 rfl rfl dX10_readContour_120 ?_
                refine x_topi (hCI.1.2.2.1) ?_
                refine x_iconst (v := 1) dX10_readContour_123 (by decide) ?_
                refine x_iadd dX10_readContour_124 ?_
                refine x_topi (y := nI (b + 1)) (by rw [nI_1]) ?_
                refine x_putI fp_X10_137 rfl rfl dX10_readContour_125 ?_
                obtain ⟨U62, eU62⟩ : ∃ v_v : vM, v_v = uM U 49 18 (nI (b + 1)) := ⟨_, rfl⟩
                refine YY.V eU62.symm ?_
                refine x_aload_n dX10_readContour_128 1 rfl ?_
                refine x_getR fl_X10_41 rfl rfl dX10_readContour_129 ?_
                refine x_bipush (v := 7) dX10_readContour_132 (by decide) ?_
                refine x_aload_n dX10_readContour_134 1 rfl ?_
                refine x_getI fl_X10_162 rfl rfl dX10_readContour_135 ?_
                refine x_topi (y := U 49 21) (by rw [eU62, uM_ni (by decide)]) ?_
                refine x_topi (h21c) ?_
                refine x_imul dX10_readContour_138 ?_
                refine x_iconst (v := 4) dX10_readContour_139 (by decide) ?_
                have q63 : (7 * (nI c1) : Int32) = nI (7 * c1) := nmul (rfl) (rfl)
                refine YY.S (st' := [.int 4, .int (nI (7 * c1)), .ref (g.2.1 60)]) (by rw [q63]) ?_
                have b64 : vp_in (nI (7 * c1)) 840 := by exact vp_in_nI (by omega) (by decide)
                refine x_iast rfl b64 dX10_readContour_140 ?_
                refine YY.V (V' := uM U62 60 (7 * c1) 4) (by rw [nI_clamp (by omega)]) ?_
                obtain ⟨U65, eU65⟩ : ∃ v_v : vM, v_v = uM U62 60 (7 * c1) 4 := ⟨_, rfl⟩
                refine YY.V eU65.symm ?_
                refine x_iconst (v := 1) dX10_readContour_141 (by decide) ?_
                refine x_istore_n 2 [(2, .int 1), (1, .int (kaZ (sgP P n b))), (0, .ref (g.2.1 49))] dX10_readContour_142 rfl (by decide) rfl ?_
                refine x_iload_n dX10_readContour_143 0 rfl ?_
                refine x_bipush (v := 7) dX10_readContour_144 (by decide) ?_
                refine x_icmp_ge 170 dX10_readContour_146 (by decide) (fun c66 => by exfalso; revert c66; decide) (fun c66 => ?_)
                refine x_aload_n dX10_readContour_149 2 rfl ?_
                refine x_getR fl_X10_41 rfl rfl dX10_readContour_150 ?_
                refine x_bipush (v := 7) dX10_readContour_153 (by decide) ?_
                refine x_aload_n dX10_readContour_155 2 rfl ?_
                refine x_getI fl_X10_162 rfl rfl dX10_readContour_156 ?_
                refine x_topi (y := U 49 21) (by rw [eU65, uM_na (by decide), eU62, uM_ni (by decide)]) ?_
                refine x_topi (h21c) ?_
                refine x_imul dX10_readContour_159 ?_
                refine x_iload_n dX10_readContour_160 0 rfl ?_
                refine x_iadd dX10_readContour_161 ?_
                refine x_iconst (v := 0) dX10_readContour_162 (by decide) ?_
                have q67 : ((7 * (nI c1)) + 1 : Int32) = nI ((7 * c1) + 1) := nadd (nmul (rfl) (rfl)) (rfl)
                refine YY.S (st' := [.int 0, .int (nI ((7 * c1) + 1)), .ref (g.2.1 60)]) (by rw [q67]) ?_
                have b68 : vp_in (nI ((7 * c1) + 1)) 840 := by exact vp_in_nI (by omega) (by decide)
                refine x_iast rfl b68 dX10_readContour_163 ?_
                refine YY.V (V' := uM U65 60 ((7 * c1) + 1) 0) (by rw [nI_clamp (by omega)]) ?_
                obtain ⟨U69, eU69⟩ : ∃ v_v : vM, v_v = uM U65 60 ((7 * c1) + 1) 0 := ⟨_, rfl⟩
                refine YY.V eU69.symm ?_
                refine x_iinc 2 (v := 2) 0 [(2, .int 2), (1, .int (kaZ (sgP P n b))), (0, .ref (g.2.1 49))] dX10_readContour_164 rfl (by decide) (by decide) rfl ?_
                refine x_goto 143 dX10_readContour_167 (by decide) ?_
                refine x_iload_n dX10_readContour_143 0 rfl ?_
                refine x_bipush (v := 7) dX10_readContour_144 (by decide) ?_
                refine x_icmp_ge 170 dX10_readContour_146 (by decide) (fun c70 => by exfalso; revert c70; decide) (fun c70 => ?_)
                refine x_aload_n dX10_readContour_149 2 rfl ?_
                refine x_getR fl_X10_41 rfl rfl dX10_readContour_150 ?_
                refine x_bipush (v := 7) dX10_readContour_153 (by decide) ?_
                refine x_aload_n dX10_readContour_155 2 rfl ?_
                refine x_getI fl_X10_162 rfl rfl dX10_readContour_156 ?_
                refine x_topi (y := U 49 21) (by rw [eU69, uM_na (by decide), eU65, uM_na (by decide), eU62, uM_ni (by decide)]) ?_
                refine x_topi (h21c) ?_
                refine x_imul dX10_readContour_159 ?_
                refine x_iload_n dX10_readContour_160 0 rfl ?_
                refine x_iadd dX10_readContour_161 ?_
                refine x_iconst (v := 0) dX10_readContour_162 (by decide) ?_
                have q71 : ((7 * (nI c1)) + 2 : Int32) = nI ((7 * c1) + 2) := nadd (nmul (rfl) (rfl)) (rfl)
                refine YY.S (st' := [.int 0, .int (nI ((7 * c1) + 2)), .ref (g.2.1 60)]) (by rw [q71]) ?_
                have b72 : vp_in (nI ((7 * c1) + 2)) 840 := by exact vp_in_nI (by omega) (by decide)
                refine x_iast rfl b72 dX10_readContour_163 ?_
                refine YY.V (V' := uM U69 60 ((7 * c1) + 2) 0) (by rw [nI_clamp (by omega)]) ?_
                obtain ⟨U73, eU73⟩ : ∃ v_v : vM, v_v = uM U69 60 ((7 * c1) + 2) 0 := ⟨_, rfl⟩
                refine YY.V eU73.symm ?_
                refine x_iinc 2 (v := 3) 0 [(2, .int 3), (1, .int (kaZ (sgP P n b))), (0, .ref (g.2.1 49))] dX10_readContour_164 rfl (by decide) (by decide) rfl ?_
                refine x_goto 143 dX10_readContour_167 (by decide) ?_
                refine x_iload_n dX10_readContour_143 0 rfl ?_
                refine x_bipush (v := 7) dX10_readContour_144 (by decide) ?_
                refine x_icmp_ge 170 dX10_readContour_146 (by decide) (fun c74 => by exfalso; revert c74; decide) (fun c74 => ?_)
                refine x_aload_n dX10_readContour_149 2 rfl ?_
                refine x_getR fl_X10_41 rfl rfl dX10_readContour_150 ?_
                refine x_bipush (v := 7) dX10_readContour_153 (by decide) ?_
                refine x_aload_n dX10_readContour_155 2 rfl ?_
                refine x_getI fl_X10_162 rfl rfl dX10_readContour_156 ?_
                refine x_topi (y := U 49 21) (by rw [eU73, uM_na (by decide), eU69, uM_na (by decide), eU65, uM_na (by decide), eU62, uM_ni (by decide)]) ?_
                refine x_topi (h21c) ?_
                refine x_imul dX10_readContour_159 ?_
                refine x_iload_n dX10_readContour_160 0 rfl ?_
                refine x_iadd dX10_readContour_161 ?_
                refine x_iconst (v := 0) dX10_readContour_162 (by decide) ?_
                have q75 : ((7 * (nI c1)) + 3 : Int32) = nI ((7 * c1) + 3) := nadd (nmul (rfl) (rfl)) (rfl)
                refine YY.S (st' := [.int 0, .int (nI ((7 * c1) + 3)), .ref (g.2.1 60)]) (by rw [q75]) ?_
                have b76 : vp_in (nI ((7 * c1) + 3)) 840 := by exact vp_in_nI (by omega) (by decide)
                refine x_iast rfl b76 dX10_readContour_163 ?_
                refine YY.V (V' := uM U73 60 ((7 * c1) + 3) 0) (by rw [nI_clamp (by omega)]) ?_
                obtain ⟨U77, eU77⟩ : ∃ v_v : vM, v_v = uM U73 60 ((7 * c1) + 3) 0 := ⟨_, rfl⟩
                refine YY.V eU77.symm ?_
                refine x_iinc 2 (v := 4) 0 [(2, .int 4), (1, .int (kaZ (sgP P n b))), (0, .ref (g.2.1 49))] dX10_readContour_164 rfl (by decide) (by decide) rfl ?_
                refine x_goto 143 dX10_readContour_167 (by decide) ?_
                refine x_iload_n dX10_readContour_143 0 rfl ?_
                refine x_bipush (v := 7) dX10_readContour_144 (by decide) ?_
                refine x_icmp_ge 170 dX10_readContour_146 (by decide) (fun c78 => by exfalso; revert c78; decide) (fun c78 => ?_)
                refine x_aload_n dX10_readContour_149 2 rfl ?_
                refine x_getR fl_X10_41 rfl rfl dX10_readContour_150 ?_
                refine x_bipush (v := 7) dX10_readContour_153 (by decide) ?_
                refine x_aload_n dX10_readContour_155 2 rfl ?_
                refine x_getI fl_X10_162 rfl rfl dX10_readContour_156 ?_
                refine x_topi (y := U 49 21) (by rw [eU77, uM_na (by decide), eU73, uM_na (by decide), eU69, uM_na (by decide), eU65, uM_na (by decide), eU62, uM_ni (by decide)]) ?_
                refine x_topi (h21c) ?_
                refine x_imul dX10_readContour_159 ?_
                refine x_iload_n dX10_readContour_160 0 rfl ?_
                refine x_iadd dX10_readContour_161 ?_
                refine x_iconst (v := 0) dX10_readContour_162 (by decide) ?_
                have q79 : ((7 * (nI c1)) + 4 : Int32) = nI ((7 * c1) + 4) := nadd (nmul (rfl) (rfl)) (rfl)
                refine YY.S (st' := [.int 0, .int (nI ((7 * c1) + 4)), .ref (g.2.1 60)]) (by rw [q79]) ?_
                have b80 : vp_in (nI ((7 * c1) + 4)) 840 := by exact vp_in_nI (by omega) (by decide)
                refine x_iast rfl b80 dX10_readContour_163 ?_
                refine YY.V (V' := uM U77 60 ((7 * c1) + 4) 0) (by rw [nI_clamp (by omega)]) ?_
                obtain ⟨U81, eU81⟩ : ∃ v_v : vM, v_v = uM U77 60 ((7 * c1) + 4) 0 := ⟨_, rfl⟩
                refine YY.V eU81.symm ?_
                refine x_iinc 2 (v := 5) 0 [(2, .int 5), (1, .int (kaZ (sgP P n b))), (0, .ref (g.2.1 49))] dX10_readContour_164 rfl (by decide) (by decide) rfl ?_
                refine x_goto 143 dX10_readContour_167 (by decide) ?_
                refine x_iload_n dX10_readContour_143 0 rfl ?_
                refine x_bipush (v := 7) dX10_readContour_144 (by decide) ?_
                refine x_icmp_ge 170 dX10_readContour_146 (by decide) (fun c82 => by exfalso; revert c82; decide) (fun c82 => ?_)
                refine x_aload_n dX10_readContour_149 2 rfl ?_
                refine x_getR fl_X10_41 rfl rfl dX10_readContour_150 ?_
                refine x_bipush (v := 7) dX10_readContour_153 (by decide) ?_
                refine x_aload_n dX10_readContour_155 2 rfl ?_
                refine x_getI fl_X10_162 rfl rfl dX10_readContour_156 ?_
                refine x_topi (y := U 49 21) (by rw [eU81, uM_na (by decide), eU77, uM_na (by decide), eU73, uM_na (by decide), eU69, uM_na (by decide), eU65, uM_na (by decide), eU62, uM_ni (by decide)]) ?_
                refine x_topi (h21c) ?_
                refine x_imul dX10_readContour_159 ?_
                refine x_iload_n dX10_readContour_160 0 rfl ?_
                refine x_iadd dX10_readContour_161 ?_
                refine x_iconst (v := 0) dX10_readContour_162 (by decide) ?_
                have q83 : ((7 * (nI c1)) + 5 : Int32) = nI ((7 * c1) + 5) := nadd (nmul (rfl) (rfl)) (rfl)
                refine YY.S (st' := [.int 0, .int (nI ((7 * c1) + 5)), .ref (g.2.1 60)]) (by rw [q83]) ?_
                have b84 : vp_in (nI ((7 * c1) + 5)) 840 := by exact vp_in_nI (by omega) (by decide)
                refine x_iast rfl b84 dX10_readContour_163 ?_
                refine YY.V (V' := uM U81 60 ((7 * c1) + 5) 0) (by rw [nI_clamp (by omega)]) ?_
                obtain ⟨U85, eU85⟩ : ∃ v_v : vM, v_v = uM U81 60 ((7 * c1) + 5) 0 := ⟨_, rfl⟩
                refine YY.V eU85.symm ?_
                refine x_iinc 2 (v := 6) 0 [(2, .int 6), (1, .int (kaZ (sgP P n b))), (0, .ref (g.2.1 49))] dX10_readContour_164 rfl (by decide) (by decide) rfl ?_
                refine x_goto 143 dX10_readContour_167 (by decide) ?_
                refine x_iload_n dX10_readContour_143 0 rfl ?_
                refine x_bipush (v := 7) dX10_readContour_144 (by decide) ?_
                refine x_icmp_ge 170 dX10_readContour_146 (by decide) (fun c86 => by exfalso; revert c86; decide) (fun c86 => ?_)
                refine x_aload_n dX10_readContour_149 2 rfl ?_
                refine x_getR fl_X10_41 rfl rfl dX10_readContour_150 ?_
                refine x_bipush (v := 7) dX10_readContour_153 (by decide) ?_
                refine x_aload_n dX10_readContour_155 2 rfl ?_
                refine x_getI fl_X10_162 rfl rfl dX10_readContour_156 ?_
                refine x_topi (y := U 49 21) (by rw [eU85, uM_na (by decide), eU81, uM_na (by decide), eU77, uM_na (by decide), eU73, uM_na (by decide), eU69, uM_na (by decide), eU65, uM_na (by decide), eU62, uM_ni (by decide)]) ?_
                refine x_topi (h21c) ?_
                refine x_imul dX10_readContour_159 ?_
                refine x_iload_n dX10_readContour_160 0 rfl ?_
                refine x_iadd dX10_readContour_161 ?_
                refine x_iconst (v := 0) dX10_readContour_162 (by decide) ?_
                have q87 : ((7 * (nI c1)) + 6 : Int32) = nI ((7 * c1) + 6) := nadd (nmul (rfl) (rfl)) (rfl)
                refine YY.S (st' := [.int 0, .int (nI ((7 * c1) + 6)), .ref (g.2.1 60)]) (by rw [q87]) ?_
                have b88 : vp_in (nI ((7 * c1) + 6)) 840 := by exact vp_in_nI (by omega) (by decide)
                refine x_iast rfl b88 dX10_readContour_163 ?_
                refine YY.V (V' := uM U85 60 ((7 * c1) + 6) 0) (by rw [nI_clamp (by omega)]) ?_
                obtain ⟨U89, eU89⟩ : ∃ v_v : vM, v_v = uM U85 60 ((7 * c1) + 6) 0 := ⟨_, rfl⟩
                refine YY.V eU89.symm ?_
                refine x_iinc 2 (v := 7) 0 [(2, .int 7), (1, .int (kaZ (sgP P n b))), (0, .ref (g.2.1 49))] dX10_readContour_164 rfl (by decide) (by decide) rfl ?_
                refine x_goto 143 dX10_readContour_167 (by decide) ?_
                refine x_iload_n dX10_readContour_143 0 rfl ?_
                refine x_bipush (v := 7) dX10_readContour_144 (by decide) ?_
                refine x_icmp_ge 170 dX10_readContour_146 (by decide) (fun c90 => ?_) (fun c90 => by exfalso; revert c90; decide)
                refine x_aload_n dX10_readContour_170 2 rfl ?_
                refine x_dup dX10_readContour_171 rfl ?_
                refine x_getI fl_X10_162 rfl rfl dX10_readContour_172 ?_
                refine x_topi (y := U 49 21) (by rw [eU89, uM_na (by decide), eU85, uM_na (by decide), eU81, uM_na (by decide), eU77, uM_na (by decide), eU73, uM_na (by decide), eU69, uM_na (by decide), eU65, uM_na (by decide), eU62, uM_ni (by decide)]) ?_
                refine x_topi (h21c) ?_
                refine x_iconst (v := 1) dX10_readContour_175 (by decide) ?_
                refine x_iadd dX10_readContour_176 ?_
                refine x_putI fp_X10_162 rfl rfl dX10_readContour_177 ?_
                obtain ⟨U91, eU91⟩ : ∃ v_v : vM, v_v = uM U89 49 21 ((nI c1) + 1) := ⟨_, rfl⟩
                refine YY.V eU91.symm ?_
                refine x_aload_n dX10_readContour_180 2 rfl ?_
                refine x_aload_n dX10_readContour_181 2 rfl ?_
                refine x_getI fl_X10_172 rfl rfl dX10_readContour_182 ?_
                refine x_topi (y := U 49 25) (by rw [eU91, uM_ni (by decide), eU89, uM_na (by decide), eU85, uM_na (by decide), eU81, uM_na (by decide), eU77, uM_na (by decide), eU73, uM_na (by decide), eU69, uM_na (by decide), eU65, uM_na (by decide), eU62, uM_ni (by decide)]) ?_
                refine x_putI fp_X10_153 rfl rfl dX10_readContour_185 ?_
                obtain ⟨U92, eU92⟩ : ∃ v_v : vM, v_v = uM U91 49 23 (U 49 25) := ⟨_, rfl⟩
                refine YY.V eU92.symm ?_
                refine x_aload_n dX10_readContour_188 2 rfl ?_
                refine x_aload_n dX10_readContour_189 2 rfl ?_
                refine x_getI fl_X10_175 rfl rfl dX10_readContour_190 ?_
                refine x_topi (y := U 49 26) (by rw [eU92, uM_ni (by decide), eU91, uM_ni (by decide), eU89, uM_na (by decide), eU85, uM_na (by decide), eU81, uM_na (by decide), eU77, uM_na (by decide), eU73, uM_na (by decide), eU69, uM_na (by decide), eU65, uM_na (by decide), eU62, uM_ni (by decide)]) ?_
                refine x_putI fp_X10_156 rfl rfl dX10_readContour_193 ?_
                obtain ⟨U93, eU93⟩ : ∃ v_v : vM, v_v = uM U92 49 24 (U 49 26) := ⟨_, rfl⟩
                refine YY.V eU93.symm ?_
                refine x_vret dX10_readContour_196 rfl ?_
                rw [hQ]
                have hMT : MR U93 P n (b + 1) := ((((((((((hCI.1.at eU62 (by omega)).row eU65).row eU69).row eU73).row eU77).row eU81).row eU85).row eU89).set eU91 (by decide) (by decide)).set eU92 (by decide) (by decide)).set eU93 (by decide) (by decide)
                have hFT : frD V U93 := ((((((((((hCI.2.1.st eU62 (by decide)).row eU65).row eU69).row eU73).row eU77).row eU81).row eU85).row eU89).st eU91 (by decide)).st eU92 (by decide)).st eU93 (by decide)
                have t19 : U93 49 19 = 0 := by rw [eU93, uM_ni (by decide), eU92, uM_ni (by decide), eU91, uM_ni (by decide), eU89, uM_na (by decide), eU85, uM_na (by decide), eU81, uM_na (by decide), eU77, uM_na (by decide), eU73, uM_na (by decide), eU69, uM_na (by decide), eU65, uM_na (by decide), eU62, uM_ni (by decide)]; exact h19U
                have t22 : U93 49 22 = U 49 22 := by rw [eU93, uM_ni (by decide), eU92, uM_ni (by decide), eU91, uM_ni (by decide), eU89, uM_na (by decide), eU85, uM_na (by decide), eU81, uM_na (by decide), eU77, uM_na (by decide), eU73, uM_na (by decide), eU69, uM_na (by decide), eU65, uM_na (by decide), eU62, uM_ni (by decide)]
                have t21 : U93 49 21 = nI (cW s1 + 1) := by rw [eU93, uM_ni (by decide), eU92, uM_ni (by decide), eU91, uM_hit, nI_1, hc1]
                have t23 : U93 49 23 = sxW s1 := by rw [eU93, uM_ni (by decide), eU92, uM_hit]; exact hbx
                have t24 : U93 49 24 = syW s1 := by rw [eU93, uM_hit]; exact hby
                have t60 : ∀ i, U93 60 i = U89 60 i := fun i => by rw [eU93, uM_na (by decide), eU92, uM_na (by decide), eU91, uM_na (by decide)]
                have tO : ∀ j, j < 7 * cW s1 → U93 60 j = OW s1 j := fun j hj => by rw [t60, eU89, uM_ni (by rw [← hc1] at hj; omega), eU85, uM_ni (by rw [← hc1] at hj; omega), eU81, uM_ni (by rw [← hc1] at hj; omega), eU77, uM_ni (by rw [← hc1] at hj; omega), eU73, uM_ni (by rw [← hc1] at hj; omega), eU69, uM_ni (by rw [← hc1] at hj; omega), eU65, uM_ni (by rw [← hc1] at hj; omega), eU62, uM_na (by decide)]; exact hRD1.2.2.2.2 j hj
                have tr : ∀ p, p < 7 → U93 60 (7 * cW s1 + p) = if p = 0 then 4 else 0 := by
                  intro p hp
                  rw [t60, ← hc1]
                  rcases (show p = 0 ∨ p = 1 ∨ p = 2 ∨ p = 3 ∨ p = 4 ∨ p = 5 ∨ p = 6 by omega) with h | h | h | h | h | h | h
                  · rw [h, eU89, uM_ni (by omega), eU85, uM_ni (by omega), eU81, uM_ni (by omega), eU77, uM_ni (by omega), eU73, uM_ni (by omega), eU69, uM_ni (by omega), eU65]; exact uM_hit
                  · rw [h, eU89, uM_ni (by omega), eU85, uM_ni (by omega), eU81, uM_ni (by omega), eU77, uM_ni (by omega), eU73, uM_ni (by omega), eU69]; exact uM_hit
                  · rw [h, eU89, uM_ni (by omega), eU85, uM_ni (by omega), eU81, uM_ni (by omega), eU77, uM_ni (by omega), eU73]; exact uM_hit
                  · rw [h, eU89, uM_ni (by omega), eU85, uM_ni (by omega), eU81, uM_ni (by omega), eU77]; exact uM_hit
                  · rw [h, eU89, uM_ni (by omega), eU85, uM_ni (by omega), eU81]; exact uM_hit
                  · rw [h, eU89, uM_ni (by omega), eU85]; exact uM_hit
                  · rw [h, Nat.add_zero, eU89]; exact uM_hit
                obtain ⟨hRT, hcT⟩ := RDM_cl t21 t23 t24 (t22.trans hRD1.2.2.2.1) tO tr
                exact ⟨rfl, hFT, b + 1, hMT, Or.inr ⟨t19, _, btw_0 (Or.inr rfl) hgo, by show ¬ (4 : Int32) = -1; decide, hRT, Or.inr (Or.inl rfl), by rw [hcT]; omega⟩⟩
            · obtain ⟨h19U, s1, hB1, hk1, hRD1, hbx, hby, hmu, hc0⟩ := hCI.2.2.resolve_left (fun q => absurd (q.1.symm.trans (by assumption)) (by decide))
              have hka : 0 < kaZ (sgP P n b) := Int32.not_le.mp (by assumption)
              refine x_aload_n dX10_readContour_75 1 rfl ?_
              refine x_iload_n dX10_readContour_76 0 rfl ?_
              refine x_aload_n dX10_readContour_77 1 rfl ?_
              refine x_callV (K := jX10_sign) [] lk_X10_140 ⟨⟨rfl, rfl⟩, Nat.le_of_ble_eq_true rfl, Nat.le_of_ble_eq_true rfl⟩ rfl rfl (mX10_sign2 hCI.1) rfl (Nat.le_of_ble_eq_true rfl) rfl dX10_readContour_78 (kpI ?_)
              refine x_bipush (v := 97) dX10_readContour_81 (by decide) ?_
              refine x_icmp_lt 90 dX10_readContour_83 (by decide) (fun c94 => ?_) (fun c94 => ?_)
              · refine x_iconst (v := 0) dX10_readContour_90 (by decide) ?_
                have hLt : rLt (sgP P n b) = (kaZ (sgP P n b), 0) := by rw [rLt_ka hka, if_neg (Int32.not_le.mpr (by assumption))]
                obtain ⟨hln, hgo⟩ := btw_go2 hB1 hLt (kaZ_b _).1 (Or.inr (k03n hk1))
                refine x_callV (K := jX10_readCommand) [.int (kaZ (sgP P n b)), .int 0] lk_X10_169 ⟨⟨rfl, rfl⟩, Nat.le_of_ble_eq_true rfl, Nat.le_of_ble_eq_true rfl⟩ rfl rfl (mX10_readCommand (kaZ_b _) hCI.1 hln h19U (by decide) (btw_cm hB1) hRD1.1 hRD1.2.1 hRD1.2.2.1 hRD1.2.2.2.1 hRD1.2.2.2.2 hgo) rfl (Nat.le_of_ble_eq_true rfl) rfl dX10_readContour_91 (keV fun U95 hU96 => ?_)
                obtain ⟨hF2, b2, hM2, hR2⟩ := cmdB (s := s1) (kaZ_b _) hU96
                obtain ⟨μ2, hCI2, hμ2⟩ := CI_s hCI hln hB1 hbx hby hmu hc0 (kaZ_b _) (fun z => by rw [z] at hka; exact absurd hka (by decide)) hF2 hM2 hR2
                refine x_aload_n dX10_readContour_94 1 rfl ?_
                refine x_callV (K := jX10_kindAt) [] lk_X10_178 ⟨⟨rfl, rfl⟩, Nat.le_of_ble_eq_true rfl, Nat.le_of_ble_eq_true rfl⟩ rfl rfl (mX10_kindAt hM2) rfl (Nat.le_of_ble_eq_true rfl) rfl dX10_readContour_95 (kpI ?_)
                refine x_istore_n 1 [(1, .int (kaZ (sgP P n b2))), (0, .ref (g.2.1 49))] dX10_readContour_98 rfl (by decide) rfl ?_
                refine x_goto 64 dX10_readContour_99 (by decide) ?_
                exact ih b2 μ2 U95 (by exact hCI2) (by omega)
              · refine x_iconst (v := 1) dX10_readContour_86 (by decide) ?_
                refine x_goto 91 dX10_readContour_87 (by decide) ?_
                have hLt : rLt (sgP P n b) = (kaZ (sgP P n b), 1) := by rw [rLt_ka hka, if_pos (Int32.not_lt.mp (by assumption))]
                obtain ⟨hln, hgo⟩ := btw_go2 hB1 hLt (kaZ_b _).1 (Or.inr (k03n hk1))
                refine x_callV (K := jX10_readCommand) [.int (kaZ (sgP P n b)), .int 1] lk_X10_169 ⟨⟨rfl, rfl⟩, Nat.le_of_ble_eq_true rfl, Nat.le_of_ble_eq_true rfl⟩ rfl rfl (mX10_readCommand (kaZ_b _) hCI.1 hln h19U (by decide) (btw_cm hB1) hRD1.1 hRD1.2.1 hRD1.2.2.1 hRD1.2.2.2.1 hRD1.2.2.2.2 hgo) rfl (Nat.le_of_ble_eq_true rfl) rfl dX10_readContour_91 (keV fun U97 hU98 => ?_)
                obtain ⟨hF2, b2, hM2, hR2⟩ := cmdB (s := s1) (kaZ_b _) hU98
                obtain ⟨μ2, hCI2, hμ2⟩ := CI_s hCI hln hB1 hbx hby hmu hc0 (kaZ_b _) (fun z => by rw [z] at hka; exact absurd hka (by decide)) hF2 hM2 hR2
                refine x_aload_n dX10_readContour_94 1 rfl ?_
                refine x_callV (K := jX10_kindAt) [] lk_X10_178 ⟨⟨rfl, rfl⟩, Nat.le_of_ble_eq_true rfl, Nat.le_of_ble_eq_true rfl⟩ rfl rfl (mX10_kindAt hM2) rfl (Nat.le_of_ble_eq_true rfl) rfl dX10_readContour_95 (kpI ?_)
                refine x_istore_n 1 [(1, .int (kaZ (sgP P n b2))), (0, .ref (g.2.1 49))] dX10_readContour_98 rfl (by decide) rfl ?_
                refine x_goto 64 dX10_readContour_99 (by decide) ?_
                exact ih b2 μ2 U97 (by exact hCI2) (by omega)
      exact lp56 _ b1 μ0 U55 (by exact hCI0) (Nat.lt_succ_self _)
    · refine x_aload_n dX10_readContour_18 0 rfl ?_
      refine x_iconst (v := 1) dX10_readContour_19 (by decide) ?_
      have z99 : (1 : Int32) = 0 ∨ (1 : Int32) = 1 := by first | exact Or.inl rfl | exact Or.inr rfl | grind
      refine x_putZ fp_X10_143 rfl rfl z99 dX10_readContour_20 ?_
      obtain ⟨U100, eU100⟩ : ∃ v_v : vM, v_v = uM V 49 19 1 := ⟨_, rfl⟩
      refine YY.V eU100.symm ?_
      refine x_vret dX10_readContour_23 rfl ?_
      rw [hQ]
      exact ⟨rfl, (frD.refl V).st eU100 (by decide), a, hMR.set eU100 (by decide) (by decide), Or.inl ⟨by rw [eU100, uM_hit], btw_bad hB han (rLt_n0 (by assumption) (by assumption)) hCE he⟩⟩
