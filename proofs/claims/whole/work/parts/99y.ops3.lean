theorem oth_n {a i : Nat} (p : oth a i) : a ≠ 0 ∧ a ≠ 1 ∧ a ≠ 12 ∧ a ≠ 13 ∧ a ≠ 50 := by
  rcases p with ⟨-, p0, p1, p2, p3, p4⟩ | ⟨p1, -, p2, -⟩ <;> omega
/-- a command more on both sides -/
theorem fin_app {V U W : vM} {m : Nat → Int32} {N : Nat} {t : Int32} {kd ax ay bx by_ x y x0 x1 x2 x3 x4 x5 : Int32} (hC : CS V m N t) (hM : MS V m N t) (ht : 1 ≤ t ∧ t ≤ 1000) (hO : RO V) (hN : N < 24) (eU : U = uM (ad V 1 12 13 N kd x0 x1 x2 x3 x4 x5) 0 12 1) (eW : W = mad U N kd ax ay bx by_ x y) (hk : 0 ≤ kd ∧ kd ≤ 4) (ho : kd = 0 ∨ (0 < N ∧ ¬ m ((N - 1) * 7) = 4)) (hr : inR6 ax ay bx by_ x y)
    (hz : (kd = 0 ∨ kd = 1 ∨ kd = 4 → ax = 0 ∧ ay = 0) ∧ (kd = 0 ∨ kd = 1 ∨ kd = 2 ∨ kd = 4 → bx = 0 ∧ by_ = 0) ∧ (kd = 4 → x = 0 ∧ y = 0))
    (hx : (kd = 0 ∨ kd = 1 → x0 = x ∧ x1 = y) ∧ (kd = 2 → x0 = ax ∧ x1 = ay ∧ x2 = x ∧ x3 = y) ∧ (kd = 3 → x0 = ax ∧ x1 = ay ∧ x2 = bx ∧ x3 = by_ ∧ x4 = x ∧ x5 = y) ∧ (kd = 4 → x0 = m (mv7 m (N - 1) * 7 + 5) ∧ x1 = m (mv7 m (N - 1) * 7 + 6))) : RR W := by
  have hfU : ∀ b i, b ≠ 1 → b ≠ 12 → b ≠ 13 → ¬ (b = 0 ∧ i = 12) → U b i = V b i := fun b i p1 p2 p3 p4 => by
    rw [eU, uM_at, if_neg p4, ad_at p1 p2 p3]
  have hfW : ∀ b i, b ≠ 50 → W b i = U b i := fun b i p => by
    rw [eW]; unfold mad
    rw [uM_na p, uM_na p, uM_na p, uM_na p, uM_na p, uM_na p, uM_na p, uM_na p]
  have u50 : ∀ j, U 50 j = m j := fun j => by rw [hfU 50 j (by omega) (by omega) (by omega) (by omega), hM.2.1]
  have wo : ∀ j, (j < 7 * N ∨ 7 * N + 7 ≤ j) → j ≠ 168 → W 50 j = m j := fun j p q => by
    rw [eW]; unfold mad
    rw [uM_ni q, uM_ni (by omega), uM_ni (by omega), uM_ni (by omega), uM_ni (by omega), uM_ni (by omega), uM_ni (by omega), uM_ni (by omega), u50]
  have g0 : W 50 (N * 7) = kd := by
    rw [eW, Nat.mul_comm]; unfold mad
    rw [uM_ni (by omega), uM_ni (by omega), uM_ni (by omega), uM_ni (by omega), uM_ni (by omega), uM_ni (by omega), uM_ni (by omega), uM_hit]
  have g1 : W 50 (N * 7 + 1) = ax := by
    rw [eW, Nat.mul_comm]; unfold mad
    rw [uM_ni (by omega), uM_ni (by omega), uM_ni (by omega), uM_ni (by omega), uM_ni (by omega), uM_ni (by omega), uM_hit]
  have g2 : W 50 (N * 7 + 2) = ay := by
    rw [eW, Nat.mul_comm]; unfold mad
    rw [uM_ni (by omega), uM_ni (by omega), uM_ni (by omega), uM_ni (by omega), uM_ni (by omega), uM_hit]
  have g3 : W 50 (N * 7 + 3) = bx := by
    rw [eW, Nat.mul_comm]; unfold mad
    rw [uM_ni (by omega), uM_ni (by omega), uM_ni (by omega), uM_ni (by omega), uM_hit]
  have g4 : W 50 (N * 7 + 4) = by_ := by
    rw [eW, Nat.mul_comm]; unfold mad
    rw [uM_ni (by omega), uM_ni (by omega), uM_ni (by omega), uM_hit]
  have g5 : W 50 (N * 7 + 5) = x := by
    rw [eW, Nat.mul_comm]; unfold mad
    rw [uM_ni (by omega), uM_ni (by omega), uM_hit]
  have g6 : W 50 (N * 7 + 6) = y := by
    rw [eW, Nat.mul_comm]; unfold mad
    rw [uM_ni (by omega), uM_hit]
  have hw := hM.1
  have hrow : ∀ i p, i < N → p < 7 → W 50 (i * 7 + p) = m (i * 7 + p) := fun i p hi hp => wo _ (by omega) (by omega)
  have q0 : ∀ i, i < N → W 50 (i * 7) = m (i * 7) := fun i hi => hrow i 0 hi (by omega)
  have hWF : WF (W 50) (N + 1) := by
    have h0 := hw.row hrow
    refine ⟨by omega, fun i hi => ?_⟩
    by_cases e : i = N
    · subst e
      rw [g0, g1, g2, g3, g4, g5, g6]
      refine ⟨hk, fun z => ?_, fun p p1 p7 => ?_, hz⟩
      · obtain ⟨h1, h2⟩ := ho.resolve_left z
        exact ⟨i - 1, by omega, by rw [q0 _ (by omega)]; exact h2⟩
      · obtain ⟨r1, r2, r3, r4, r5, r6⟩ := hr
        rcases (show p = 1 ∨ p = 2 ∨ p = 3 ∨ p = 4 ∨ p = 5 ∨ p = 6 by omega) with h | h | h | h | h | h
        · rw [h, g1]; exact r1
        · rw [h, g2]; exact r2
        · rw [h, g3]; exact r3
        · rw [h, g4]; exact r4
        · rw [h, g5]; exact r5
        · rw [h, g6]; exact r6
    · exact h0.2 i (by omega)
  have hNX : NX (W 50) N x0 x1 x2 x3 x4 x5 := by
    obtain ⟨y1, y2, y3, y4⟩ := hx
    unfold NX ex7 ey7
    rw [g0, g1, g2, g3, g4, g5, g6]
    refine ⟨y1, y2, y3, fun k4 => ?_⟩
    rw [if_pos k4]
    have hn0 : 0 < N := by
      rcases ho with z | z
      · rw [z] at k4; exact absurd k4 (by decide)
      · exact z.1
    have emv : mv7 (W 50) N = mv7 m (N - 1) := by
      obtain ⟨M, rfl⟩ : ∃ M, N = M + 1 := ⟨N - 1, by omega⟩
      rw [mv7, if_neg (by rw [g0, k4]; decide), Nat.add_sub_cancel]
      exact mv7_cong M (fun j hj => q0 j (by omega))
    have ml := mv7_le m (N - 1)
    rw [emv, hrow _ 5 (by omega) (by omega), hrow _ 6 (by omega) (by omega)]
    exact y4 k4
  have hPP : PPr V 1 12 13 N (W 50) := PPr.row ⟨hC.1.1, hC.1.2.1, hC.1.2.2.2⟩ hrow
  have hPA := hPP.add isP1 hN g0.symm hNX
  have hPW : PR W 1 12 13 (N + 1) (W 50) := by
    have hPR : PR (ad V 1 12 13 N kd x0 x1 x2 x3 x4 x5) 1 12 13 (N + 1) (W 50) := ⟨hPA.1, hPA.2.1, hWF, hPA.2.2⟩
    exact hPR.kept (fun i => by rw [hfW 1 i (by omega), eU, uM_na (by omega)]) (fun i => by rw [hfW 12 i (by omega), eU, uM_na (by omega)]) (fun i => by rw [hfW 13 i (by omega), eU, uM_na (by omega)])
  refine ⟨⟨W 50, N + 1, t, ⟨hPW, ?_, fun z => absurd z ?_⟩, ⟨hWF, rfl, ?_, ?_⟩, ht⟩, hO.ag (fun b i p => by obtain ⟨y0, y1, y2, y3, y4⟩ := oth_n p; rw [hfW b i y4, hfU b i y1 y2 y3 (fun z => y0 z.1)])⟩
  · rw [hfW 0 11 (by omega), hfU 0 11 (by omega) (by omega) (by omega) (by omega)]; exact hC.2.1
  · rw [hfW 0 12 (by omega), eU, uM_hit]; decide
  · rw [eW]; unfold mad; rw [uM_hit]
  · rw [wo 169 (by omega) (by omega)]; exact hM.2.2.2
theorem cnt_mv {m : Nat → Int32} (h0 : m 0 = 0) : ∀ i, cntM (kd7 m) (mv7 m i) + 1 = cntM (kd7 m) (i + 1)
  | 0 => by
    show cntM (kd7 m) 0 + 1 = if kd7 m 0 = 0 then cntM (kd7 m) 0 + 1 else cntM (kd7 m) 0
    rw [if_pos (show kd7 m 0 = 0 by simpa [kd7] using h0)]
  | i + 1 => by
    rw [mv7]
    by_cases c : m ((i + 1) * 7) = 0
    · rw [if_pos c]
      show _ = if kd7 m (i + 1) = 0 then _ else _
      rw [if_pos (show kd7 m (i + 1) = 0 from c)]
    · rw [if_neg c, cnt_mv h0 i]
      show _ = if kd7 m (i + 1) = 0 then _ else _
      rw [if_neg (show ¬ kd7 m (i + 1) = 0 from c)]
/-- where CLOSE ends -/
theorem clo_ends {V : vM} {m : Nat → Int32} {N : Nat} (hP : PR V 1 12 13 N m) (h0 : 0 < N) : nbV V 1 13 (clS V N) (2 * ptV V 1 12 (clS V N) - 2) = m (mv7 m (N - 1) * 7 + 5) ∧ nbV V 1 13 (clS V N) (2 * ptV V 1 12 (clS V N) - 1) = m (mv7 m (N - 1) * 7 + 6) := by
  have hw := hP.2.2.1
  have hN := hw.1
  have hz := hw.first h0
  have ml := mv7_le m (N - 1)
  have mz := mv7_0 hz (N - 1)
  have hcm := cnt_mv hz (N - 1)
  rw [show N - 1 + 1 = N by omega] at hcm
  have hcl := cntM_le (kd7 m) N
  have hcs : clS V N = nI (mv7 m (N - 1)) := by
    unfold clS
    rw [hP.2.1, nI_s1 (by omega), fo_cong (K := V 12) (K2 := kd7 m) _ (fun i hi => (hP.2.2.2 i hi).1), fo_hit (by omega) (show mv7 m (N - 1) < N by omega) (show kd7 m (mv7 m (N - 1)) = 0 from mz) (show cntM (kd7 m) (mv7 m (N - 1)) = cntM (kd7 m) N - 1 by omega)]
  have hin : 0 ≤ nI (mv7 m (N - 1)) ∧ nI (mv7 m (N - 1)) < V 1 2 := by
    rw [hP.1]; exact nI_bt (by omega) (by omega)
  have hpt : ptV V 1 12 (clS V N) = 1 := by
    unfold ptV kiV
    rw [hcs, if_pos hin, nI_clamp (by omega), (hP.2.2.2 _ (by omega)).1, mz]
    decide
  obtain ⟨h1, -⟩ := (hP.2.2.2 (mv7 m (N - 1)) (by omega)).2
  obtain ⟨e1, e2⟩ := h1 (Or.inl mz)
  rw [hpt, hcs]
  unfold nbV
  rw [if_pos ⟨hin.1, hin.2, by decide, by decide⟩, if_pos ⟨hin.1, hin.2, by decide, by decide⟩]
  have i0 : nI (mv7 m (N - 1)) * 6 + (2 * 1 - 2) = nI (mv7 m (N - 1) * 6) := by
    rw [show (2 * 1 - 2 : Int32) = 0 by decide, Int32.add_zero]; exact nmul rfl (b := 6) rfl
  have i1 : nI (mv7 m (N - 1)) * 6 + (2 * 1 - 1) = nI (mv7 m (N - 1) * 6 + 1) := by
    rw [show (2 * 1 - 1 : Int32) = nI 1 by decide]; exact nadd (nmul rfl (b := 6) rfl) rfl
  rw [i0, i1, nI_clamp (by omega), nI_clamp (by omega)]
  exact ⟨e1, e2⟩
theorem fin_rl {V U W : vM} {m : Nat → Int32} {N : Nat} {t : Int32} (h : RR V) (hC : CS V m N t) (hM : MS V m N t) (ht : 1 ≤ t ∧ t ≤ 1000) (eU : U = rlV V N) (eW : W = if N = 0 then U else uM U 50 168 (nI (N - 1))) : RR W := by
  have hO := h.2
  unfold rlV at eU
  by_cases q : N = 0
  · rw [if_pos q] at eU eW
    rw [eW, eU]; exact h
  · rw [if_neg q] at eU eW
    have hw := hM.1
    have hN := hw.1
    have hk := (hC.1.2.2.2 (N - 1) (by omega)).1
    have hfU : ∀ b i, ¬ (b = 1 ∧ (i = 2 ∨ i = 3)) → ¬ (b = 0 ∧ i = 12) → U b i = V b i := fun b i p1 p2 => by
      rw [eU, uM_at, if_neg p2]
      split
      · rw [uM_at, if_neg (by omega), uM_at, if_neg (by omega)]
      · rw [uM_at, if_neg (by omega)]
    have hf : ∀ b i, ¬ (b = 1 ∧ (i = 2 ∨ i = 3)) → ¬ (b = 0 ∧ i = 12) → ¬ (b = 50 ∧ i = 168) → W b i = V b i := fun b i p1 p2 p3 => by
      rw [eW, uM_at, if_neg p3, hfU b i p1 p2]
    have wo : ∀ j, j ≠ 168 → W 50 j = m j := fun j hj => by rw [hf 50 j (by omega) (by omega) (by omega), hM.2.1]
    have hrow : ∀ i p, i < N → p < 7 → W 50 (i * 7 + p) = m (i * 7 + p) := fun i p hi hp => wo _ (by omega)
    have hw1 : WF m (N - 1) := ⟨by omega, fun i hi => hw.2 i (by omega)⟩
    have hWF : WF (W 50) (N - 1) := hw1.row (fun i p hi hp => hrow i p (by omega) hp)
    have hPm : PR W 1 12 13 (N - 1) m := by
      refine ⟨?_, ?_, hw1, fun i hi => ?_⟩
      · rw [eW, uM_na (by decide), eU, uM_na (by decide)]
        split
        · rw [uM_ni (by decide), uM_hit]
        · rw [uM_hit]
      · have hc := hC.1.2.1
        have ec : cntM (kd7 m) N = if kd7 m (N - 1) = 0 then cntM (kd7 m) (N - 1) + 1 else cntM (kd7 m) (N - 1) := by
          obtain ⟨M, rfl⟩ : ∃ M, N = M + 1 := ⟨N - 1, by omega⟩
          rfl
        rw [eW, uM_na (by decide), eU, uM_na (by decide)]
        by_cases z : V 12 (N - 1) = 0
        · rw [if_pos z, uM_hit, hc, ec, if_pos (show kd7 m (N - 1) = 0 by rw [← z]; exact hk.symm), nI_s1 (by omega), Nat.add_sub_cancel]
        · rw [if_neg z, uM_ni (by decide), hc, ec, if_neg (show ¬ kd7 m (N - 1) = 0 from fun y => z (hk.trans y))]
      · have hp := hC.1.2.2.2 i (by omega)
        refine ⟨by rw [hf 12 i (by omega) (by omega) (by omega)]; exact hp.1, numR_cong hp.2 (fun j hj => hf 13 _ (by omega) (by omega) (by omega))⟩
    refine ⟨⟨W 50, N - 1, t, ⟨hPm.row (fun i p hi hp => hrow i p (by omega) hp), ?_, fun z => absurd z ?_⟩, ⟨hWF, rfl, by rw [eW, uM_hit], by rw [wo 169 (by omega)]; exact hM.2.2.2⟩, ht⟩, hO.ag (fun b i p => hf b i ?_ ?_ ?_)⟩
    · rw [hf 0 11 (by omega) (by omega) (by omega)]; exact hC.2.1
    · rw [eW, uM_na (by decide), eU, uM_hit]; decide
    · rcases p with ⟨-, -, p0, -⟩ | ⟨p1, -⟩ <;> omega
    · rcases p with ⟨-, p0, -⟩ | ⟨p1, -⟩ <;> omega
    · rcases p with ⟨-, -, -, -, -, p0⟩ | ⟨-, -, p1, -⟩ <;> omega
