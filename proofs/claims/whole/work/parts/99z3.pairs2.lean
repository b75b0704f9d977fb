theorem CS_kok {V : vM} {m : Nat → Int32} {N : Nat} {t : Int32} (hC : CS V m N t) : kok V 1 12 := by
  have hP := hC.1
  have hN := hP.2.2.1.1
  refine ⟨?_, fun i h1 h2 => ?_⟩
  · unfold szok
    rw [hP.1]
    exact ⟨nI_pos' (by omega), (nI_leI (by omega) (b := 24) (by omega)).mpr (by omega)⟩
  · rw [hP.1] at h1
    have hi : i < N := (nI_ltI (by omega) (by omega)).mp h1
    rw [(hP.2.2.2 i hi).1]
    exact (hP.2.2.1.2 i hi).1
theorem rRun_cong {P P2 : Nat → Int32} : ∀ i, (∀ j, j < i → P j = P2 j) → rRun P i = rRun P2 i
  | 0, _ => rfl
  | i + 1, h => by
    rw [rRun, rRun, rRun_cong i (fun j hj => h j (by omega)), h i (by omega)]
theorem rFt_cong {P P2 : Nat → Int32} {n : Nat} (h : ∀ j, j < n → P j = P2 j) : ∀ r i, i + r = n → rFt P n r i = rFt P2 n r i
  | 0, i, _ => by rw [rFt, rFt, rRun_cong n h]
  | r + 1, i, e => by
    rw [rFt, rFt, rRun_cong (i + 1) (fun j hj => h j (by omega)), rFt_cong h r (i + 1) (by omega)]
theorem ldF_cong {P P2 : Nat → Int32} {n : Nat} (h : ∀ j, j < n → P j = P2 j) : ldF P n = ldF P2 n := by
  unfold ldF; rw [rRun_cong n h]
theorem ldK_cong {P P2 : Nat → Int32} {n : Nat} (h : ∀ j, j < n → P j = P2 j) : ldK P n ↔ ldK P2 n := by
  unfold ldK ldN ldO; rw [rFt_cong h n 0 (by omega), ldF_cong h]
theorem ld_cong {P P2 : Nat → Int32} {n : Nat} (h : ∀ j, j < n → P j = P2 j) (m : Nat → Int32) (N : Nat) : ldZ P n = ldZ P2 n ∧ ldM P n m = ldM P2 n m ∧ ldS P n N = ldS P2 n N ∧ ldT P n = ldT P2 n := by
  have hF := ldF_cong h
  have hK := ldK_cong h
  refine ⟨?_, ?_, ?_, ?_⟩
  · unfold ldZ ldN ldO; rw [rFt_cong h n 0 (by omega), hF]
  · by_cases k : ldK P n
    · rw [(ld_y (N := N) k).2.1, (ld_y (N := N) (hK.mp k)).2.1]; unfold ldN ldO; rw [hF]
    · rw [(ld_n (N := N) k).1, (ld_n (N := N) (fun z => k (hK.mpr z))).1]
  · by_cases k : ldK P n
    · rw [(ld_y (m := m) k).2.2.1, (ld_y (m := m) (hK.mp k)).2.2.1]; unfold ldN; rw [hF]
    · rw [(ld_n (m := m) k).2.1, (ld_n (m := m) (fun z => k (hK.mpr z))).2.1]
  · by_cases k : ldK P n
    · rw [(ld_y (m := m) (N := N) k).2.2.2, (ld_y (m := m) (N := N) (hK.mp k)).2.2.2]
    · rw [(ld_n (m := m) (N := N) k).2.2, (ld_n (m := m) (N := N) (fun z => k (hK.mpr z))).2.2]
section
variable {g : gX} {V : vM}
theorem pr_close (h : RR V) : DK g jX9_close jX10_close V [] := by
  obtain ⟨⟨m, N, t, hC, hM, ht⟩, hO⟩ := h
  have hw := hM.1
  have hN := hw.1
  refine ⟨_, mX9_close V hN hC.1.1 (CS_kok hC), ?_⟩
  rintro r U ⟨eU, rfl⟩
  have u168 : U 50 168 = nI N := by
    rw [← hM.2.2.1, ← hM.2.1, eU]
    exact goV50
  refine ⟨_, rfl, _, mX10_close U N hN u168, ?_⟩
  rintro r2 W ⟨eW, rfl⟩
  obtain ⟨f1, f2⟩ := fin_close hC hM ht hO eU eW
  exact ⟨by rw [← f2], f1⟩
theorem pr_removeLast (h : RR V) : DK g jX9_removeLast jX10_removeLast V [] := by
  have h0 := h
  obtain ⟨⟨m, N, t, hC, hM, ht⟩, hO⟩ := h
  have hN := hM.1.1
  refine ⟨_, mX9_removeLast V hN hC.1.1, ?_⟩
  rintro r U ⟨eU, rfl⟩
  have u168 : U 50 168 = nI N := by
    rw [← hM.2.2.1, ← hM.2.1, eU]
    unfold rlV
    split
    · rfl
    · rw [uM_na (by decide)]
      split
      · rw [uM_na (by decide), uM_na (by decide)]
      · rw [uM_na (by decide)]
  refine ⟨_, rfl, _, mX10_removeLast U N hN u168, ?_⟩
  rintro r2 W ⟨eW, rfl⟩
  exact ⟨rfl, fin_rl h0 hC hM ht eU eW⟩
theorem pr_count (h : RR V) (w : Int32) : DK g jX9_count jX10_count V [.int w] := by
  have h0 := h
  obtain ⟨⟨m, N, t, hC, hM, ht⟩, hO⟩ := h
  have hN := hM.1.1
  refine ⟨_, mX9_count V w, ?_⟩
  rintro r U ⟨eU, rfl⟩
  subst eU
  refine ⟨_, rfl, _, mX10_count U N hN (by rw [hM.2.1]; exact hM.2.2.1) (by rw [hM.2.1]; exact hM.1) w, ?_⟩
  rintro r2 W ⟨eW, rfl⟩
  subst eW
  exact ⟨by rw [eq_count hC hM hO w], h0⟩
theorem pr_spell (h : RR V) (x : Int32) : DK g jX9_spell jX10_spell V [.int x] := by
  obtain ⟨⟨m, N, t, hC, hM, ht⟩, hO⟩ := h
  obtain ⟨S, fb, hCQ⟩ := CQ_of hC
  refine ⟨_, mX9_spell hC x, ?_⟩
  rintro r U ⟨z, rfl, ez, hC2, hf⟩
  have hM2 := hM.P hf.P
  refine ⟨z, rfl, _, mX10_spell (MZ_of hM2 hCQ) x, ?_⟩
  rintro r2 W ⟨eW, rfl⟩
  have hf2 : frNP U W := fun a i p1 p2 p3 => by
    rw [eW, wrM_at (by omega) (fun z => by have := p3 z; omega), uM_at, if_neg (fun z => by have := p3 z.1; omega)]
  refine ⟨by rw [sp_m hM.1 x, ez], RR.fin hO hC2 hf.P ⟨hM2.1, ?_, hM2.2.2⟩ hf2 ht⟩
  rw [← hM2.2.1]
  funext j
  rw [eW, wrM_at (by decide) (fun z => absurd z (by decide)), uM_na (by decide)]
theorem pr_fault (h : RR V) : DK g jX9_fault jX10_fault V [] := by
  obtain ⟨⟨m, N, t, hC, hM, ht⟩, hO⟩ := h
  obtain ⟨k, k1, k2, k3, k4⟩ := hO.1
  refine ⟨_, mX9_fault k1 k2 (fun j hj => ⟨Int32.le_trans (by decide) (k4 j hj).2.1, Int32.le_trans (k4 j hj).2.2 (by decide)⟩) hC, ?_⟩
  rintro r U ⟨z, rfl, ez, hC2, hf⟩
  refine ⟨z, rfl, _, mX10_fault (P := U 53) rfl (show U 49 4 = nI k by rw [hf.r (by omega)]; exact k3) k1, ?_⟩
  rintro r2 W ⟨z2, rfl, ez2, hf2, -⟩
  have hM2 := hM.P hf
  have hag : ∀ j, j < k → U 53 j = V 36 j := fun j hj => by rw [hf.r (by omega)]; exact (k4 j hj).1
  have hf3 : frNP U W := fun a i p1 p2 p3 => hf2 a i (by omega) (fun w => by have := p3 w.1; omega)
  refine ⟨by rw [ez2, ez, rFt_cong hag k 0 (by omega)], RR.fin hO hC2 hf ⟨hM2.1, ?_, hM2.2.2⟩ hf3 ht⟩
  rw [← hM2.2.1]
  funext j
  exact hf2 50 j (by decide) (fun w => absurd w.1 (by decide))
theorem pr_load (h : RR V) : DK g jX9_load jX10_load V [] := by
  obtain ⟨⟨m, N, t, hC, hM, ht⟩, hT, hD, hL, hS⟩ := h
  obtain ⟨k, k1, k2, k3, k4⟩ := hT
  refine ⟨_, mX9_load k1 k2 (fun j hj => ⟨Int32.le_trans (by decide) (k4 j hj).2.1, Int32.le_trans (k4 j hj).2.2 (by decide)⟩) hC, ?_⟩
  rintro r U ⟨z, rfl, ez, hC2, u10, hf⟩
  have hr : ∀ a i, 49 ≤ a → U a i = V a i := fun a i q => hf a i ⟨by omega, by omega, by omega, by omega, by omega, by omega, by omega, by omega, by omega, by omega, by omega, by omega, by omega, by omega⟩ (by omega) (by omega) (by omega) (by omega)
  have hM2 : MS U m N t := ⟨hM.1, by rw [← hM.2.1]; funext j; exact hr 50 j (by omega), hM.2.2⟩
  refine ⟨z, rfl, _, mX10_load (P := U 53) rfl (show U 49 4 = nI k by rw [hr _ _ (by omega)]; exact k3) k1 hM2, ?_⟩
  rintro r2 W ⟨z2, rfl, ez2, hM3, w4, hf2⟩
  have hag : ∀ j, j < k → U 53 j = V 36 j := fun j hj => by rw [hr _ _ (by omega)]; exact (k4 j hj).1
  obtain ⟨g1, g2, g3, g4⟩ := ld_cong hag m N
  rw [g2, g3] at hM3
  rw [g4] at w4
  have hl : ∀ a i, a < 49 → W a i = U a i := fun a i q => hf2 a i (by omega) (by omega) (by omega)
  have ho : ∀ a i, oth a i → ¬ (a = 10 ∧ i = 2) → ¬ (a = 49 ∧ i = 4) → W a i = V a i := fun a i q n1 n2 => by
    rcases q with ⟨p, p0, p1, p2, p3, p4⟩ | ⟨q1, q2, q3, q4⟩
    · rw [hl a i p4]; exact hf a i p p1 p2 p3 n1
    · rw [hf2 a i (by omega) q3 (fun w => ⟨q4 w, fun y => n2 ⟨w, y⟩⟩)]; exact hr a i q1
  refine ⟨by rw [ez2, ez, g1], ⟨_, _, t, hC2.ag (fun a i p => hl a i (by omega)), hM3, ht⟩, ?_, hD.ag (fun a i p => ho a i (if z : a < 49 then oth_l (by omega) else oth_r (by omega)) (by omega) (by omega)), hL.ag (fun a i p => ho a i (if z : a < 49 then oth_l (by omega) else oth_r (by omega)) (by omega) (by omega)), hS.ag (fun a i p => ho a i (if z : a < 49 then oth_l (by omega) else oth_r (by omega)) (by omega) (by omega))⟩
  have hT : ldT (V 36) k ≤ k := by
    by_cases q : ldK (V 36) k
    · rw [(ld_y (m := m) (N := N) q).2.2.2]; omega
    · rw [(ld_n (m := m) (N := N) q).2.2]; omega
  refine ⟨ldT (V 36) k, by omega, by rw [hl 10 2 (by omega)]; exact u10, w4, fun j hj => ?_⟩
  rw [ho 53 j (oth_r (by omega)) (by omega) (by omega), ho 36 j (oth_l (by omega)) (by omega) (by omega)]
  exact k4 j (by omega)
theorem sl_c (sl : Int32) : sl = 0 ∨ sl = 1 ∨ ¬ (0 ≤ sl ∧ sl < 2) := by
  by_cases q : 0 ≤ sl ∧ sl < 2
  · obtain ⟨k, e, hk⟩ := nI_ex (c := sl) (n := 2) (by omega) q
    rcases (show k = 0 ∨ k = 1 by omega) with z | z
    · rw [e, z]; exact Or.inl rfl
    · rw [e, z]; exact Or.inr (Or.inl rfl)
  · exact Or.inr (Or.inr q)
theorem sl_no {sl : Int32} (h : ¬ (0 ≤ sl ∧ sl < 2)) : ¬ (0 ≤ sl ∧ sl ≤ 1) := fun q => h ⟨q.1, Int32.lt_of_le_of_lt q.2 (by decide)⟩
theorem pr_save (h : RR V) (sl : Int32) : DK g jX9_save jX10_save V [.int sl] := by
  have h0 := h
  obtain ⟨⟨m, N, t, hC, hM, ht⟩, hO⟩ := h
  have hN := hM.1.1
  have h168 : V 50 168 = nI N := by rw [hM.2.1]; exact hM.2.2.1
  rcases sl_c sl with rfl | rfl | hno
  · refine ⟨_, mX9_save0 V, ?_⟩
    rintro r U ⟨eU, rfl⟩
    refine ⟨_, rfl, _, mX10_save U N hN (by rw [eU, uM_na (by decide), bc_at (by decide) (by decide) (by decide)]; exact h168) 0, ?_⟩
    rintro r2 W ⟨eW, rfl⟩
    rw [if_pos (by decide)] at eW
    exact ⟨by rw [if_pos (by decide), hC.1.1], fin_save hC hM ht hO (Or.inl ⟨rfl, rfl, rfl, rfl⟩) eU eW⟩
  · refine ⟨_, mX9_save1 V, ?_⟩
    rintro r U ⟨eU, rfl⟩
    refine ⟨_, rfl, _, mX10_save U N hN (by rw [eU, uM_na (by decide), bc_at (by decide) (by decide) (by decide)]; exact h168) 1, ?_⟩
    rintro r2 W ⟨eW, rfl⟩
    rw [if_pos (by decide)] at eW
    exact ⟨by rw [if_pos (by decide), hC.1.1], fin_save hC hM ht hO (Or.inr ⟨rfl, rfl, rfl, rfl⟩) eU eW⟩
  · refine ⟨_, mX9_save_no V sl hno, ?_⟩
    rintro r U ⟨eU, rfl⟩
    subst eU
    refine ⟨_, rfl, _, mX10_save U N hN h168 sl, ?_⟩
    rintro r2 W ⟨eW, rfl⟩
    rw [if_neg (sl_no hno)] at eW
    subst eW
    exact ⟨by rw [if_neg (sl_no hno)], h0⟩
theorem rs_sv {U : vM} (h : RS U) : ∀ sn, sn < 2 → ¬ U 52 sn = 0 → ∃ N2, N2 ≤ 24 ∧ U 51 (170 * sn + 168) = nI N2 := by
  have f : ∀ {sl a k n : Nat}, RS1 U sl a k n → ¬ U 52 sl = 0 → ∃ N2, N2 ≤ 24 ∧ U 51 (170 * sl + 168) = nI N2 := by
    intro sl a k n hs hn
    rcases hs with ⟨-, z⟩ | ⟨-, m2, N2, t2, hP2, -, -, e51, e168, -⟩
    · exact absurd z hn
    · exact ⟨N2, hP2.2.2.1.1, by rw [e51 168 (by omega)]; exact e168⟩
  intro sn h2 hn
  rcases (show sn = 0 ∨ sn = 1 by omega) with e | e
  · subst e; exact f h.1 hn
  · subst e; exact f h.2 hn
theorem pr_restore (h : RR V) (sl : Int32) : DK g jX9_restore jX10_restore V [.int sl] := by
  have h0 := h
  obtain ⟨⟨m, N, t, hC, hM, ht⟩, hO⟩ := h
  have hN := hM.1.1
  have h168 : V 50 168 = nI N := by rw [hM.2.1]; exact hM.2.2.1
  have hS := hO.2.2.2
  have no : ∀ s : Nat, s < 2 → ∀ a k n, RS1 V s a k n → V 5 s = 0 → V 52 s = 0 := by
    intro s hs a k n h1 h2
    rcases h1 with ⟨-, z⟩ | ⟨-, m2, N2, t2, -, ht2, e5, -⟩
    · exact z
    · rw [h2] at e5; rw [← e5] at ht2; exact absurd ht2.1 (by decide)
  rcases sl_c sl with rfl | rfl | hno
  · by_cases c5 : V 5 0 = 0
    · refine ⟨_, mX9_restore0n V c5, ?_⟩
      rintro r U ⟨eU, rfl⟩
      subst eU
      refine ⟨_, rfl, _, mX10_restore U N hN h168 0 (rs_sv hS), ?_⟩
      rintro r2 W ⟨eW, rfl⟩
      have z := no 0 (by omega) _ _ _ hS.1 c5
      have zc : U 52 (0 : Int32).toNatClampNeg = 0 := z
      have q1 : ¬ ¬ (0 ≤ (0 : Int32) ∧ (0 : Int32) ≤ 1) := fun w => w (by decide)
      rw [if_neg (fun w => w.2 zc)] at eW
      subst eW
      exact ⟨by rw [if_neg q1, if_pos zc], h0⟩
    · refine ⟨_, mX9_restore0 V c5, ?_⟩
      rintro r U ⟨eU, rfl⟩
      have u168 : U 50 168 = nI N := by rw [eU, uM_na (by decide), uM_na (by decide), bc_at (by decide) (by decide) (by decide)]; exact h168
      have hSU : RS U := hS.ag (fun a i p => by rw [eU, uM_na (by omega), uM_na (by omega), bc_at (by omega) (by omega) (by omega)])
      refine ⟨_, rfl, _, mX10_restore U N hN u168 0 (rs_sv hSU), ?_⟩
      rintro r2 W ⟨eW, rfl⟩
      have key := fun (W : vM) (eW : W = cM U 50 (rsF U 0 170)) => fin_restore hC hM hO (Or.inl ⟨rfl, rfl, rfl, rfl⟩) hS.1 c5 eU eW
      have n52 : ¬ U 52 (0 : Int32).toNatClampNeg = 0 := (key _ rfl).2.1
      have q1 : ¬ ¬ (0 ≤ (0 : Int32) ∧ (0 : Int32) ≤ 1) := fun w => w (by decide)
      rw [if_pos ⟨by decide, n52⟩] at eW
      have kk := key W eW
      exact ⟨by rw [if_neg q1, if_neg n52, kk.2.2]; rfl, kk.1⟩
  · by_cases c5 : V 5 1 = 0
    · refine ⟨_, mX9_restore1n V c5, ?_⟩
      rintro r U ⟨eU, rfl⟩
      subst eU
      refine ⟨_, rfl, _, mX10_restore U N hN h168 1 (rs_sv hS), ?_⟩
      rintro r2 W ⟨eW, rfl⟩
      have z := no 1 (by omega) _ _ _ hS.2 c5
      have zc : U 52 (1 : Int32).toNatClampNeg = 0 := z
      have q1 : ¬ ¬ (0 ≤ (1 : Int32) ∧ (1 : Int32) ≤ 1) := fun w => w (by decide)
      rw [if_neg (fun w => w.2 zc)] at eW
      subst eW
      exact ⟨by rw [if_neg q1, if_pos zc], h0⟩
    · refine ⟨_, mX9_restore1 V c5, ?_⟩
      rintro r U ⟨eU, rfl⟩
      have u168 : U 50 168 = nI N := by rw [eU, uM_na (by decide), uM_na (by decide), bc_at (by decide) (by decide) (by decide)]; exact h168
      have hSU : RS U := hS.ag (fun a i p => by rw [eU, uM_na (by omega), uM_na (by omega), bc_at (by omega) (by omega) (by omega)])
      refine ⟨_, rfl, _, mX10_restore U N hN u168 1 (rs_sv hSU), ?_⟩
      rintro r2 W ⟨eW, rfl⟩
      have key := fun (W : vM) (eW : W = cM U 50 (rsF U 1 170)) => fin_restore hC hM hO (Or.inr ⟨rfl, rfl, rfl, rfl⟩) hS.2 c5 eU eW
      have n52 : ¬ U 52 (1 : Int32).toNatClampNeg = 0 := (key _ rfl).2.1
      have q1 : ¬ ¬ (0 ≤ (1 : Int32) ∧ (1 : Int32) ≤ 1) := fun w => w (by decide)
      rw [if_pos ⟨by decide, n52⟩] at eW
      have kk := key W eW
      exact ⟨by rw [if_neg q1, if_neg n52, kk.2.2]; rfl, kk.1⟩
  · refine ⟨_, mX9_restore_no V sl hno, ?_⟩
    rintro r U ⟨eU, rfl⟩
    subst eU
    refine ⟨_, rfl, _, mX10_restore U N hN h168 sl (rs_sv hS), ?_⟩
    rintro r2 W ⟨eW, rfl⟩
    have q1 := sl_no hno
    rw [if_neg (fun w => q1 w.1)] at eW
    subst eW
    exact ⟨by rw [if_pos q1], h0⟩
end
