def kaZ (ch : Int32) : Int32 := if ch = 76 ∨ ch = 108 then 1 else if ch = 81 ∨ ch = 113 then 2 else if ch = 67 ∨ ch = 99 then 3 else 0
theorem ixL0 (ch : Int32) : ixS 0 ch = if 77 = ch then 0 else if 76 = ch then 1 else if 81 = ch then 2 else if 67 = ch then 3 else if 90 = ch then 4 else -1 := rfl
theorem ixL1 (ch : Int32) : ixS 1 ch = if 109 = ch then 0 else if 108 = ch then 1 else if 113 = ch then 2 else if 99 = ch then 3 else -1 := rfl
theorem rLt_c (ch : Int32) : (ch = 77 ∧ rLt ch = (0, 0)) ∨ (ch = 109 ∧ rLt ch = (0, 1)) ∨ (0 < kaZ ch ∧ rLt ch = (kaZ ch, if 97 ≤ ch then 1 else 0)) ∨ (ch = 90 ∧ rLt ch = (4, 0)) ∨ (¬ ch = 77 ∧ ¬ ch = 109 ∧ kaZ ch = 0 ∧ ¬ ch = 90 ∧ rLt ch = (-1, 1)) := by
  by_cases a1 : ch = 77
  · subst a1; exact Or.inl ⟨rfl, by decide⟩
  by_cases a2 : ch = 109
  · subst a2; exact Or.inr (Or.inl ⟨rfl, by decide⟩)
  by_cases a3 : ch = 76
  · subst a3; exact Or.inr (Or.inr (Or.inl (by decide)))
  by_cases a4 : ch = 108
  · subst a4; exact Or.inr (Or.inr (Or.inl (by decide)))
  by_cases a5 : ch = 81
  · subst a5; exact Or.inr (Or.inr (Or.inl (by decide)))
  by_cases a6 : ch = 113
  · subst a6; exact Or.inr (Or.inr (Or.inl (by decide)))
  by_cases a7 : ch = 67
  · subst a7; exact Or.inr (Or.inr (Or.inl (by decide)))
  by_cases a8 : ch = 99
  · subst a8; exact Or.inr (Or.inr (Or.inl (by decide)))
  by_cases a9 : ch = 90
  · subst a9; exact Or.inr (Or.inr (Or.inr (Or.inl ⟨rfl, by decide⟩)))
  refine Or.inr (Or.inr (Or.inr (Or.inr ⟨a1, a2, ?_, a9, ?_⟩)))
  · unfold kaZ; rw [if_neg (fun q => q.elim a3 a4), if_neg (fun q => q.elim a5 a6), if_neg (fun q => q.elim a7 a8)]
  · unfold rLt
    rw [ixL0, ixL1, if_neg (Ne.symm a1), if_neg (Ne.symm a3), if_neg (Ne.symm a5), if_neg (Ne.symm a7), if_neg (Ne.symm a9), if_neg (Ne.symm a2), if_neg (Ne.symm a4), if_neg (Ne.symm a6), if_neg (Ne.symm a8)]
    rfl
theorem kaZ_b (ch : Int32) : 0 ≤ kaZ ch ∧ kaZ ch ≤ 3 := by
  unfold kaZ
  split
  · decide
  · split
    · decide
    · split <;> decide
/-- between two commands: whole so far, and no number goes on -/
def Btw (P : Nat → Int32) (n a : Nat) (s : RSt) : Prop := rRun P a = some s ∧ (s.1.1 = -1 ∨ rWh s) ∧ (a < n → (48 ≤ P a ∧ P a ≤ 57) ∨ P a = 45 ∨ P a = 44 → rSt (P a) s = none)
theorem rNd_0 {k : Int32} (h : k = -1 ∨ k = 4) : rNd k = 0 := by
  unfold rNd; rw [if_pos (h.symm)]
theorem btw_cmd {P : Nat → Int32} {n a : Nat} {k sm ng : Int32} {c v d cm : Nat} {p : Int32 × Int32 × Int32 × Int32} {X O : Nat → Int32} (hk : 0 ≤ k ∧ k ≤ 3) (hs : rRun P a = some ((k, sm, ng), (c, v, d, cm), p, X, O)) (hd : 0 < d) (hc : c + 1 = rNd k) (hN : NE P n a ((k, sm, ng), (c, v, d, cm), p, X, O)) : Btw P n a ((k, sm, ng), (c, v, d, cm), p, X, O) := by
  refine ⟨hs, Or.inr ⟨fun z => ?_, Or.inr ⟨hd, hc⟩⟩, fun hl q => ?_⟩
  · rw [z] at hk; exact absurd hk.1 (by decide)
  · rcases q with q | q | q
    · exact hN hl q
    · rw [rSt_m q]; unfold rMi; exact if_pos (Or.inr (Or.inr hd))
    · rw [rSt_c q]; unfold rCo; exact if_pos (Or.inr (by omega))
theorem btw_0 {P : Nat → Int32} {n a : Nat} {k sm ng : Int32} {c v d cm : Nat} {p : Int32 × Int32 × Int32 × Int32} {X O : Nat → Int32} (hk : k = -1 ∨ k = 4) (hs : rRun P a = some ((k, sm, ng), (c, v, d, cm), p, X, O)) : Btw P n a ((k, sm, ng), (c, v, d, cm), p, X, O) := by
  have h0 := rNd_0 hk
  refine ⟨hs, hk.elim Or.inl (fun z => Or.inr ⟨fun y => ?_, Or.inl z⟩), fun hl q => ?_⟩
  · have y2 : k = -1 := y
    rw [z] at y2; exact absurd y2 (by decide)
  · rcases q with q | q | q
    · rw [rSt_d q]; unfold rDg; exact if_pos (Or.inl (by omega))
    · rw [rSt_m q]; unfold rMi; exact if_pos (Or.inl (by omega))
    · rw [rSt_c q]; unfold rCo; exact if_pos (Or.inr (by omega))
section
variable {P : Nat → Int32} {n a : Nat} {s : RSt}
theorem rLt_neg {ch : Int32} (h : (48 ≤ ch ∧ ch ≤ 57) ∨ ch = 45 ∨ ch = 44) : (rLt ch).1 < 0 := by
  rcases rLt_c ch with ⟨q, -⟩ | ⟨q, -⟩ | ⟨q, -⟩ | ⟨q, -⟩ | ⟨-, -, -, -, q⟩
  · rw [q] at h; exact absurd h (by decide)
  · rw [q] at h; exact absurd h (by decide)
  · exfalso
    unfold kaZ at q
    split at q
    · rename_i w; rcases w with w | w <;> (rw [w] at h; exact absurd h (by decide))
    · split at q
      · rename_i w; rcases w with w | w <;> (rw [w] at h; exact absurd h (by decide))
      · split at q
        · rename_i w; rcases w with w | w <;> (rw [w] at h; exact absurd h (by decide))
        · exact absurd q (by decide)
  · rw [q] at h; exact absurd h (by decide)
  · rw [q]; decide
theorem btw_le (h : Btw P n a s) (hl : a < n) : (¬ ((48 ≤ P a ∧ P a ≤ 57) ∨ P a = 45 ∨ P a = 44) ∧ rSt (P a) s = rLe (P a) s) ∨ (rSt (P a) s = none ∧ (rLt (P a)).1 < 0) := by
  by_cases q : (48 ≤ P a ∧ P a ≤ 57) ∨ P a = 45 ∨ P a = 44
  · exact Or.inr ⟨h.2.2 hl q, rLt_neg q⟩
  · exact Or.inl ⟨q, rSt_l (fun z => q (Or.inl z)) (fun z => q (Or.inr (Or.inl z))) (fun z => q (Or.inr (Or.inr z)))⟩
theorem btw_go (h : Btw P n a s) {nx sm : Int32} (e : rLt (sgP P n a) = (nx, sm)) (hn : 0 ≤ nx) (hq : nx = 0 ∨ (¬ s.1.1 = -1 ∧ ¬ s.1.1 = 4)) : a < n ∧ rRun P (a + 1) = some (rBg nx sm (rFC s)) := by
  have hl := sgP_lt (P := P) (n := n) (a := a) (fun z => by
    rw [z, show rLt 0 = (-1, 1) by decide] at e
    injection e with e1 e2
    rw [← e1] at hn; exact absurd hn (by decide))
  rw [sgP_in hl] at e
  refine ⟨hl, ?_⟩
  rw [rRun_s h.1]
  have hnn : ¬ nx < 0 := Int32.not_lt.mpr hn
  rcases btw_le h hl with ⟨-, q⟩ | ⟨-, q⟩
  · rw [q]
    unfold rLe
    rw [e]
    refine if_neg (fun z => ?_)
    rcases z with z | z
    · exact hnn z
    · apply z
      by_cases k : s.1.1 = -1
      · exact Or.inl ⟨k, hq.resolve_right (fun w => w.1 k)⟩
      · exact Or.inr ⟨k, h.2.1.resolve_left k, hq.elim Or.inr (fun w => Or.inl w.2)⟩
  · rw [e] at q; exact absurd q hnn
def CE (P : Nat → Int32) (n a : Nat) (s : RSt) : Prop := s.1.1 = -1 ∨ s.1.1 = 4 ∨ (rLt (sgP P n a)).1 ≤ 0
theorem btw_bad (h : Btw P n a s) (han : a ≤ n) (h0 : ¬ (rLt (sgP P n a)).1 = 0) (hc : CE P n a s) (he : a < n ∨ s.1.1 = -1) : Bad P n a := by
  refine ⟨s, h.1, ?_⟩
  by_cases hl : a < n
  · refine Or.inl ⟨hl, ?_⟩
    unfold CE at hc
    rw [sgP_in hl] at h0 hc
    rcases btw_le h hl with ⟨-, q⟩ | ⟨q, -⟩
    · rw [q]; unfold rLe
      refine if_pos ?_
      rcases hc with c | c | c
      · exact Or.inr (fun w => w.elim (fun w => h0 w.2) (fun w => w.1 c))
      · exact Or.inr (fun w => w.elim (fun w => h0 w.2) (fun w => w.2.2.elim (fun z => z c) h0))
      · exact Or.inl (Int32.lt_of_le_of_ne c h0)
    · exact q
  · refine Or.inr ⟨by omega, ?_⟩
    have k := he.resolve_left hl
    obtain ⟨⟨k', sm, ng⟩, ⟨c, v, d, cm⟩, p, X, O⟩ := s
    exact fun w => w.1 k
end
set_option maxHeartbeats 1000000 in
set_option maxRecDepth 100000 in
theorem mX10_kindAt {g : gX} {V : vM} {P : Nat → Int32} {n a : Nat} (hMR : MR V P n a) : MM g jX10_kindAt V [.ref (g.2.1 49)] (pI V (kaZ (sgP P n a))) := by
  refine MM.of plX10_kindAt (Nat.le_of_ble_eq_true rfl) ?_
  obtain ⟨Q, hQ⟩ : ∃ Q : Option Value → vM → Prop, Q = (pI V (kaZ (sgP P n a))) := ⟨_, rfl⟩
  rw [← hQ]
  show XX g jX10_kindAt Q V 0 [(0, .ref (g.2.1 49))] []
  refine x_aload_n dX10_kindAt_0 0 rfl ?_
  refine x_callV (K := jX10_sign) [] lk_X10_140 ⟨⟨rfl, rfl⟩, Nat.le_of_ble_eq_true rfl, Nat.le_of_ble_eq_true rfl⟩ rfl rfl (mX10_sign2 hMR) rfl (Nat.le_of_ble_eq_true rfl) rfl dX10_kindAt_1 (kpI ?_)
  by_cases c1 : (sgP P n a) = 67
  · refine x_lookup (off := 64) 68 dX10_kindAt_4 (by decide) (by rw [c1] <;> rfl) (by decide) ?_
    refine x_iconst (v := 3) dX10_kindAt_68 (by decide) ?_
    refine x_iret dX10_kindAt_69 rfl ?_
    rw [hQ]
    exact ⟨rfl, by rw [show sgP P n a = 67 by assumption]; rfl⟩
  by_cases c2 : (sgP P n a) = 76
  · refine x_lookup (off := 60) 64 dX10_kindAt_4 (by decide) (by rw [c2] <;> rfl) (by decide) ?_
    refine x_iconst (v := 1) dX10_kindAt_64 (by decide) ?_
    refine x_iret dX10_kindAt_65 rfl ?_
    rw [hQ]
    exact ⟨rfl, by rw [show sgP P n a = 76 by assumption]; rfl⟩
  by_cases c3 : (sgP P n a) = 81
  · refine x_lookup (off := 62) 66 dX10_kindAt_4 (by decide) (by rw [c3] <;> rfl) (by decide) ?_
    refine x_iconst (v := 2) dX10_kindAt_66 (by decide) ?_
    refine x_iret dX10_kindAt_67 rfl ?_
    rw [hQ]
    exact ⟨rfl, by rw [show sgP P n a = 81 by assumption]; rfl⟩
  by_cases c4 : (sgP P n a) = 99
  · refine x_lookup (off := 64) 68 dX10_kindAt_4 (by decide) (by rw [c4] <;> rfl) (by decide) ?_
    refine x_iconst (v := 3) dX10_kindAt_68 (by decide) ?_
    refine x_iret dX10_kindAt_69 rfl ?_
    rw [hQ]
    exact ⟨rfl, by rw [show sgP P n a = 99 by assumption]; rfl⟩
  by_cases c5 : (sgP P n a) = 108
  · refine x_lookup (off := 60) 64 dX10_kindAt_4 (by decide) (by rw [c5] <;> rfl) (by decide) ?_
    refine x_iconst (v := 1) dX10_kindAt_64 (by decide) ?_
    refine x_iret dX10_kindAt_65 rfl ?_
    rw [hQ]
    exact ⟨rfl, by rw [show sgP P n a = 108 by assumption]; rfl⟩
  by_cases c6 : (sgP P n a) = 113
  · refine x_lookup (off := 62) 66 dX10_kindAt_4 (by decide) (by rw [c6] <;> rfl) (by decide) ?_
    refine x_iconst (v := 2) dX10_kindAt_66 (by decide) ?_
    refine x_iret dX10_kindAt_67 rfl ?_
    rw [hQ]
    exact ⟨rfl, by rw [show sgP P n a = 113 by assumption]; rfl⟩
  refine x_lookup (off := 66) 70 dX10_kindAt_4 (by decide) ((lv_osw c1 (by decide)).trans ((lv_osw c2 (by decide)).trans ((lv_osw c3 (by decide)).trans ((lv_osw c4 (by decide)).trans ((lv_osw c5 (by decide)).trans ((lv_osw c6 (by decide)).trans (rfl))))))) (by decide) ?_
  refine x_iconst (v := 0) dX10_kindAt_70 (by decide) ?_
  refine x_iret dX10_kindAt_71 rfl ?_
  rw [hQ]
  exact ⟨rfl, by unfold kaZ; rw [if_neg (fun q => q.elim (fun z => absurd z (by assumption)) (fun z => absurd z (by assumption))), if_neg (fun q => q.elim (fun z => absurd z (by assumption)) (fun z => absurd z (by assumption))), if_neg (fun q => q.elim (fun z => absurd z (by assumption)) (fun z => absurd z (by assumption)))]⟩
