/-! the closed flags of the flattening against the last command of a contour -/
theorem cntM_mono {K : Nat → Int32} : ∀ d i, cntM K i ≤ cntM K (i + d)
  | 0, _ => Nat.le_refl _
  | d + 1, i => by
    have := cntM_mono (K := K) d i
    show cntM K i ≤ cntM K (i + d + 1)
    rw [cntM]
    split <;> omega
theorem foL_hit {K : Nat → Int32} {N p q : Nat} (hq : q < 2 ^ 31) (hp : p < N) (h0 : K p = 0) (hc : cntM K p = q) : ∀ r i, i + r = N → i ≤ p → foL K N (nI q) r i (cntM K i) = p
  | 0, i, h1, h2 => by omega
  | r + 1, i, h1, h2 => by
    unfold foL
    by_cases e : i = p
    · subst e
      rw [if_pos h0, if_pos (by rw [hc])]
    · by_cases k : K i = 0
      · have s : cntM K (i + 1) = cntM K i + 1 := by rw [cntM, if_pos k]
        have m := cntM_mono (K := K) (p - (i + 1)) (i + 1)
        rw [show i + 1 + (p - (i + 1)) = p by omega, hc] at m
        rw [if_pos k, if_neg (nI_ne (by omega) hq (by omega)), ← s]
        exact foL_hit hq hp h0 hc r (i + 1) (by omega) (by omega)
      · have s : cntM K (i + 1) = cntM K i := by rw [cntM, if_neg k]
        rw [if_neg k, ← s]
        exact foL_hit hq hp h0 hc r (i + 1) (by omega) (by omega)
theorem foL_out {K : Nat → Int32} {N q : Nat} (hq : q < 2 ^ 31) (hc : cntM K N ≤ q) : ∀ r i, i + r = N → foL K N (nI q) r i (cntM K i) = N
  | 0, i, h1 => rfl
  | r + 1, i, h1 => by
    unfold foL
    by_cases k : K i = 0
    · have s : cntM K (i + 1) = cntM K i + 1 := by rw [cntM, if_pos k]
      have m := cntM_mono (K := K) r (i + 1)
      rw [show i + 1 + r = N by omega] at m
      rw [if_pos k, if_neg (nI_ne (by omega) hq (by omega)), ← s]
      exact foL_out hq hc r (i + 1) (by omega)
    · have s : cntM K (i + 1) = cntM K i := by rw [cntM, if_neg k]
      rw [if_neg k, ← s]
      exact foL_out hq hc r (i + 1) (by omega)
theorem fo_hit {K : Nat → Int32} {N p q : Nat} (hq : q < 2 ^ 31) (hp : p < N) (h0 : K p = 0) (hc : cntM K p = q) : fo K N (nI q) = p := foL_hit hq hp h0 hc N 0 (by omega) (by omega)
theorem fo_out {K : Nat → Int32} {N q : Nat} (hq : q < 2 ^ 31) (hc : cntM K N ≤ q) : fo K N (nI q) = N := foL_out hq hc N 0 (by omega)
theorem cntM_ex {K : Nat → Int32} {q : Nat} : ∀ i, q < cntM K i → ∃ p, p < i ∧ K p = 0 ∧ cntM K p = q
  | 0, h => absurd h (Nat.not_lt_zero _)
  | i + 1, h => by
    rw [cntM] at h
    by_cases k : K i = 0
    · rw [if_pos k] at h
      by_cases e : q = cntM K i
      · exact ⟨i, by omega, k, e.symm⟩
      · obtain ⟨p, a, b, c⟩ := cntM_ex i (show q < cntM K i by omega)
        exact ⟨p, by omega, b, c⟩
    · rw [if_neg k] at h
      obtain ⟨p, a, b, c⟩ := cntM_ex i h
      exact ⟨p, by omega, b, c⟩
theorem clo_clZ {m : Nat → Int32} {N : Nat} (hw : WF m N) : ∀ i, i ≤ N → ∀ j, j < cntM (kd7 m) i → (¬ clo m i j = 0 ↔ clZ m i j)
  | 0, _, j, hj => absurd hj (Nat.not_lt_zero _)
  | i + 1, hi, j, hj => by
    have ih := clo_clZ hw i (by omega) j
    have hN := hw.1
    have hl := cntM_le (kd7 m) i
    have hl2 := cntM_le (kd7 m) (i + 1)
    have hK := hw.2 i (by omega)
    have same : j + 1 < cntM (kd7 m) i → fo (kd7 m) (i + 1) (nI (j + 1)) = fo (kd7 m) i (nI (j + 1)) := by
      intro q
      obtain ⟨p, a, b, c⟩ := cntM_ex i q
      rw [fo_hit (by omega) (show p < i + 1 by omega) b c, fo_hit (by omega) a b c]
    unfold clZ at ih ⊢
    rw [clo]
    by_cases k : m (i * 7) = 0
    · have s : cntM (kd7 m) (i + 1) = cntM (kd7 m) i + 1 := by rw [cntM, if_pos (show kd7 m i = 0 from k)]
      rw [if_pos k]
      by_cases e : j = cntM (kd7 m) i
      · rw [if_pos e, fo_out (by omega) (by omega), Nat.add_sub_cancel, k]
        exact ⟨fun q => absurd rfl q, fun q => absurd q (by decide)⟩
      · rw [if_neg e]
        by_cases f : j + 1 < cntM (kd7 m) i
        · rw [same f]; exact ih (by omega)
        · have g : j + 1 = cntM (kd7 m) i := by omega
          have i2 := ih (by omega)
          rw [fo_out (by omega) (by omega)] at i2
          rw [fo_hit (by omega) (show i < i + 1 by omega) (show kd7 m i = 0 from k) g.symm]
          exact i2
    · have s : cntM (kd7 m) (i + 1) = cntM (kd7 m) i := by rw [cntM, if_neg (show ¬ kd7 m i = 0 from k)]
      rw [if_neg k]
      by_cases f : j + 1 < cntM (kd7 m) i
      · rw [same f]
        have : ¬ j = cntM (kd7 m) i - 1 := by omega
        by_cases k4 : m (i * 7) = 4
        · rw [if_pos k4, if_neg this]; exact ih (by omega)
        · rw [if_neg k4]; exact ih (by omega)
      · have g : j + 1 = cntM (kd7 m) i := by omega
        have i2 := ih (by omega)
        rw [fo_out (by omega) (by omega)] at i2
        rw [fo_out (by omega) (by omega), Nat.add_sub_cancel]
        by_cases k4 : m (i * 7) = 4
        · rw [if_pos k4, if_pos (by omega)]
          exact ⟨fun _ => k4, fun _ => by decide⟩
        · rw [if_neg k4]
          obtain ⟨i1, e1, e2⟩ := hK.2.1 k
          subst e1
          rw [Nat.add_sub_cancel] at i2
          exact ⟨fun q => absurd (i2.mp q) e2, fun q => absurd q k4⟩
