theorem nI_ne2 {k : Nat} (h : k ≤ 120) (c : Nat) (hc : c ≤ 120) : nI k = nI c ↔ k = c := ⟨fun q => by
  by_cases e : k = c
  · exact e
  · exact absurd q (nI_ne (by omega) (by omega) e), fun q => by rw [q]⟩
theorem fin_say {V U W : vM} (h : RR V) (c : Int32) (eU : U = if (33 ≤ c ∧ c ≤ 126) ∧ ¬ V 10 2 = 120 then uM (uM V 36 (V 10 2).toNatClampNeg c) 10 2 (V 10 2 + 1) else V) (eW : W = if (33 ≤ c ∧ c ≤ 126) ∧ ¬ U 49 4 = 120 then uM (uM U 53 (U 49 4).toNatClampNeg c) 49 4 (U 49 4 + 1) else U) : RR W ∧ (if ¬ (33 ≤ c ∧ c ≤ 126) then -1000002 else if V 10 2 = 120 then -1000004 else V 10 2 + 1) = (if ¬ (33 ≤ c ∧ c ≤ 126) then (-1000002 : Int32) else if U 49 4 = 120 then -1000004 else U 49 4 + 1) := by
  have h0 := h
  obtain ⟨hP, hT, hD, hL, hS⟩ := h
  obtain ⟨k, k1, k2, k3, k4⟩ := hT
  have e49 : U 49 4 = V 10 2 := by rw [k2, ← k3, eU]; split <;> simp [uM_at]
  rw [e49] at eW ⊢
  refine ⟨?_, rfl⟩
  by_cases q : (33 ≤ c ∧ c ≤ 126) ∧ ¬ V 10 2 = 120
  · rw [if_pos q] at eU eW
    have hk : k < 120 := by
      have := q.2
      rw [k2] at this
      by_cases e : k = 120
      · rw [e] at this; exact absurd rfl this
      · omega
    rw [k2, nI_clamp (by omega), nI_1] at eU eW
    have hf : ∀ a i, ¬ (a = 36 ∧ i = k) → ¬ (a = 10 ∧ i = 2) → ¬ (a = 53 ∧ i = k) → ¬ (a = 49 ∧ i = 4) → W a i = V a i := fun a i p1 p2 p3 p4 => by
      rw [eW, uM_at, if_neg p4, uM_at, if_neg p3, eU, uM_at, if_neg p2, uM_at, if_neg p1]
    refine ⟨hP.ag (fun a i p => hf a i (by omega) (by omega) (by omega) (by omega)), ⟨k + 1, by omega, ?_, ?_, fun j hj => ?_⟩, hD.ag (fun a i p => hf a i (by omega) (by omega) (by omega) (by omega)), hL.ag (fun a i p => hf a i (by omega) (by omega) (by omega) (by omega)), hS.ag (fun a i p => hf a i (by omega) (by omega) (by omega) (by omega))⟩
    · rw [eW, uM_na (by decide), uM_na (by decide), eU, uM_hit]
    · rw [eW, uM_hit]
    · by_cases e : j = k
      · subst e
        have w1 : W 53 j = c := by rw [eW, uM_na (by decide), uM_hit]
        have w2 : W 36 j = c := by rw [eW, uM_na (by decide), uM_na (by decide), eU, uM_na (by decide), uM_hit]
        rw [w1, w2]; exact ⟨rfl, q.1⟩
      · rw [hf 53 j (by omega) (by omega) (by omega) (by omega), hf 36 j (by omega) (by omega) (by omega) (by omega)]
        exact k4 j (by omega)
  · rw [if_neg q] at eU eW
    rw [eW, eU]; exact h0
theorem fin_wipe {V U W : vM} (h : RR V) (eU : U = uM V 10 2 0) (eW : W = uM U 49 4 0) : RR W ∧ V 10 2 = U 49 4 := by
  obtain ⟨hP, hT, hD, hL, hS⟩ := h
  obtain ⟨k, k1, k2, k3, k4⟩ := hT
  have hf : ∀ a i, ¬ (a = 10 ∧ i = 2) → ¬ (a = 49 ∧ i = 4) → W a i = V a i := fun a i p1 p2 => by
    rw [eW, uM_at, if_neg p2, eU, uM_at, if_neg p1]
  refine ⟨⟨hP.ag (fun a i p => hf a i (by omega) (by omega)), ⟨0, by omega, ?_, ?_, fun j hj => absurd hj (Nat.not_lt_zero _)⟩, hD.ag (fun a i p => hf a i (by omega) (by omega)), hL.ag (fun a i p => hf a i (by omega) (by omega)), hS.ag (fun a i p => hf a i (by omega) (by omega))⟩, ?_⟩
  · rw [eW, uM_na (by decide), eU, uM_hit]; rfl
  · rw [eW, uM_hit]; rfl
  · rw [eU, uM_na (by decide), k2, k3]
theorem fin_addDash {V U W : vM} (h : RR V) (d : Int32) (eU : U = if 1 ≤ d ∧ d ≤ 100000 ∧ ¬ V 8 4 = 6 then uM (uM V 28 (V 8 4).toNatClampNeg d) 8 4 (V 8 4 + 1) else V) (eW : W = if 1 ≤ d ∧ d ≤ 100000 ∧ ¬ U 49 6 = 6 then uM (uM U 54 (U 49 6).toNatClampNeg d) 49 6 (U 49 6 + 1) else U) : RR W ∧ (if ¬ (1 ≤ d ∧ d ≤ 100000) then -1000002 else if V 8 4 = 6 then -1000004 else V 8 4 + 1) = (if ¬ (1 ≤ d ∧ d ≤ 100000) then (-1000002 : Int32) else if U 49 6 = 6 then -1000004 else U 49 6 + 1) := by
  have h0 := h
  obtain ⟨hP, hT, hD, hL, hS⟩ := h
  obtain ⟨n, ph, f, ⟨c1, c2, c3, c4, c5, c6⟩, ⟨m1, m2, m3, m4, m5, m6⟩⟩ := hD
  have e49 : U 49 6 = V 8 4 := by rw [c1, ← m1, eU]; split <;> simp [uM_at]
  rw [e49] at eW ⊢
  refine ⟨?_, rfl⟩
  by_cases q : 1 ≤ d ∧ d ≤ 100000 ∧ ¬ V 8 4 = 6
  · rw [if_pos q] at eU eW
    have hk : n < 6 := by
      have := q.2.2
      rw [c1] at this
      by_cases e : n = 6
      · rw [e] at this; exact absurd rfl this
      · omega
    rw [c1, nI_clamp (by omega), nI_1] at eU eW
    have hf : ∀ a i, ¬ (a = 28 ∧ i = n) → ¬ (a = 8 ∧ i = 4) → ¬ (a = 54 ∧ i = n) → ¬ (a = 49 ∧ i = 6) → W a i = V a i := fun a i p1 p2 p3 p4 => by
      rw [eW, uM_at, if_neg p4, uM_at, if_neg p3, eU, uM_at, if_neg p2, uM_at, if_neg p1]
    have d1 := Int32.le_iff_toInt_le.mp q.1
    have d2 := Int32.le_iff_toInt_le.mp q.2.1
    rw [show (1 : Int32).toInt = 1 from rfl] at d1
    rw [show (100000 : Int32).toInt = 100000 from rfl] at d2
    have ed : d = nI d.toInt.toNat := by
      apply Int32.toInt_inj.mp
      rw [nI_toInt (by omega)]
      omega
    refine ⟨hP.ag (fun a i p => hf a i (by omega) (by omega) (by omega) (by omega)), hT.ag (fun a i p => hf a i (by omega) (by omega) (by omega) (by omega)), ⟨n + 1, ph, fun i => if i = n then d.toInt.toNat else f i, ⟨?_, by omega, ?_, c4, fun i hi => ?_, fun i hi => ?_⟩, ⟨?_, by omega, ?_, m4, fun i hi => ?_, fun i hi => ?_⟩⟩, hL.ag (fun a i p => hf a i (by omega) (by omega) (by omega) (by omega)), hS.ag (fun a i p => hf a i (by omega) (by omega) (by omega) (by omega))⟩
    · rw [eW, uM_na (by decide), uM_na (by decide), eU, uM_hit]
    · rw [hf 8 5 (by omega) (by omega) (by omega) (by omega)]; exact c3
    · dsimp only
      by_cases e : i = n
      · rw [if_pos e, e, eW, uM_na (by decide), uM_na (by decide), eU, uM_na (by decide), uM_hit]; exact ed
      · rw [if_neg e, hf 28 i (by omega) (by omega) (by omega) (by omega)]; exact c5 i (by omega)
    · dsimp only
      by_cases e : i = n
      · rw [if_pos e]; omega
      · rw [if_neg e]; exact c6 i (by omega)
    · rw [eW, uM_hit]
    · rw [hf 49 7 (by omega) (by omega) (by omega) (by omega)]; exact m3
    · dsimp only
      by_cases e : i = n
      · rw [if_pos e, e, eW, uM_na (by decide), uM_hit]; exact ed
      · rw [if_neg e, hf 54 i (by omega) (by omega) (by omega) (by omega)]; exact m5 i (by omega)
    · dsimp only
      by_cases e : i = n
      · rw [if_pos e]; omega
      · rw [if_neg e]; exact m6 i (by omega)
  · rw [if_neg q] at eU eW
    rw [eW, eU]; exact h0
theorem fin_clearDashes {V U W : vM} (h : RR V) (d : Int32) (eU : U = if 0 ≤ d ∧ d ≤ 100000 then uM (uM V 8 4 0) 8 5 d else V) (eW : W = if 0 ≤ d ∧ d ≤ 100000 then uM (uM U 49 6 0) 49 7 d else U) : RR W ∧ (if 0 ≤ d ∧ d ≤ 100000 then V 8 4 else -1000002) = (if 0 ≤ d ∧ d ≤ 100000 then U 49 6 else (-1000002 : Int32)) := by
  have h0 := h
  obtain ⟨hP, hT, hD, hL, hS⟩ := h
  obtain ⟨n, ph, f, ⟨c1, c2, c3, c4, c5, c6⟩, ⟨m1, m2, m3, m4, m5, m6⟩⟩ := hD
  have e49 : U 49 6 = V 8 4 := by rw [c1, ← m1, eU]; split <;> simp [uM_at]
  rw [e49]
  refine ⟨?_, rfl⟩
  by_cases q : 0 ≤ d ∧ d ≤ 100000
  · rw [if_pos q] at eU eW
    have hf : ∀ a i, ¬ (a = 8 ∧ i = 4) → ¬ (a = 8 ∧ i = 5) → ¬ (a = 49 ∧ i = 6) → ¬ (a = 49 ∧ i = 7) → W a i = V a i := fun a i p1 p2 p3 p4 => by
      rw [eW, uM_at, if_neg p4, uM_at, if_neg p3, eU, uM_at, if_neg p2, uM_at, if_neg p1]
    have d1 := Int32.le_iff_toInt_le.mp q.1
    have d2 := Int32.le_iff_toInt_le.mp q.2
    rw [show (0 : Int32).toInt = 0 from rfl] at d1
    rw [show (100000 : Int32).toInt = 100000 from rfl] at d2
    have ed : d = nI d.toInt.toNat := by
      apply Int32.toInt_inj.mp
      rw [nI_toInt (by omega)]
      omega
    refine ⟨hP.ag (fun a i p => hf a i (by omega) (by omega) (by omega) (by omega)), hT.ag (fun a i p => hf a i (by omega) (by omega) (by omega) (by omega)), ⟨0, d.toInt.toNat, f, ⟨?_, by omega, ?_, by omega, fun i hi => absurd hi (Nat.not_lt_zero _), fun i hi => absurd hi (Nat.not_lt_zero _)⟩, ⟨?_, by omega, ?_, by omega, fun i hi => absurd hi (Nat.not_lt_zero _), fun i hi => absurd hi (Nat.not_lt_zero _)⟩⟩, hL.ag (fun a i p => hf a i (by omega) (by omega) (by omega) (by omega)), hS.ag (fun a i p => hf a i (by omega) (by omega) (by omega) (by omega))⟩
    · rw [eW, uM_na (by decide), uM_na (by decide), eU, uM_ni (by decide), uM_hit]; rfl
    · rw [eW, uM_na (by decide), uM_na (by decide), eU, uM_hit]; exact ed
    · rw [eW, uM_ni (by decide), uM_hit]; rfl
    · rw [eW, uM_hit]; exact ed
  · rw [if_neg q] at eU eW
    rw [eW, eU]; exact h0
theorem fin_write {V U W : vM} (h : RR V) (l : Int32) (eU : U = if (0 ≤ l ∧ l ≤ 25) ∧ ¬ V 9 5 = 24 then uM (uM V 31 (V 9 5).toNatClampNeg l) 9 5 (V 9 5 + 1) else V) (eW : W = if (0 ≤ l ∧ l ≤ 25) ∧ ¬ U 49 12 = 24 then uM (uM U 57 (U 49 12).toNatClampNeg l) 49 12 (U 49 12 + 1) else U) : RR W ∧ (if ¬ (0 ≤ l ∧ l ≤ 25) then -1000001 else if V 9 5 = 24 then -1000004 else V 9 5 + 1) = (if ¬ (0 ≤ l ∧ l ≤ 25) then (-1000001 : Int32) else if U 49 12 = 24 then -1000004 else U 49 12 + 1) := by
  have h0 := h
  obtain ⟨hP, hT, hD, ⟨⟨k, k1, k2, k3, k4⟩, b, c, dd, e1, e2, e3⟩, hS⟩ := h
  have e49 : U 49 12 = V 9 5 := by rw [k2, ← k3, eU]; split <;> simp [uM_at]
  rw [e49] at eW ⊢
  refine ⟨?_, rfl⟩
  by_cases q : (0 ≤ l ∧ l ≤ 25) ∧ ¬ V 9 5 = 24
  · rw [if_pos q] at eU eW
    have hk : k < 24 := by
      have := q.2
      rw [k2] at this
      by_cases e : k = 24
      · rw [e] at this; exact absurd rfl this
      · omega
    rw [k2, nI_clamp (by omega), nI_1] at eU eW
    have hf : ∀ a i, ¬ (a = 31 ∧ i = k) → ¬ (a = 9 ∧ i = 5) → ¬ (a = 57 ∧ i = k) → ¬ (a = 49 ∧ i = 12) → W a i = V a i := fun a i p1 p2 p3 p4 => by
      rw [eW, uM_at, if_neg p4, uM_at, if_neg p3, eU, uM_at, if_neg p2, uM_at, if_neg p1]
    have e33 : W 33 = V 33 := by funext i; exact hf 33 i (by omega) (by omega) (by omega) (by omega)
    refine ⟨hP.ag (fun a i p => hf a i (by omega) (by omega) (by omega) (by omega)), hT.ag (fun a i p => hf a i (by omega) (by omega) (by omega) (by omega)), hD.ag (fun a i p => hf a i (by omega) (by omega) (by omega) (by omega)), ⟨⟨k + 1, by omega, ?_, ?_, fun j hj => ?_⟩, ?_, fun j hj => ?_, fun j hj => ?_, ?_, ?_, ?_⟩, hS.ag (fun a i p => hf a i (by omega) (by omega) (by omega) (by omega))⟩
    · rw [eW, uM_na (by decide), uM_na (by decide), eU, uM_hit]
    · rw [eW, uM_hit]
    · by_cases e : j = k
      · subst e
        have w1 : W 57 j = l := by rw [eW, uM_na (by decide), uM_hit]
        have w2 : W 31 j = l := by rw [eW, uM_na (by decide), uM_na (by decide), eU, uM_na (by decide), uM_hit]
        rw [w1, w2]; exact ⟨rfl, q.1⟩
      · rw [hf 57 j (by omega) (by omega) (by omega) (by omega), hf 31 j (by omega) (by omega) (by omega) (by omega)]
        exact k4 j (by omega)
    · rw [hf 49 13 (by omega) (by omega) (by omega) (by omega), hf 49 14 (by omega) (by omega) (by omega) (by omega), hf 49 15 (by omega) (by omega) (by omega) (by omega), hf 9 7 (by omega) (by omega) (by omega) (by omega), hf 9 8 (by omega) (by omega) (by omega) (by omega), hf 9 9 (by omega) (by omega) (by omega) (by omega)]; exact b
    · rw [hf 55 j (by omega) (by omega) (by omega) (by omega), hf 32 j (by omega) (by omega) (by omega) (by omega)]; exact c j hj
    · rw [hf 56 j (by omega) (by omega) (by omega) (by omega), hf 33 j (by omega) (by omega) (by omega) (by omega)]; exact dd j hj
    · rw [e33, hf 9 6 (by omega) (by omega) (by omega) (by omega)]; exact e1
    · rw [e33, hf 49 10 (by omega) (by omega) (by omega) (by omega)]; exact e2
    · rw [e33]; exact e3
  · rw [if_neg q] at eU eW
    rw [eW, eU]; exact h0
theorem fin_erase {V U W : vM} (h : RR V) (eU : U = uM V 9 5 0) (eW : W = uM U 49 12 0) : RR W ∧ V 9 5 = U 49 12 := by
  obtain ⟨hP, hT, hD, ⟨⟨k, k1, k2, k3, k4⟩, b, c, dd, e1, e2, e3⟩, hS⟩ := h
  have hf : ∀ a i, ¬ (a = 9 ∧ i = 5) → ¬ (a = 49 ∧ i = 12) → W a i = V a i := fun a i p1 p2 => by
    rw [eW, uM_at, if_neg p2, eU, uM_at, if_neg p1]
  have e33 : W 33 = V 33 := by funext i; exact hf 33 i (by omega) (by omega)
  refine ⟨⟨hP.ag (fun a i p => hf a i (by omega) (by omega)), hT.ag (fun a i p => hf a i (by omega) (by omega)), hD.ag (fun a i p => hf a i (by omega) (by omega)), ⟨⟨0, by omega, ?_, ?_, fun j hj => absurd hj (Nat.not_lt_zero _)⟩, ?_, fun j hj => ?_, fun j hj => ?_, ?_, ?_, ?_⟩, hS.ag (fun a i p => hf a i (by omega) (by omega))⟩, ?_⟩
  · rw [eW, uM_na (by decide), eU, uM_hit]; rfl
  · rw [eW, uM_hit]; rfl
  · rw [hf 49 13 (by omega) (by omega), hf 49 14 (by omega) (by omega), hf 49 15 (by omega) (by omega), hf 9 7 (by omega) (by omega), hf 9 8 (by omega) (by omega), hf 9 9 (by omega) (by omega)]; exact b
  · rw [hf 55 j (by omega) (by omega), hf 32 j (by omega) (by omega)]; exact c j hj
  · rw [hf 56 j (by omega) (by omega), hf 33 j (by omega) (by omega)]; exact dd j hj
  · rw [e33, hf 9 6 (by omega) (by omega)]; exact e1
  · rw [e33, hf 49 10 (by omega) (by omega)]; exact e2
  · rw [e33]; exact e3
  · rw [eU, uM_na (by decide), k2, k3]
theorem fin_arrange {V U W : vM} (h : RR V) (o s md : Int32) (eU : U = if (-20000 ≤ o ∧ o ≤ 100000) ∧ (-100 ≤ s ∧ s ≤ 1000) ∧ (0 ≤ md ∧ md ≤ 3) then uM (uM (uM V 9 7 o) 9 8 s) 9 9 md else V) (eW : W = if (-20000 ≤ o ∧ o ≤ 100000) ∧ (-100 ≤ s ∧ s ≤ 1000) ∧ (0 ≤ md ∧ md ≤ 3) then uM (uM (uM U 49 13 o) 49 14 s) 49 15 md else U) : RR W ∧ (if (-20000 ≤ o ∧ o ≤ 100000) ∧ (-100 ≤ s ∧ s ≤ 1000) ∧ (0 ≤ md ∧ md ≤ 3) then V 9 5 else -1000002) = (if (-20000 ≤ o ∧ o ≤ 100000) ∧ (-100 ≤ s ∧ s ≤ 1000) ∧ (0 ≤ md ∧ md ≤ 3) then U 49 12 else (-1000002 : Int32)) := by
  have h0 := h
  obtain ⟨hP, hT, hD, ⟨⟨k, k1, k2, k3, k4⟩, b, c, dd, e1, e2, e3⟩, hS⟩ := h
  have e49 : U 49 12 = V 9 5 := by rw [k2, ← k3, eU]; split <;> simp [uM_at]
  rw [e49]
  refine ⟨?_, rfl⟩
  by_cases q : (-20000 ≤ o ∧ o ≤ 100000) ∧ (-100 ≤ s ∧ s ≤ 1000) ∧ (0 ≤ md ∧ md ≤ 3)
  · rw [if_pos q] at eU eW
    have hf : ∀ a i, ¬ (a = 9 ∧ 7 ≤ i ∧ i ≤ 9) → ¬ (a = 49 ∧ 13 ≤ i ∧ i ≤ 15) → W a i = V a i := fun a i p1 p2 => by
      rw [eW, uM_at, if_neg (by omega), uM_at, if_neg (by omega), uM_at, if_neg (by omega), eU, uM_at, if_neg (by omega), uM_at, if_neg (by omega), uM_at, if_neg (by omega)]
    have e33 : W 33 = V 33 := by funext i; exact hf 33 i (by omega) (by omega)
    have g7 : W 9 7 = o := by rw [eW, uM_na (by decide), uM_na (by decide), uM_na (by decide), eU, uM_ni (by decide), uM_ni (by decide), uM_hit]
    have g8 : W 9 8 = s := by rw [eW, uM_na (by decide), uM_na (by decide), uM_na (by decide), eU, uM_ni (by decide), uM_hit]
    have g9 : W 9 9 = md := by rw [eW, uM_na (by decide), uM_na (by decide), uM_na (by decide), eU, uM_hit]
    have m7 : W 49 13 = o := by rw [eW, uM_ni (by decide), uM_ni (by decide), uM_hit]
    have m8 : W 49 14 = s := by rw [eW, uM_ni (by decide), uM_hit]
    have m9 : W 49 15 = md := by rw [eW, uM_hit]
    refine ⟨hP.ag (fun a i p => hf a i (by omega) (by omega)), hT.ag (fun a i p => hf a i (by omega) (by omega)), hD.ag (fun a i p => hf a i (by omega) (by omega)), ⟨⟨k, k1, ?_, ?_, fun j hj => ?_⟩, ?_, fun j hj => ?_, fun j hj => ?_, ?_, ?_, ?_⟩, hS.ag (fun a i p => hf a i (by omega) (by omega))⟩
    · rw [hf 9 5 (by omega) (by omega)]; exact k2
    · rw [hf 49 12 (by omega) (by omega)]; exact k3
    · rw [hf 57 j (by omega) (by omega), hf 31 j (by omega) (by omega)]; exact k4 j hj
    · rw [g7, g8, g9, m7, m8, m9]; exact ⟨rfl, rfl, rfl, q.1, q.2.1⟩
    · rw [hf 55 j (by omega) (by omega), hf 32 j (by omega) (by omega)]; exact c j hj
    · rw [hf 56 j (by omega) (by omega), hf 33 j (by omega) (by omega)]; exact dd j hj
    · rw [e33, hf 9 6 (by omega) (by omega)]; exact e1
    · rw [e33, hf 49 10 (by omega) (by omega)]; exact e2
    · rw [e33]; exact e3
  · rw [if_neg q] at eU eW
    rw [eW, eU]; exact h0
