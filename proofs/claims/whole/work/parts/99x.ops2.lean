theorem nI26 {l : Int32} (h : 0 ≤ l ∧ l ≤ 25) : ∃ k, l = nI k ∧ k < 26 := nI_ex (by omega) ⟨h.1, nI_le_lt (n := 26) (by omega) (by omega) h.2⟩
theorem fin_setWidth {V U W : vM} (h : RR V) (l w : Int32) (eU : U = if (0 ≤ l ∧ l ≤ 25) ∧ 1 ≤ w ∧ w ≤ 4000 then uM V 32 l.toNatClampNeg w else V) (eW : W = if (0 ≤ l ∧ l ≤ 25) ∧ 1 ≤ w ∧ w ≤ 4000 then uM U 55 l.toNatClampNeg w else U) : RR W ∧ (if ¬ (0 ≤ l ∧ l ≤ 25) then -1000001 else if ¬ (1 ≤ w ∧ w ≤ 4000) then -1000002 else V 32 l.toNatClampNeg) = (if ¬ (0 ≤ l ∧ l ≤ 25) then -1000001 else if ¬ (1 ≤ w ∧ w ≤ 4000) then (-1000002 : Int32) else U 55 l.toNatClampNeg) := by
  have h0 := h
  obtain ⟨hP, hT, hD, ⟨k, b, c, dd, e1, e2, e3⟩, hS⟩ := h
  by_cases q0 : 0 ≤ l ∧ l ≤ 25
  · obtain ⟨j, rfl, hj⟩ := nI26 q0
    rw [nI_clamp (by omega)] at eU eW ⊢
    have e55 : U 55 j = V 32 j := by
      rw [← (c j hj).1, eU]
      split
      · rw [uM_na (by decide)]
      · rfl
    rw [e55]
    refine ⟨?_, rfl⟩
    by_cases q : (0 ≤ nI j ∧ nI j ≤ 25) ∧ 1 ≤ w ∧ w ≤ 4000
    · rw [if_pos q] at eU eW
      have hf : ∀ a i, ¬ (a = 32 ∧ i = j) → ¬ (a = 55 ∧ i = j) → W a i = V a i := fun a i p1 p2 => by
        rw [eW, uM_at, if_neg p2, eU, uM_at, if_neg p1]
      have e33 : W 33 = V 33 := by funext i; exact hf 33 i (by omega) (by omega)
      obtain ⟨kk, k1, k2, k3, k4⟩ := k
      refine ⟨hP.ag (fun a i p => hf a i (by omega) (by omega)), hT.ag (fun a i p => hf a i (by omega) (by omega)), hD.ag (fun a i p => hf a i (by omega) (by omega)), ⟨⟨kk, k1, ?_, ?_, fun i hi => ?_⟩, ?_, fun i hi => ?_, fun i hi => ?_, ?_, ?_, ?_⟩, hS.ag (fun a i p => hf a i (by omega) (by omega))⟩
      · rw [hf 9 5 (by omega) (by omega)]; exact k2
      · rw [hf 49 12 (by omega) (by omega)]; exact k3
      · rw [hf 57 i (by omega) (by omega), hf 31 i (by omega) (by omega)]; exact k4 i hi
      · rw [hf 49 13 (by omega) (by omega), hf 49 14 (by omega) (by omega), hf 49 15 (by omega) (by omega), hf 9 7 (by omega) (by omega), hf 9 8 (by omega) (by omega), hf 9 9 (by omega) (by omega)]; exact b
      · by_cases e : i = j
        · subst e
          have w1 : W 55 i = w := by rw [eW, uM_hit]
          have w2 : W 32 i = w := by rw [eW, uM_na (by decide), eU, uM_hit]
          rw [w1, w2]; exact ⟨rfl, q.2⟩
        · rw [hf 55 i (by omega) (by omega), hf 32 i (by omega) (by omega)]; exact c i hi
      · rw [hf 56 i (by omega) (by omega), hf 33 i (by omega) (by omega)]; exact dd i hi
      · rw [e33, hf 9 6 (by omega) (by omega)]; exact e1
      · rw [e33, hf 49 10 (by omega) (by omega)]; exact e2
      · rw [e33]; exact e3
    · rw [if_neg q] at eU eW
      rw [eW, eU]; exact h0
  · rw [if_neg (fun z => q0 z.1)] at eU eW
    rw [if_pos q0, if_pos q0, eW, eU]
    exact ⟨h0, rfl⟩
theorem fin_setKerning {V U W : vM} (h : RR V) (l r a : Int32) (eU : U = if ¬ ((0 ≤ l ∧ l ≤ 25) ∧ 0 ≤ r ∧ r ≤ 25) then V else if ¬ (-500 ≤ a ∧ a ≤ 500) then V else if ¬ a = 0 ∧ 20 ≤ (if keO V l r = 0 then V 9 6 else V 9 6 - 1) then V else uM (uM V 9 6 (ckS V l r a)) 33 (l * 26 + r).toNatClampNeg a) (eW : W = skV U l r a) : RR W ∧ (if ¬ ((0 ≤ l ∧ l ≤ 25) ∧ 0 ≤ r ∧ r ≤ 25) then -1000001 else if ¬ (-500 ≤ a ∧ a ≤ 500) then -1000002 else if ¬ a = 0 ∧ 20 ≤ (if keO V l r = 0 then V 9 6 else V 9 6 - 1) then -1000004 else ckS V l r a) = skZ U l r a := by
  have h0 := h
  obtain ⟨hP, hT, hD, ⟨k, b, c, dd, e1, e2, e3⟩, hS⟩ := h
  unfold skV at eW
  unfold skZ
  by_cases q0 : (0 ≤ l ∧ l ≤ 25) ∧ 0 ≤ r ∧ r ≤ 25
  · have n0 : ¬ ¬ ((0 ≤ l ∧ l ≤ 25) ∧ 0 ≤ r ∧ r ≤ 25) := fun z => z q0
    rw [if_neg n0] at eU eW
    rw [if_neg n0, if_neg n0]
    by_cases q1 : -500 ≤ a ∧ a ≤ 500
    · have n1 : ¬ ¬ (-500 ≤ a ∧ a ≤ 500) := fun z => z q1
      rw [if_neg n1] at eU eW
      rw [if_neg n1, if_neg n1]
      obtain ⟨kl, el, hl⟩ := nI26 q0.1
      obtain ⟨kr, er, hr⟩ := nI26 q0.2
      have ip : (l * 26 + r).toNatClampNeg = 26 * kl + kr := by
        rw [el, er, show nI kl * 26 + nI kr = nI (kl * 26 + kr) from nadd (nmul rfl (b := 26) rfl) rfl, nI_clamp (by omega)]
        omega
      have im : (26 * l + r).toNatClampNeg = 26 * kl + kr := by
        rw [el, er, show 26 * nI kl + nI kr = nI (26 * kl + kr) from nadd (nmul (a := 26) rfl rfl) rfl, nI_clamp (by omega)]
      obtain ⟨p, ep⟩ : ∃ p, p = 26 * kl + kr := ⟨_, rfl⟩
      rw [← ep] at ip im
      have hp : p < 676 := by omega
      have eke : keO V l r = V 33 p := by unfold keO; rw [if_pos q0, ip]
      obtain ⟨c0, ec0⟩ : ∃ c0, c0 = nzK (V 33) 676 := ⟨_, rfl⟩
      rw [← ec0] at e1 e2 e3
      obtain ⟨bo, ebo⟩ : ∃ bo : Nat, bo = if V 33 p = 0 then 0 else 1 := ⟨_, rfl⟩
      obtain ⟨an, ean⟩ : ∃ an : Nat, an = if a = 0 then 0 else 1 := ⟨_, rfl⟩
      have hbo : bo ≤ c0 ∧ bo ≤ 1 := by
        rw [ebo]
        by_cases z : V 33 p = 0
        · rw [if_pos z]; omega
        · rw [if_neg z]
          have := nzK_pos z 676 hp
          omega
      have ec : (if keO V l r = 0 then V 9 6 else V 9 6 - 1) = nI (c0 - bo) := by
        rw [eke, e1]
        by_cases z : V 33 p = 0
        · rw [if_pos z, ebo, if_pos z]; rfl
        · have := nzK_pos z 676 hp
          rw [if_neg z, ebo, if_neg z, nI_s1 (by omega)]
      have eck : ckS V l r a = nI (c0 - bo + an) := by
        unfold ckS
        rw [ec, ean, ← nI_add]
        by_cases z : a = 0
        · rw [if_pos z, if_pos z]; rfl
        · rw [if_neg z, if_neg z]; rfl
      have u10 : U 49 10 = V 49 10 := by
        by_cases z : ¬ a = 0 ∧ 20 ≤ (if keO V l r = 0 then V 9 6 else V 9 6 - 1)
        · rw [eU, if_pos z]
        · rw [eU, if_neg z, uM_na (by decide), uM_na (by decide)]
      have u56 : U 56 p = V 33 p := by
        rw [← (dd p hp).1]
        by_cases z : ¬ a = 0 ∧ 20 ≤ (if keO V l r = 0 then V 9 6 else V 9 6 - 1)
        · rw [eU, if_pos z]
        · rw [eU, if_neg z, uM_na (by decide), uM_na (by decide)]
      have eo : skO U l r = nI (c0 - bo) := by
        unfold skO
        rw [im, u56, u10, e2]
        by_cases z : V 33 p = 0
        · rw [if_neg (fun q => q z), ebo, if_pos z, Int32.sub_zero]; rfl
        · have := nzK_pos z 676 hp
          rw [if_pos z, ebo, if_neg z, nI_s1 (by omega)]
      have eks : skS U l r a = nI (c0 - bo + an) := by
        unfold skS
        rw [eo, ean, ← nI_add]
        by_cases z : a = 0
        · rw [if_neg (fun q => q z), if_pos z]; rfl
        · rw [if_pos z, if_neg z]; rfl
      rw [ec, eck] at eU
      rw [eo, eks, im] at eW
      rw [ec, eck, eo, eks]
      rw [ip] at eU
      have hle : c0 - bo ≤ 20 := by omega
      have hiff : (20 ≤ nI (c0 - bo)) ↔ nI (c0 - bo) = 20 := by
        constructor
        · intro z
          have z2 := (nl_le (a := 20) (b := c0 - bo) rfl rfl (by omega) (by omega)).mp z
          rw [show c0 - bo = 20 by omega]; rfl
        · intro z
          rw [z]; decide
      by_cases q2 : ¬ a = 0 ∧ 20 ≤ nI (c0 - bo)
      · have q3 : nI (c0 - bo) = 20 ∧ ¬ a = 0 := ⟨hiff.mp q2.2, q2.1⟩
        rw [if_pos q2] at eU
        rw [if_pos q3] at eW
        rw [if_pos q2, if_pos q3, eW, eU]
        exact ⟨h0, rfl⟩
      · have q3 : ¬ (nI (c0 - bo) = 20 ∧ ¬ a = 0) := fun z => q2 ⟨z.2, hiff.mpr z.1⟩
        rw [if_neg q2] at eU
        rw [if_neg q3] at eW
        rw [if_neg q2, if_neg q3]
        refine ⟨?_, rfl⟩
        have hf : ∀ x i, ¬ (x = 9 ∧ i = 6) → ¬ (x = 33 ∧ i = p) → ¬ (x = 56 ∧ i = p) → ¬ (x = 49 ∧ i = 10) → W x i = V x i := fun x i p1 p2 p3 p4 => by
          rw [eW, uM_at, if_neg p4, uM_at, if_neg p3, eU, uM_at, if_neg p2, uM_at, if_neg p1]
        have w33 : W 33 p = a := by rw [eW, uM_na (by decide), uM_na (by decide), eU, uM_hit]
        have w56 : W 56 p = a := by rw [eW, uM_na (by decide), uM_hit]
        have hup := nzK_upd (K := V 33) (K2 := W 33) (p := p) (fun i hi => hf 33 i (by omega) (by omega) (by omega) (by omega)) 676 hp
        rw [← ec0, ← ebo, w33, ← ean] at hup
        have han : an ≤ 1 ∧ (an = 1 → c0 - bo < 20) := by
          rw [ean]
          by_cases z : a = 0
          · rw [if_pos z]; exact ⟨by omega, fun w => by omega⟩
          · rw [if_neg z]
            refine ⟨by omega, fun _ => ?_⟩
            by_cases y : c0 - bo = 20
            · exact absurd ⟨by rw [y]; rfl, z⟩ q3
            · omega
        have hnz : nzK (W 33) 676 = c0 - bo + an := by omega
        obtain ⟨kk, k1, k2, k3, k4⟩ := k
        refine ⟨hP.ag (fun x i q => hf x i (by omega) (by omega) (by omega) (by omega)), hT.ag (fun x i q => hf x i (by omega) (by omega) (by omega) (by omega)), hD.ag (fun x i q => hf x i (by omega) (by omega) (by omega) (by omega)), ⟨⟨kk, k1, ?_, ?_, fun i hi => ?_⟩, ?_, fun i hi => ?_, fun i hi => ?_, ?_, ?_, ?_⟩, hS.ag (fun x i q => hf x i (by omega) (by omega) (by omega) (by omega))⟩
        · rw [hf 9 5 (by omega) (by omega) (by omega) (by omega)]; exact k2
        · rw [hf 49 12 (by omega) (by omega) (by omega) (by omega)]; exact k3
        · rw [hf 57 i (by omega) (by omega) (by omega) (by omega), hf 31 i (by omega) (by omega) (by omega) (by omega)]; exact k4 i hi
        · rw [hf 49 13 (by omega) (by omega) (by omega) (by omega), hf 49 14 (by omega) (by omega) (by omega) (by omega), hf 49 15 (by omega) (by omega) (by omega) (by omega), hf 9 7 (by omega) (by omega) (by omega) (by omega), hf 9 8 (by omega) (by omega) (by omega) (by omega), hf 9 9 (by omega) (by omega) (by omega) (by omega)]; exact b
        · rw [hf 55 i (by omega) (by omega) (by omega) (by omega), hf 32 i (by omega) (by omega) (by omega) (by omega)]; exact c i hi
        · by_cases e : i = p
          · rw [e, w56, w33]; exact ⟨rfl, q1⟩
          · rw [hf 56 i (by omega) (by omega) (by omega) (by omega), hf 33 i (by omega) (by omega) (by omega) (by omega)]; exact dd i hi
        · rw [hnz, eW, uM_na (by decide), uM_na (by decide), eU, uM_na (by decide), uM_hit]
        · rw [hnz, eW, uM_hit]
        · omega
    · rw [if_pos q1] at eU eW
      rw [if_pos q1, if_pos q1, eW, eU]; exact ⟨h0, rfl⟩
  · rw [if_pos q0] at eU eW
    rw [if_pos q0, if_pos q0, eW, eU]; exact ⟨h0, rfl⟩
theorem DCm.ag2 {V U : vM} {n ph : Nat} {d : Nat → Nat} (h : DCm V n ph d) (q : ∀ a i, (a = 49 ∧ i < 16) ∨ a = 54 → U a i = V a i) : DCm U n ph d := by
  obtain ⟨m1, m2, m3, m4, m5, m6⟩ := h
  exact ⟨by rw [q 49 6 (by omega)]; exact m1, m2, by rw [q 49 7 (by omega)]; exact m3, m4, fun i hi => by rw [q 54 i (by omega)]; exact m5 i hi, m6⟩
theorem LCm.ag2 {V U : vM} {n : Nat} {Wd T : Nat → Int32} {o md : Int32} (h : LCm V n Wd T o md) (q : ∀ a i, (a = 49 ∧ i < 16) ∨ (55 ≤ a ∧ a ≤ 57) → U a i = V a i) : LCm U n Wd T o md := by
  obtain ⟨m1, m2, m3, m4, m5, m6, m7⟩ := h
  refine ⟨by rw [q 49 12 (by omega)]; exact m1, by rw [q 49 13 (by omega)]; exact m2, by rw [q 49 15 (by omega)]; exact m3, m4, fun j hj => by rw [q 57 j (by omega)]; exact m5 j hj, fun i hi => by rw [q 57 i (by omega), q 55 _ (by omega)]; exact m6 i hi, fun i hi => ?_⟩
  rw [← m7 i hi]
  unfold advA kix
  rw [q 57 i (by omega), q 57 (i + 1) (by omega), q 55 _ (by omega), q 49 14 (by omega), q 56 _ (by omega)]
theorem RLt_L {V : vM} (h : RLt V) : ∃ n Wd T o md, LCc V n Wd T o md ∧ LCm V n Wd T o md := by
  obtain ⟨⟨k, k1, k2, k3, k4⟩, ⟨b1, b2, b3, b4, b5⟩, c, dd, e1, e2, e3⟩ := h
  have hke : ∀ i, i + 1 < k → kix V i = keO V (V 31 i) (V 31 (i + 1)) ∧ -500 ≤ keO V (V 31 i) (V 31 (i + 1)) ∧ keO V (V 31 i) (V 31 (i + 1)) ≤ 500 := by
    intro i hi
    obtain ⟨x1, x2⟩ := k4 i (by omega)
    obtain ⟨y1, y2⟩ := k4 (i + 1) hi
    obtain ⟨kl, el, hl⟩ := nI26 x2
    obtain ⟨kr, er, hr⟩ := nI26 y2
    have g1 : keO V (V 31 i) (V 31 (i + 1)) = V 33 (26 * kl + kr) := by
      unfold keO
      rw [if_pos ⟨x2, y2⟩, el, er, show nI kl * 26 + nI kr = nI (kl * 26 + kr) from nadd (nmul rfl (b := 26) rfl) rfl, nI_clamp (by omega), Nat.mul_comm kl 26]
    have g2 : kix V i = V 56 (26 * kl + kr) := by
      unfold kix
      rw [x1, y1, el, er, show 26 * nI kl + nI kr = nI (26 * kl + kr) from nadd (nmul (a := 26) rfl rfl) rfl, nI_clamp (by omega)]
    obtain ⟨d1, d2⟩ := dd (26 * kl + kr) (by omega)
    rw [g1, g2]
    exact ⟨d1, d2⟩
  have hw : ∀ i, i < k → V 55 (V 57 i).toNatClampNeg = V 32 (V 31 i).toNatClampNeg ∧ 1 ≤ V 32 (V 31 i).toNatClampNeg ∧ V 32 (V 31 i).toNatClampNeg ≤ 4000 := by
    intro i hi
    obtain ⟨x1, x2⟩ := k4 i hi
    obtain ⟨kl, el, hl⟩ := nI26 x2
    rw [x1, el, nI_clamp (by omega)]
    exact c kl hl
  have ti : ∀ {x lo hi : Int32}, lo ≤ x ∧ x ≤ hi → lo.toInt ≤ x.toInt ∧ x.toInt ≤ hi.toInt := fun q => ⟨Int32.le_iff_toInt_le.mp q.1, Int32.le_iff_toInt_le.mp q.2⟩
  have ho := ti b4
  have hs := ti b5
  rw [show (-20000 : Int32).toInt = -20000 from rfl, show (100000 : Int32).toInt = 100000 from rfl] at ho
  rw [show (-100 : Int32).toInt = -100 from rfl, show (1000 : Int32).toInt = 1000 from rfl] at hs
  have hLB : LB k (fun i => V 32 (V 31 i).toNatClampNeg) (fun i => stpA V k i) (V 9 7) := by
    refine ⟨k1, fun i hi => ?_, ho.1, ho.2⟩
    have g := ti (hw i hi).2
    rw [show (1 : Int32).toInt = 1 from rfl, show (4000 : Int32).toInt = 4000 from rfl] at g
    refine ⟨g, ?_⟩
    dsimp only
    unfold stpA
    have s1 : (V 32 (V 31 i).toNatClampNeg + V 9 8).toInt = (V 32 (V 31 i).toNatClampNeg).toInt + (V 9 8).toInt := fb_addI (by omega) (by omega)
    by_cases z : i + 1 < k
    · rw [if_pos z]
      have g2 := ti (hke i z).2
      rw [show (-500 : Int32).toInt = -500 from rfl, show (500 : Int32).toInt = 500 from rfl] at g2
      rw [fb_addI (by omega) (by omega), s1]
      omega
    · rw [if_neg z, Int32.add_zero, s1]
      omega
  refine ⟨k, fun i => V 32 (V 31 i).toNatClampNeg, fun i => stpA V k i, V 9 7, V 9 9, ⟨k2, rfl, rfl, hLB, fun j hj => (k4 j hj).2, fun _ _ => rfl, fun _ _ => rfl⟩, ⟨k3, b1, b3, hLB, fun j hj => by rw [(k4 j hj).1]; exact (k4 j hj).2, fun i hi => (hw i hi).1, fun i hi => ?_⟩⟩
  show advA V k i = stpA V k i
  unfold advA stpA
  rw [(hw i hi).1, b2]
  by_cases z : i + 1 < k
  · rw [if_pos z, if_pos z, (hke i z).1]
  · rw [if_neg z, if_neg z]
theorem PR.row {V : vM} {a k n N : Nat} {m m2 : Nat → Int32} (h : PR V a k n N m) (q : ∀ i p, i < N → p < 7 → m2 (i * 7 + p) = m (i * 7 + p)) : PR V a k n N m2 := by
  have hp : PPr V a k n N m := ⟨h.1, h.2.1, h.2.2.2⟩
  have := hp.row q
  exact ⟨this.1, this.2.1, h.2.2.1.row q, this.2.2⟩
theorem PR.bc {V U : vM} {a k n b kb nb N : Nat} {m : Nat → Int32} (h : PR V b kb nb N m) (e : U = bc V a k n b kb nb) (h2 : a ≠ k) (h3 : a ≠ n) (h4 : k ≠ n) : PR U a k n N m := by
  have hN := h.2.2.1.1
  refine ⟨by rw [e, (bc_2 h2 h3).1]; exact h.1, by rw [e, (bc_2 h2 h3).2]; exact h.2.1, h.2.2.1, fun i hi => ⟨by rw [e, bc_k h4 (by omega)]; exact (h.2.2.2 i hi).1, numR_cong (h.2.2.2 i hi).2 (fun j hj => by rw [e, bc_n (by omega)])⟩⟩
theorem fin_tol {V U W : vM} (h : RR V) (t : Int32) (eU : U = if 1 ≤ t ∧ t ≤ 1000 then uM (uM V 0 11 t) 0 12 1 else V) (eW : W = if 1 ≤ t ∧ t ≤ 1000 then uM U 50 169 t else U) : RR W ∧ (if 1 ≤ t ∧ t ≤ 1000 then V 0 11 else -1000002) = (if 1 ≤ t ∧ t ≤ 1000 then U 50 169 else (-1000002 : Int32)) := by
  have h0 := h
  obtain ⟨⟨m, N, t0, hC, hM, ht⟩, hO⟩ := h
  have e5 : U 50 169 = V 0 11 := by
    rw [hC.2.1, ← hM.2.2.2, ← hM.2.1, eU]
    split
    · rw [uM_na (by decide), uM_na (by decide)]
    · rfl
  rw [e5]
  refine ⟨?_, rfl⟩
  by_cases q : 1 ≤ t ∧ t ≤ 1000
  · rw [if_pos q] at eU eW
    have hf : ∀ a i, ¬ (a = 0 ∧ i = 11) → ¬ (a = 0 ∧ i = 12) → ¬ (a = 50 ∧ i = 169) → W a i = V a i := fun a i p1 p2 p3 => by
      rw [eW, uM_at, if_neg p3, eU, uM_at, if_neg p2, uM_at, if_neg p1]
    have hrow : ∀ j, j ≠ 169 → W 50 j = m j := fun j hj => by rw [hf 50 j (by omega) (by omega) (by omega), hM.2.1]
    have hw := hM.1
    have hN := hw.1
    refine ⟨⟨W 50, N, t, ⟨(hC.1.row (fun i p hi hp => hrow _ (by omega))).kept (fun i => hf 1 i (by omega) (by omega) (by omega)) (fun i => hf 12 i (by omega) (by omega) (by omega)) (fun i => hf 13 i (by omega) (by omega) (by omega)), ?_, fun z => absurd z ?_⟩, ⟨hw.row (fun i p hi hp => hrow _ (by omega)), rfl, by rw [hrow 168 (by omega)]; exact hM.2.2.1, by rw [eW, uM_hit]⟩, q⟩, hO.ag (fun a i p => hf a i ?_ ?_ ?_)⟩
    · rw [eW, uM_na (by decide), eU, uM_ni (by decide), uM_hit]
    · rw [eW, uM_na (by decide), eU, uM_hit]; decide
    · intro z; rcases p with ⟨-, p0, -⟩ | ⟨p1, -⟩ <;> omega
    · intro z; rcases p with ⟨-, p0, -⟩ | ⟨p1, -⟩ <;> omega
    · intro z; rcases p with ⟨-, -, -, -, -, p0⟩ | ⟨-, -, p1, -⟩ <;> omega
  · rw [if_neg q] at eU eW
    rw [eW, eU]; exact h0
theorem eq_count {V : vM} {m : Nat → Int32} {N : Nat} {t : Int32} (hC : CS V m N t) (hM : MS V m N t) (hO : RO V) (w : Int32) : (if w = 0 then V 1 2 else if w = 1 then V 1 3 else if w = 2 then V 0 11 else if w = 3 then V 10 2 else if w = 4 then V 9 5 else if w = 5 then V 8 4 else if w = 6 then V 9 6 else -1000002) = (if w = 0 then nI N else if w = 1 then nI (cntM (kd7 (V 50)) N) else if w = 2 then V 50 169 else if w = 3 then V 49 4 else if w = 4 then V 49 12 else if w = 5 then V 49 6 else if w = 6 then V 49 10 else (-1000002 : Int32)) := by
  obtain ⟨⟨k, -, t1, t2, -⟩, ⟨n, ph, d, hDc, hDm⟩, ⟨⟨kk, -, l1, l2, -⟩, -, -, -, l3, l4, -⟩, -⟩ := hO
  rw [hM.2.1, hC.1.1, hC.1.2.1, hC.2.1, hM.2.2.2, t1, t2, l1, l2, l3, l4, hDc.1, hDm.1]
theorem fin_save {V U W : vM} {sl a k n : Nat} {m : Nat → Int32} {N : Nat} {t : Int32} (hC : CS V m N t) (hM : MS V m N t) (ht : 1 ≤ t ∧ t ≤ 1000) (hO : RO V) (hs : (sl = 0 ∧ a = 3 ∧ k = 16 ∧ n = 17) ∨ (sl = 1 ∧ a = 4 ∧ k = 18 ∧ n = 19)) (eU : U = uM (bc V a k n 1 12 13) 5 sl (V 0 11)) (eW : W = uM (cM U 51 (svF U sl 170)) 52 sl 1) : RR W := by
  have hfU : ∀ b i, b ≠ a → b ≠ k → b ≠ n → ¬ (b = 5 ∧ i = sl) → U b i = V b i := fun b i p1 p2 p3 p4 => by
    rw [eU, uM_at, if_neg p4, bc_at p1 p2 p3]
  have hfW : ∀ b i, b ≠ 51 → ¬ (b = 52 ∧ i = sl) → W b i = U b i := fun b i p1 p2 => by
    rw [eW, uM_at, if_neg p2, cM_at, if_neg p1]
  have hf : ∀ b i, b ≠ a → b ≠ k → b ≠ n → ¬ (b = 5 ∧ i = sl) → b ≠ 51 → ¬ (b = 52 ∧ i = sl) → W b i = V b i := fun b i p1 p2 p3 p4 p5 p6 => by rw [hfW b i p5 p6, hfU b i p1 p2 p3 p4]
  have h51 : ∀ j, W 51 j = if 170 * sl ≤ j ∧ j < 170 * sl + 170 then m (j - 170 * sl) else V 51 j := fun j => by
    rw [eW, uM_na (by decide), cM_at, if_pos rfl]
    unfold svF
    by_cases q : 170 * sl ≤ j ∧ j < 170 * sl + 170
    · rw [if_pos q, if_pos q, hfU 50 _ (by omega) (by omega) (by omega) (by omega), hM.2.1]
    · rw [if_neg q, if_neg q, hfU 51 _ (by omega) (by omega) (by omega) (by omega)]
  have hw := hM.1
  have hN := hw.1
  have new : RS1 W sl a k n := by
    have hPR : PR (bc V a k n 1 12 13) a k n N m := hC.1.bc rfl (by omega) (by omega) (by omega)
    refine Or.inr ⟨by rw [eW, uM_hit], m, N, t, hPR.kept (fun i => ?_) (fun i => ?_) (fun i => ?_), ht, ?_, fun j hj => by rw [h51, if_pos (by omega), Nat.add_sub_cancel_left], hM.2.2.1, hM.2.2.2⟩
    · rw [hfW a i (by omega) (by omega), eU, uM_na (by omega)]
    · rw [hfW k i (by omega) (by omega), eU, uM_na (by omega)]
    · rw [hfW n i (by omega) (by omega), eU, uM_na (by omega)]
    · rw [hfW 5 sl (by omega) (by omega), eU, uM_hit]; exact hC.2.1
  obtain ⟨hT, hD, hL, hS⟩ := hO
  refine ⟨⟨m, N, t, hC.ag (fun b i p => hf b i (by omega) (by omega) (by omega) (by omega) (by omega) (by omega)), ⟨hM.1, by rw [← hM.2.1]; funext j; exact hf 50 j (by omega) (by omega) (by omega) (by omega) (by omega) (by omega), hM.2.2⟩, ht⟩, hT.ag (fun b i p => hf b i (by omega) (by omega) (by omega) (by omega) (by omega) (by omega)), hD.ag (fun b i p => hf b i (by omega) (by omega) (by omega) (by omega) (by omega) (by omega)), hL.ag (fun b i p => hf b i (by omega) (by omega) (by omega) (by omega) (by omega) (by omega)), ?_⟩
  rcases hs with ⟨z1, z2, z3, z4⟩ | ⟨z1, z2, z3, z4⟩
  · subst z1 z2 z3 z4
    refine ⟨new, hS.2.ag (hf 5 1 (by omega) (by omega) (by omega) (by omega) (by omega) (by omega)) (hf 52 1 (by omega) (by omega) (by omega) (by omega) (by omega) (by omega)) (fun j hj => ?_) (fun i => hf 4 i (by omega) (by omega) (by omega) (by omega) (by omega) (by omega)) (fun i => hf 18 i (by omega) (by omega) (by omega) (by omega) (by omega) (by omega)) (fun i => hf 19 i (by omega) (by omega) (by omega) (by omega) (by omega) (by omega))⟩
    rw [h51, if_neg (by omega)]
  · subst z1 z2 z3 z4
    refine ⟨hS.1.ag (hf 5 0 (by omega) (by omega) (by omega) (by omega) (by omega) (by omega)) (hf 52 0 (by omega) (by omega) (by omega) (by omega) (by omega) (by omega)) (fun j hj => ?_) (fun i => hf 3 i (by omega) (by omega) (by omega) (by omega) (by omega) (by omega)) (fun i => hf 16 i (by omega) (by omega) (by omega) (by omega) (by omega) (by omega)) (fun i => hf 17 i (by omega) (by omega) (by omega) (by omega) (by omega) (by omega)), new⟩
    rw [h51, if_neg (by omega)]
theorem fin_restore {V U W : vM} {sl a k n : Nat} {m : Nat → Int32} {N : Nat} {t : Int32} (hC : CS V m N t) (hM : MS V m N t) (hO : RO V) (hs : (sl = 0 ∧ a = 3 ∧ k = 16 ∧ n = 17) ∨ (sl = 1 ∧ a = 4 ∧ k = 18 ∧ n = 19)) (hS1 : RS1 V sl a k n) (h5 : ¬ V 5 sl = 0) (eU : U = uM (uM (bc V 1 12 13 a k n) 0 11 (V 5 sl)) 0 12 1) (eW : W = cM U 50 (rsF U sl 170)) : RR W ∧ ¬ U 52 sl = 0 ∧ V a 2 = U 51 (170 * sl + 168) := by
  rcases hS1 with ⟨z, -⟩ | ⟨o1, m2, N2, t2, hP2, ht2, e5, e51, e168, e169⟩
  · exact absurd z h5
  have hfU : ∀ b i, b ≠ 1 → b ≠ 12 → b ≠ 13 → ¬ (b = 0 ∧ (i = 11 ∨ i = 12)) → U b i = V b i := fun b i p1 p2 p3 p4 => by
    rw [eU, uM_at, if_neg (by omega), uM_at, if_neg (by omega), bc_at p1 p2 p3]
  have hfW : ∀ b i, b ≠ 50 → W b i = U b i := fun b i p1 => by rw [eW, cM_at, if_neg p1]
  have hf : ∀ b i, b ≠ 1 → b ≠ 12 → b ≠ 13 → ¬ (b = 0 ∧ (i = 11 ∨ i = 12)) → b ≠ 50 → W b i = V b i := fun b i p1 p2 p3 p4 p5 => by rw [hfW b i p5, hfU b i p1 p2 p3 p4]
  have h50 : ∀ j, j < 170 → W 50 j = m2 j := fun j hj => by
    rw [eW, cM_at, if_pos rfl]
    unfold rsF
    rw [if_pos hj, hfU 51 _ (by omega) (by omega) (by omega) (by omega), e51 j hj]
  have hN2 := hP2.2.2.1.1
  have hPR : PR (bc V 1 12 13 a k n) 1 12 13 N2 m2 := hP2.bc rfl (by omega) (by omega) (by omega)
  have hrow : ∀ i p, i < N2 → p < 7 → W 50 (i * 7 + p) = m2 (i * 7 + p) := fun i p hi hp => h50 _ (by omega)
  refine ⟨⟨⟨W 50, N2, t2, ⟨(hPR.row hrow).kept (fun i => ?_) (fun i => ?_) (fun i => ?_), ?_, fun z => absurd z ?_⟩, ⟨hP2.2.2.1.row hrow, rfl, by rw [h50 168 (by omega)]; exact e168, by rw [h50 169 (by omega)]; exact e169⟩, ht2⟩, hO.ag (fun b i p => hf b i ?_ ?_ ?_ ?_ ?_)⟩, ?_, ?_⟩
  · rw [hfW 1 i (by omega), eU, uM_na (by omega), uM_na (by omega)]
  · rw [hfW 12 i (by omega), eU, uM_na (by omega), uM_na (by omega)]
  · rw [hfW 13 i (by omega), eU, uM_na (by omega), uM_na (by omega)]
  · rw [hfW 0 11 (by omega), eU, uM_ni (by omega), uM_hit]; exact e5
  · rw [hfW 0 12 (by omega), eU, uM_hit]; decide
  · rcases p with ⟨-, -, p0, -⟩ | ⟨p1, -⟩ <;> omega
  · rcases p with ⟨-, -, -, p0, -⟩ | ⟨p1, -⟩ <;> omega
  · rcases p with ⟨-, -, -, -, p0, -⟩ | ⟨p1, -⟩ <;> omega
  · rcases p with ⟨-, p0, -⟩ | ⟨p1, -⟩ <;> omega
  · rcases p with ⟨-, -, -, -, -, p0⟩ | ⟨-, -, p1, -⟩ <;> omega
  · rw [hfU 52 sl (by omega) (by omega) (by omega) (by omega), o1]; decide
  · rw [hfU 51 _ (by omega) (by omega) (by omega) (by omega), e51 168 (by omega), e168]; exact hP2.1
