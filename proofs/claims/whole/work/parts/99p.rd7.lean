/-! the model's descent follows the machine -/
def sgP (P : Nat → Int32) (n a : Nat) : Int32 := if a < n then P a else 0
def MR (V : vM) (P : Nat → Int32) (n a : Nat) : Prop := V 53 = P ∧ V 49 4 = nI n ∧ V 49 18 = nI a ∧ a ≤ n ∧ n ≤ 120
theorem mX10_sign2 {g : gX} {V : vM} {P : Nat → Int32} {n a : Nat} (h : MR V P n a) : MM g jX10_sign V [.ref (g.2.1 49)] (pI V (sgP P n a)) := by
  have := mX10_sign (g := g) V a n h.2.2.2.2 h.2.2.2.1 h.2.2.1 h.2.1
  rw [h.1] at this
  exact this
theorem MR.at {V U : vM} {P : Nat → Int32} {n a b : Nat} (h : MR V P n a) (e : U = uM V 49 18 (nI b)) (hb : b ≤ n) : MR U P n b :=
  ⟨by rw [← h.1]; funext j; rw [e, uM_na (by decide)], by rw [e, uM_ni (by decide)]; exact h.2.1, by rw [e, uM_hit], hb, h.2.2.2.2⟩
theorem MR.set {V U : vM} {P : Nat → Int32} {n a i : Nat} {x : Int32} (h : MR V P n a) (e : U = uM V 49 i x) (h1 : i ≠ 4) (h2 : i ≠ 18) : MR U P n a :=
  ⟨by rw [← h.1]; funext j; rw [e, uM_na (by decide)], by rw [e, uM_ni (Ne.symm h1)]; exact h.2.1, by rw [e, uM_ni (Ne.symm h2)]; exact h.2.2.1, h.2.2.2⟩
theorem MR.row {V U : vM} {P : Nat → Int32} {n a i : Nat} {x : Int32} (h : MR V P n a) (e : U = uM V 60 i x) : MR U P n a :=
  ⟨by rw [← h.1]; funext j; rw [e, uM_na (by decide)], by rw [e, uM_na (by decide)]; exact h.2.1, by rw [e, uM_na (by decide)]; exact h.2.2.1, h.2.2.2⟩
/-- the fault is at a -/
def Bad (P : Nat → Int32) (n a : Nat) : Prop := ∃ s, rRun P a = some s ∧ ((a < n ∧ rSt (P a) s = none) ∨ (a = n ∧ ¬ rWh s))
theorem Bad.ft {P : Nat → Int32} {n a : Nat} (h : Bad P n a) : rFt P n n 0 = nI a := by
  obtain ⟨s, h1, ⟨h2, h3⟩ | ⟨h2, h3⟩⟩ := h
  · have := rFt_to (P := P) (n := n) a 0 s (by omega) (by rw [Nat.zero_add]; exact h1)
    rw [Nat.zero_add, Nat.sub_zero] at this
    rw [this, show n - a = (n - (a + 1)) + 1 by omega]
    exact rFt_n h1 h3
  · subst h2
    have := rFt_to (P := P) (n := a) a 0 s (by omega) (by rw [Nat.zero_add]; exact h1)
    rw [Nat.zero_add, Nat.sub_zero, Nat.sub_self] at this
    rw [this]
    exact (rFt_e h1).2 h3
/-- the next sign is no digit that the number could take -/
def NE (P : Nat → Int32) (n a : Nat) (s : RSt) : Prop := a < n → 48 ≤ P a ∧ P a ≤ 57 → rSt (P a) s = none
section
variable {P : Nat → Int32} {n a : Nat} {k sm ng : Int32} {c v d cm : Nat} {p : Int32 × Int32 × Int32 × Int32} {X O : Nat → Int32}
theorem sgP_lt (h : sgP P n a = 0 → False) : a < n := by
  by_cases z : a < n
  · exact z
  · exact (h (if_neg z)).elim
theorem sgP_in (h : a < n) : sgP P n a = P a := if_pos h
theorem rd_min (hs : rRun P a = some ((k, sm, 0), (c, 0, 0, cm), p, X, O)) (hc : c < rNd k) (h : sgP P n a = 45) : a < n ∧ rRun P (a + 1) = some ((k, sm, 1), (c, 0, 0, cm), p, X, O) := by
  have hl := sgP_lt (P := P) (n := n) (a := a) (fun z => by rw [z] at h; exact absurd h (by decide))
  rw [sgP_in hl] at h
  refine ⟨hl, ?_⟩
  rw [rRun_s hs, rSt_m h]
  unfold rMi
  exact if_neg (fun q => q.elim (fun q => absurd q (by omega)) (fun q => q.elim (fun q => q rfl) (fun q => absurd q (Nat.lt_irrefl _))))
theorem rd_not_wh (hc : c < rNd k) : ¬ rWh ((k, sm, ng), (c, v, 0, cm), p, X, O) := by
  intro h
  obtain ⟨-, h2 | ⟨h2, -⟩⟩ := h
  · have : rNd k = 0 := by unfold rNd; rw [if_pos (Or.inl h2)]
    omega
  · exact absurd h2 (Nat.lt_irrefl _)
theorem rd_k1 (hc : c < rNd k) : ¬ k = -1 ∧ ¬ k = 4 := by
  constructor
  · intro z
    have : rNd k = 0 := by unfold rNd; rw [if_pos (Or.inr z)]
    omega
  · intro z
    have : rNd k = 0 := by unfold rNd; rw [if_pos (Or.inl z)]
    omega
theorem rLe_no {ch : Int32} {s : RSt} (h1 : ¬ s.1.1 = -1) (h : ¬ rWh s) : rLe ch s = none := by
  unfold rLe
  exact if_pos (Or.inr (fun q => q.elim (fun z => h1 z.1) (fun z => h z.2.1)))
theorem rd_nodig (hs : rRun P a = some ((k, sm, ng), (c, 0, 0, cm), p, X, O)) (hc : c < rNd k) (han : a ≤ n) (hm : ¬ ng = 0 ∨ ¬ sgP P n a = 45) (h : ¬ (48 ≤ sgP P n a ∧ sgP P n a ≤ 57)) : Bad P n a := by
  refine ⟨_, hs, ?_⟩
  by_cases hl : a < n
  · refine Or.inl ⟨hl, ?_⟩
    rw [sgP_in hl] at h hm
    by_cases h45 : P a = 45
    · rw [rSt_m h45]; unfold rMi; exact if_pos (Or.inr (Or.inl (hm.resolve_right (fun q => q h45))))
    · by_cases h44 : P a = 44
      · rw [rSt_c h44]; unfold rCo; exact if_pos (Or.inl rfl)
      · rw [rSt_l h h45 h44]; exact rLe_no (rd_k1 hc).1 (rd_not_wh hc)
  · exact Or.inr ⟨by omega, rd_not_wh hc⟩
theorem rd_dig {dv : Nat} (hs : rRun P a = some ((k, sm, ng), (c, v, d, cm), p, X, O)) (hc : c < rNd k) (h : 48 ≤ sgP P n a ∧ sgP P n a ≤ 57) (e : sgP P n a - 48 = nI dv) (hdv : dv ≤ 9) (h1 : d = 0 ∨ 0 < v) (h2 : 10 * v + dv ≤ 4000) : a < n ∧ rRun P (a + 1) = some ((k, sm, ng), (c, 10 * v + dv, d + 1, cm), p, X, O) := by
  have hl := sgP_lt (P := P) (n := n) (a := a) (fun z => by rw [z] at h; exact absurd h.1 (by decide))
  rw [sgP_in hl] at h e
  refine ⟨hl, ?_⟩
  rw [rRun_s hs, rSt_d h, e, nI_clamp (by omega)]
  unfold rDg
  exact if_neg (by omega)
theorem rd_ne (hd : 0 < d) (h : v = 0 ∨ ¬ (48 ≤ sgP P n a ∧ sgP P n a ≤ 57) ∨ ∃ dv, sgP P n a - 48 = nI dv ∧ dv ≤ 9 ∧ 4000 < 10 * v + dv) : NE P n a ((k, sm, ng), (c, v, d, cm), p, X, O) := by
  intro hl hq
  rw [sgP_in hl] at h
  rw [rSt_d hq]
  unfold rDg
  rcases h with h | h | ⟨dv, e, h1, h2⟩
  · exact if_pos (Or.inr (Or.inl ⟨hd, h⟩))
  · exact absurd hq h
  · rw [e, nI_clamp (by omega)]
    exact if_pos (Or.inr (Or.inr h2))
theorem rd_co (hs : rRun P a = some ((k, sm, ng), (c, v, d, cm), p, X, O)) (hd : 0 < d) (hc : c + 1 < rNd k) (h : sgP P n a = 44) : a < n ∧ rRun P (a + 1) = some ((k, sm, 0), (c + 1, 0, 0, cm), p, upd X c (rSg v ng), O) := by
  have hl := sgP_lt (P := P) (n := n) (a := a) (fun z => by rw [z] at h; exact absurd h (by decide))
  rw [sgP_in hl] at h
  refine ⟨hl, ?_⟩
  rw [rRun_s hs, rSt_c h]
  unfold rCo
  exact if_neg (by omega)
theorem rd_nwh2 (hc : c + 1 < rNd k) : ¬ rWh ((k, sm, ng), (c, v, d, cm), p, X, O) := by
  intro h
  obtain ⟨-, h2 | ⟨-, h2⟩⟩ := h
  · have : rNd k = 0 := by unfold rNd; rw [if_pos (Or.inl h2)]
    omega
  · omega
theorem rd_noco (hs : rRun P a = some ((k, sm, ng), (c, v, d, cm), p, X, O)) (han : a ≤ n) (hd : 0 < d) (hc : c + 1 < rNd k) (hN : NE P n a ((k, sm, ng), (c, v, d, cm), p, X, O)) (h : ¬ sgP P n a = 44) : Bad P n a := by
  refine ⟨_, hs, ?_⟩
  by_cases hl : a < n
  · refine Or.inl ⟨hl, ?_⟩
    rw [sgP_in hl] at h
    by_cases hq : 48 ≤ P a ∧ P a ≤ 57
    · exact hN hl hq
    · by_cases h45 : P a = 45
      · rw [rSt_m h45]; unfold rMi; exact if_pos (Or.inr (Or.inr hd))
      · rw [rSt_l hq h45 h]; exact rLe_no (rd_k1 (show c < rNd k by omega)).1 (rd_nwh2 hc)
  · exact Or.inr ⟨by omega, rd_nwh2 hc⟩
end
theorem nI_10 {v dv : Nat} {c : Int32} (e : c - 48 = nI dv) : (10 * nI v + c) - 48 = nI (10 * v + dv) := by
  have : nI (10 * v) = 10 * nI v := by unfold nI; rw [Int32.ofNat_mul]; rfl
  rw [← nI_add, this, ← e, Int32.sub_eq_add_neg, Int32.sub_eq_add_neg, Int32.add_assoc]
theorem rSg_0 {v : Nat} : 1 * nI v = rSg v 0 := by unfold rSg; rw [if_pos rfl, Int32.one_mul]
theorem rSg_1 {v : Nat} : (-1) * nI v = rSg v 1 := by unfold rSg; rw [if_neg (by decide), Int32.neg_mul, Int32.one_mul]
def frS (V U : vM) : Prop := ∀ b i, ¬ (b = 49 ∧ (i = 18 ∨ i = 19)) → U b i = V b i
theorem frS.refl (V : vM) : frS V V := fun _ _ _ => rfl
theorem frS.trans {V U W : vM} (h : frS V U) (k : frS U W) : frS V W := fun b i q => by rw [k b i q, h b i q]
theorem frS.st {V U W : vM} (h : frS V U) {i : Nat} {x : Int32} (e : W = uM U 49 i x) (hi : i = 18 ∨ i = 19) : frS V W := fun b j q => by rw [e, uM_at, if_neg (fun z => q ⟨z.1, by rw [z.2]; exact hi⟩)]; exact h b j q
def NumP (V : vM) (P : Nat → Int32) (n : Nat) (k sm : Int32) (c cm : Nat) (p : Int32 × Int32 × Int32 × Int32) (X O : Nat → Int32) (z : Int32) (U : vM) : Prop := frS V U ∧ ∃ a', MR U P n a' ∧ ((U 49 19 = 1 ∧ Bad P n a') ∨ (U 49 19 = 0 ∧ ∃ v d ng, z = rSg v ng ∧ 0 < d ∧ rRun P a' = some ((k, sm, ng), (c, v, d, cm), p, X, O) ∧ NE P n a' ((k, sm, ng), (c, v, d, cm), p, X, O)))
theorem NumP.b {V U : vM} {P : Nat → Int32} {n : Nat} {k sm : Int32} {c cm : Nat} {p : Int32 × Int32 × Int32 × Int32} {X O : Nat → Int32} {z : Int32} (h : NumP V P n k sm c cm p X O z U) : U 49 19 = 0 ∨ U 49 19 = 1 := by
  obtain ⟨-, a', -, ⟨q, -⟩ | ⟨q, -⟩⟩ := h
  · exact Or.inr q
  · exact Or.inl q
set_option maxHeartbeats 1000000 in
set_option maxRecDepth 100000 in
theorem mX10_readNumber {g : gX} {V : vM} {P : Nat → Int32} {n a : Nat} {k sm : Int32} {c cm : Nat} {p : Int32 × Int32 × Int32 × Int32} {X O : Nat → Int32} (hMR : MR V P n a) (h19 : V 49 19 = 0) (hs : rRun P a = some ((k, sm, 0), (c, 0, 0, cm), p, X, O)) (hc : c < rNd k) : MM g jX10_readNumber V [.ref (g.2.1 49)] (eI (NumP V P n k sm c cm p X O)) := by
  refine MM.of plX10_readNumber (Nat.le_of_ble_eq_true rfl) ?_
  obtain ⟨Q, hQ⟩ : ∃ Q : Option Value → vM → Prop, Q = (eI (NumP V P n k sm c cm p X O)) := ⟨_, rfl⟩
  rw [← hQ]
  show XX g jX10_readNumber Q V 0 [(0, .ref (g.2.1 49))] []
  have han := hMR.2.2.2.1
  have hn120 := hMR.2.2.2.2
  refine x_aload_n dX10_readNumber_0 0 rfl ?_
  refine x_callV (K := jX10_sign) [] lk_X10_140 ⟨⟨rfl, rfl⟩, Nat.le_of_ble_eq_true rfl, Nat.le_of_ble_eq_true rfl⟩ rfl rfl (mX10_sign2 hMR) rfl (Nat.le_of_ble_eq_true rfl) rfl dX10_readNumber_1 (kpI ?_)
  refine x_bipush (v := 45) dX10_readNumber_4 (by decide) ?_
  refine x_icmp_ne 13 dX10_readNumber_6 (by decide) (fun c1 => ?_) (fun c1 => ?_)
  · refine x_iconst (v := 1) dX10_readNumber_13 (by decide) ?_
    refine x_istore_n 1 [(1, .int 1), (0, .ref (g.2.1 49))] dX10_readNumber_14 rfl (by decide) rfl ?_
    have hs1 := hs
    refine x_aload_n dX10_readNumber_15 1 rfl ?_
    refine x_dup dX10_readNumber_16 rfl ?_
    refine x_getI fl_X10_137 rfl rfl dX10_readNumber_17 ?_
    refine x_topi (hMR.2.2.1) ?_
    refine x_iload_n dX10_readNumber_20 0 rfl ?_
    refine x_if_ge 28 dX10_readNumber_21 (by decide) (fun c2 => ?_) (fun c2 => by exfalso; revert c2; decide)
    refine x_iconst (v := 0) dX10_readNumber_28 (by decide) ?_
    refine x_iadd dX10_readNumber_29 ?_
    refine x_topi (y := nI a) (Int32.add_zero _) ?_
    refine x_putI fp_X10_137 rfl rfl dX10_readNumber_30 ?_
    obtain ⟨U3, eU3⟩ : ∃ v_v : vM, v_v = uM V 49 18 (nI a) := ⟨_, rfl⟩
    refine YY.V eU3.symm ?_
    have hm1 : MR U3 P n (a) := hMR.at eU3 (by omega)
    have hf1 : frS V U3 := (frS.refl V).st eU3 (Or.inl rfl)
    refine x_aload_n dX10_readNumber_33 1 rfl ?_
    refine x_callV (K := jX10_sign) [] lk_X10_140 ⟨⟨rfl, rfl⟩, Nat.le_of_ble_eq_true rfl, Nat.le_of_ble_eq_true rfl⟩ rfl rfl (mX10_sign2 hm1) rfl (Nat.le_of_ble_eq_true rfl) rfl dX10_readNumber_34 (kpI ?_)
    refine x_bipush (v := 48) dX10_readNumber_37 (by decide) ?_
    refine x_bipush (v := 57) dX10_readNumber_39 (by decide) ?_
    refine x_callS (K := jX10_in) [.int (sgP P n a), .int 48, .int 57] lk_X10_80 ⟨⟨rfl, rfl⟩, Nat.le_of_ble_eq_true rfl, Nat.le_of_ble_eq_true rfl⟩ (mX10_in U3 (sgP P n a) 48 57) rfl (Nat.le_of_ble_eq_true rfl) rfl dX10_readNumber_41 (kpI ?_)
    refine x_if_ne 54 dX10_readNumber_44 (by decide) (fun c4 => ?_) (fun c4 => ?_)
    · have c4n : (48 ≤ (sgP P n a) ∧ (sgP P n a) ≤ 57) := Classical.not_not.mp (fun q => c4 (iB_0.mpr q))
      refine x_aload_n dX10_readNumber_54 1 rfl ?_
      refine x_callV (K := jX10_sign) [] lk_X10_140 ⟨⟨rfl, rfl⟩, Nat.le_of_ble_eq_true rfl, Nat.le_of_ble_eq_true rfl⟩ rfl rfl (mX10_sign2 hm1) rfl (Nat.le_of_ble_eq_true rfl) rfl dX10_readNumber_55 (kpI ?_)
      refine x_bipush (v := 48) dX10_readNumber_58 (by decide) ?_
      refine x_isub dX10_readNumber_60 ?_
      have hq : 48 ≤ sgP P n (a) ∧ sgP P n (a) ≤ 57 := by assumption
      obtain ⟨dv, edv, hdv⟩ := dig_ex hq
      obtain ⟨hl1, hs2⟩ := rd_dig (n := n) hs1 hc hq edv hdv (Or.inl rfl) (by omega)
      rw [Nat.mul_zero, Nat.zero_add, Nat.zero_add] at hs2
      refine x_topi (y := nI dv) edv ?_
      refine x_istore_n 2 [(2, .int (nI dv)), (1, .int 1), (0, .ref (g.2.1 49))] dX10_readNumber_61 rfl (by decide) rfl ?_
      refine x_aload_n dX10_readNumber_62 2 rfl ?_
      refine x_dup dX10_readNumber_63 rfl ?_
      refine x_getI fl_X10_137 rfl rfl dX10_readNumber_64 ?_
      refine x_topi (y := nI a) (by rw [eU3, uM_hit]) ?_
      refine x_iconst (v := 1) dX10_readNumber_67 (by decide) ?_
      refine x_iadd dX10_readNumber_68 ?_
      refine x_topi (y := nI ((a) + 1)) (by rw [nI_1]) ?_
      refine x_putI fp_X10_137 rfl rfl dX10_readNumber_69 ?_
      obtain ⟨U5, eU5⟩ : ∃ v_v : vM, v_v = uM U3 49 18 (nI ((a) + 1)) := ⟨_, rfl⟩
      refine YY.V eU5.symm ?_
      have hm2 : MR U5 P n (a + 1) := hm1.at eU5 (by omega)
      have hf2 : frS V U5 := hf1.st eU5 (Or.inl rfl)
      have lp6 : ∀ (fu : Nat) (b : Nat) (v : Nat) (d : Nat) (U : vM), (MR U P n b) → (rRun P b = some ((k, sm, 0), (c, v, d, cm), p, X, O)) → (0 < d) → (v ≤ 4000) → (frS V U) → (U 49 19 = 0) → (n - b) < fu → XX g jX10_readNumber Q U 72 [(2, .int (nI v)), (1, .int 1), (0, .ref (g.2.1 49))] [] := by
        intro fu
        induction fu with
        | zero => intro _ _ _ _ _ _ _ _ _ _ hmz; exact absurd hmz (Nat.not_lt_zero _)
        | succ fu ih =>
          intro b v d U hmU hsU hd hv hfU h19U hmz
          refine x_iload_n dX10_readNumber_72 0 rfl ?_
          refine x_if_le 134 dX10_readNumber_73 (by decide) (fun c7 => ?_) (fun c7 => ?_)
          · have c7n : v ≤ 0 := (nl_le (a := v) (b := 0) (rfl) (rfl) (by omega) (by omega)).mp c7
            refine x_iload_n dX10_readNumber_134 1 rfl ?_
            refine x_iload_n dX10_readNumber_135 0 rfl ?_
            refine x_imul dX10_readNumber_136 ?_
            refine x_iret dX10_readNumber_137 rfl ?_
            rw [hQ]
            exact ⟨_, rfl, hfU, b, hmU, Or.inr ⟨h19U, v, d, 0, rSg_0, hd, hsU, rd_ne hd (Or.inl (by omega))⟩⟩
          · have c7n : 0 < v := Nat.not_le.mp (fun q => c7 ((nl_le (a := v) (b := 0) (rfl) (rfl) (by omega) (by omega)).mpr q))
            refine x_aload_n dX10_readNumber_76 2 rfl ?_
            refine x_callV (K := jX10_sign) [] lk_X10_140 ⟨⟨rfl, rfl⟩, Nat.le_of_ble_eq_true rfl, Nat.le_of_ble_eq_true rfl⟩ rfl rfl (mX10_sign2 hmU) rfl (Nat.le_of_ble_eq_true rfl) rfl dX10_readNumber_77 (kpI ?_)
            refine x_bipush (v := 48) dX10_readNumber_80 (by decide) ?_
            refine x_bipush (v := 57) dX10_readNumber_82 (by decide) ?_
            refine x_callS (K := jX10_in) [.int (sgP P n b), .int 48, .int 57] lk_X10_80 ⟨⟨rfl, rfl⟩, Nat.le_of_ble_eq_true rfl, Nat.le_of_ble_eq_true rfl⟩ (mX10_in U (sgP P n b) 48 57) rfl (Nat.le_of_ble_eq_true rfl) rfl dX10_readNumber_84 (kpI ?_)
            refine x_if_eq 134 dX10_readNumber_87 (by decide) (fun c8 => ?_) (fun c8 => ?_)
            · have c8n : ¬ (48 ≤ (sgP P n b) ∧ (sgP P n b) ≤ 57) := iB_0.mp c8
              refine x_iload_n dX10_readNumber_134 1 rfl ?_
              refine x_iload_n dX10_readNumber_135 0 rfl ?_
              refine x_imul dX10_readNumber_136 ?_
              refine x_iret dX10_readNumber_137 rfl ?_
              rw [hQ]
              exact ⟨_, rfl, hfU, b, hmU, Or.inr ⟨h19U, v, d, 0, rSg_0, hd, hsU, rd_ne hd (Or.inr (Or.inl (by assumption)))⟩⟩
            · have c8n : (48 ≤ (sgP P n b) ∧ (sgP P n b) ≤ 57) := Classical.not_not.mp (fun q => c8 (iB_0.mpr q))
              have hq2 : 48 ≤ sgP P n b ∧ sgP P n b ≤ 57 := by assumption
              obtain ⟨dw, edw, hdw⟩ := dig_ex hq2
              refine x_bipush (v := 10) dX10_readNumber_90 (by decide) ?_
              refine x_iload_n dX10_readNumber_92 0 rfl ?_
              refine x_imul dX10_readNumber_93 ?_
              refine x_aload_n dX10_readNumber_94 2 rfl ?_
              refine x_callV (K := jX10_sign) [] lk_X10_140 ⟨⟨rfl, rfl⟩, Nat.le_of_ble_eq_true rfl, Nat.le_of_ble_eq_true rfl⟩ rfl rfl (mX10_sign2 hmU) rfl (Nat.le_of_ble_eq_true rfl) rfl dX10_readNumber_95 (kpI ?_)
              refine x_iadd dX10_readNumber_98 ?_
              refine x_bipush (v := 48) dX10_readNumber_99 (by decide) ?_
              refine x_isub dX10_readNumber_101 ?_
              refine x_topi (y := nI (10 * v + dw)) (nI_10 edw) ?_
              refine x_sipush (v := 4000) dX10_readNumber_102 (by decide) ?_
              refine x_icmp_gt 134 dX10_readNumber_105 (by decide) (fun c9 => ?_) (fun c9 => ?_)
              · have c9n : 4000 < 10 * v + dw := (nl_lt (a := 4000) (b := 10 * v + dw) (rfl) (rfl) (by omega) (by omega)).mp c9
                refine x_iload_n dX10_readNumber_134 1 rfl ?_
                refine x_iload_n dX10_readNumber_135 0 rfl ?_
                refine x_imul dX10_readNumber_136 ?_
                refine x_iret dX10_readNumber_137 rfl ?_
                rw [hQ]
                exact ⟨_, rfl, hfU, b, hmU, Or.inr ⟨h19U, v, d, 0, rSg_0, hd, hsU, rd_ne hd (Or.inr (Or.inr ⟨dw, edw, hdw, by omega⟩))⟩⟩
              · have c9n : 10 * v + dw ≤ 4000 := Nat.not_lt.mp (fun q => c9 ((nl_lt (a := 4000) (b := 10 * v + dw) (rfl) (rfl) (by omega) (by omega)).mpr q))
                obtain ⟨hlb, hs3⟩ := rd_dig (n := n) hsU hc hq2 edw hdw (Or.inr (by omega)) (by omega)
                refine x_bipush (v := 10) dX10_readNumber_108 (by decide) ?_
                refine x_iload_n dX10_readNumber_110 0 rfl ?_
                refine x_imul dX10_readNumber_111 ?_
                refine x_aload_n dX10_readNumber_112 2 rfl ?_
                refine x_callV (K := jX10_sign) [] lk_X10_140 ⟨⟨rfl, rfl⟩, Nat.le_of_ble_eq_true rfl, Nat.le_of_ble_eq_true rfl⟩ rfl rfl (mX10_sign2 hmU) rfl (Nat.le_of_ble_eq_true rfl) rfl dX10_readNumber_113 (kpI ?_)
                refine x_iadd dX10_readNumber_116 ?_
                refine x_bipush (v := 48) dX10_readNumber_117 (by decide) ?_
                refine x_isub dX10_readNumber_119 ?_
                refine x_topi (y := nI (10 * v + dw)) (nI_10 edw) ?_
                refine x_istore_n 2 [(2, .int (nI (10 * v + dw))), (1, .int 1), (0, .ref (g.2.1 49))] dX10_readNumber_120 rfl (by decide) rfl ?_
                refine x_aload_n dX10_readNumber_121 2 rfl ?_
                refine x_dup dX10_readNumber_122 rfl ?_
                refine x_getI fl_X10_137 rfl rfl dX10_readNumber_123 ?_
                refine x_topi (hmU.2.2.1) ?_
                refine x_iconst (v := 1) dX10_readNumber_126 (by decide) ?_
                refine x_iadd dX10_readNumber_127 ?_
                refine x_topi (y := nI (b + 1)) (by rw [nI_1]) ?_
                refine x_putI fp_X10_137 rfl rfl dX10_readNumber_128 ?_
                obtain ⟨U10, eU10⟩ : ∃ v_v : vM, v_v = uM U 49 18 (nI (b + 1)) := ⟨_, rfl⟩
                refine YY.V eU10.symm ?_
                refine x_goto 72 dX10_readNumber_131 (by decide) ?_
                exact ih (b + 1) (10 * v + dw) (d + 1) U10 (by exact hmU.at eU10 (by omega)) (by exact hs3) (by omega) (by omega) (by exact hfU.st eU10 (Or.inl rfl)) (by rw [eU10, uM_ni (by decide)]; exact h19U) (by omega)
      exact lp6 _ (a + 1) dv 1 U5 (by exact hm2) (by exact hs2) (by omega) (by omega) (by exact hf2) (by rw [eU5, uM_ni (by decide), eU3, uM_ni (by decide)]; exact h19) (Nat.lt_succ_self _)
    · have c4n : ¬ (48 ≤ (sgP P n a) ∧ (sgP P n a) ≤ 57) := iB_0.mp c4
      refine x_aload_n dX10_readNumber_47 1 rfl ?_
      refine x_iconst (v := 1) dX10_readNumber_48 (by decide) ?_
      have z11 : (1 : Int32) = 0 ∨ (1 : Int32) = 1 := by first | exact Or.inl rfl | exact Or.inr rfl | grind
      refine x_putZ fp_X10_143 rfl rfl z11 dX10_readNumber_49 ?_
      obtain ⟨U12, eU12⟩ : ∃ v_v : vM, v_v = uM U3 49 19 1 := ⟨_, rfl⟩
      refine YY.V eU12.symm ?_
      refine x_iconst (v := 0) dX10_readNumber_52 (by decide) ?_
      refine x_iret dX10_readNumber_53 rfl ?_
      rw [hQ]
      exact ⟨_, rfl, hf1.st eU12 (Or.inr rfl), a, hm1.set eU12 (by decide) (by decide), Or.inl ⟨by rw [eU12, uM_hit], rd_nodig hs1 hc (by omega) (Or.inr (by assumption)) (by assumption)⟩⟩
  · refine x_iconst (v := -1) dX10_readNumber_9 (by decide) ?_
    refine x_goto 14 dX10_readNumber_10 (by decide) ?_
    refine x_istore_n 1 [(1, .int (-1)), (0, .ref (g.2.1 49))] dX10_readNumber_14 rfl (by decide) rfl ?_
    obtain ⟨hln, hs1⟩ := rd_min hs hc (by assumption)
    refine x_aload_n dX10_readNumber_15 1 rfl ?_
    refine x_dup dX10_readNumber_16 rfl ?_
    refine x_getI fl_X10_137 rfl rfl dX10_readNumber_17 ?_
    refine x_topi (hMR.2.2.1) ?_
    refine x_iload_n dX10_readNumber_20 0 rfl ?_
    refine x_if_ge 28 dX10_readNumber_21 (by decide) (fun c13 => by exfalso; revert c13; decide) (fun c13 => ?_)
    refine x_iconst (v := 1) dX10_readNumber_24 (by decide) ?_
    refine x_goto 29 dX10_readNumber_25 (by decide) ?_
    refine x_iadd dX10_readNumber_29 ?_
    refine x_topi (y := nI (a + 1)) (by rw [nI_1]) ?_
    refine x_putI fp_X10_137 rfl rfl dX10_readNumber_30 ?_
    obtain ⟨U14, eU14⟩ : ∃ v_v : vM, v_v = uM V 49 18 (nI (a + 1)) := ⟨_, rfl⟩
    refine YY.V eU14.symm ?_
    have hm1 : MR U14 P n (a + 1) := hMR.at eU14 (by omega)
    have hf1 : frS V U14 := (frS.refl V).st eU14 (Or.inl rfl)
    refine x_aload_n dX10_readNumber_33 1 rfl ?_
    refine x_callV (K := jX10_sign) [] lk_X10_140 ⟨⟨rfl, rfl⟩, Nat.le_of_ble_eq_true rfl, Nat.le_of_ble_eq_true rfl⟩ rfl rfl (mX10_sign2 hm1) rfl (Nat.le_of_ble_eq_true rfl) rfl dX10_readNumber_34 (kpI ?_)
    refine x_bipush (v := 48) dX10_readNumber_37 (by decide) ?_
    refine x_bipush (v := 57) dX10_readNumber_39 (by decide) ?_
    refine x_callS (K := jX10_in) [.int (sgP P n (a + 1)), .int 48, .int 57] lk_X10_80 ⟨⟨rfl, rfl⟩, Nat.le_of_ble_eq_true rfl, Nat.le_of_ble_eq_true rfl⟩ (mX10_in U14 (sgP P n (a + 1)) 48 57) rfl (Nat.le_of_ble_eq_true rfl) rfl dX10_readNumber_41 (kpI ?_)
    refine x_if_ne 54 dX10_readNumber_44 (by decide) (fun c15 => ?_) (fun c15 => ?_)
    · have c15n : (48 ≤ (sgP P n (a + 1)) ∧ (sgP P n (a + 1)) ≤ 57) := Classical.not_not.mp (fun q => c15 (iB_0.mpr q))
      refine x_aload_n dX10_readNumber_54 1 rfl ?_
      refine x_callV (K := jX10_sign) [] lk_X10_140 ⟨⟨rfl, rfl⟩, Nat.le_of_ble_eq_true rfl, Nat.le_of_ble_eq_true rfl⟩ rfl rfl (mX10_sign2 hm1) rfl (Nat.le_of_ble_eq_true rfl) rfl dX10_readNumber_55 (kpI ?_)
      refine x_bipush (v := 48) dX10_readNumber_58 (by decide) ?_
      refine x_isub dX10_readNumber_60 ?_
      have hq : 48 ≤ sgP P n (a + 1) ∧ sgP P n (a + 1) ≤ 57 := by assumption
      obtain ⟨dv, edv, hdv⟩ := dig_ex hq
      obtain ⟨hl1, hs2⟩ := rd_dig (n := n) hs1 hc hq edv hdv (Or.inl rfl) (by omega)
      rw [Nat.mul_zero, Nat.zero_add, Nat.zero_add] at hs2
      refine x_topi (y := nI dv) edv ?_
      refine x_istore_n 2 [(2, .int (nI dv)), (1, .int (-1)), (0, .ref (g.2.1 49))] dX10_readNumber_61 rfl (by decide) rfl ?_
      refine x_aload_n dX10_readNumber_62 2 rfl ?_
      refine x_dup dX10_readNumber_63 rfl ?_
      refine x_getI fl_X10_137 rfl rfl dX10_readNumber_64 ?_
      refine x_topi (y := nI (a + 1)) (by rw [eU14, uM_hit]) ?_
      refine x_iconst (v := 1) dX10_readNumber_67 (by decide) ?_
      refine x_iadd dX10_readNumber_68 ?_
      refine x_topi (y := nI ((a + 1) + 1)) (by rw [nI_1]) ?_
      refine x_putI fp_X10_137 rfl rfl dX10_readNumber_69 ?_
      obtain ⟨U16, eU16⟩ : ∃ v_v : vM, v_v = uM U14 49 18 (nI ((a + 1) + 1)) := ⟨_, rfl⟩
      refine YY.V eU16.symm ?_
      have hm2 : MR U16 P n (a + 1 + 1) := hm1.at eU16 (by omega)
      have hf2 : frS V U16 := hf1.st eU16 (Or.inl rfl)
      have lp17 : ∀ (fu : Nat) (b : Nat) (v : Nat) (d : Nat) (U : vM), (MR U P n b) → (rRun P b = some ((k, sm, 1), (c, v, d, cm), p, X, O)) → (0 < d) → (v ≤ 4000) → (frS V U) → (U 49 19 = 0) → (n - b) < fu → XX g jX10_readNumber Q U 72 [(2, .int (nI v)), (1, .int (-1)), (0, .ref (g.2.1 49))] [] := by
        intro fu
        induction fu with
        | zero => intro _ _ _ _ _ _ _ _ _ _ hmz; exact absurd hmz (Nat.not_lt_zero _)
        | succ fu ih =>
          intro b v d U hmU hsU hd hv hfU h19U hmz
          refine x_iload_n dX10_readNumber_72 0 rfl ?_
          refine x_if_le 134 dX10_readNumber_73 (by decide) (fun c18 => ?_) (fun c18 => ?_)
          · have c18n : v ≤ 0 := (nl_le (a := v) (b := 0) (rfl) (rfl) (by omega) (by omega)).mp c18
            refine x_iload_n dX10_readNumber_134 1 rfl ?_
            refine x_iload_n dX10_readNumber_135 0 rfl ?_
            refine x_imul dX10_readNumber_136 ?_
            refine x_iret dX10_readNumber_137 rfl ?_
            rw [hQ]
            exact ⟨_, rfl, hfU, b, hmU, Or.inr ⟨h19U, v, d, 1, rSg_1, hd, hsU, rd_ne hd (Or.inl (by omega))⟩⟩
          · have c18n : 0 < v := Nat.not_le.mp (fun q => c18 ((nl_le (a := v) (b := 0) (rfl) (rfl) (by omega) (by omega)).mpr q))
            refine x_aload_n dX10_readNumber_76 2 rfl ?_
            refine x_callV (K := jX10_sign) [] lk_X10_140 ⟨⟨rfl, rfl⟩, Nat.le_of_ble_eq_true rfl, Nat.le_of_ble_eq_true rfl⟩ rfl rfl (mX10_sign2 hmU) rfl (Nat.le_of_ble_eq_true rfl) rfl dX10_readNumber_77 (kpI ?_)
            refine x_bipush (v := 48) dX10_readNumber_80 (by decide) ?_
            refine x_bipush (v := 57) dX10_readNumber_82 (by decide) ?_
            refine x_callS (K := jX10_in) [.int (sgP P n b), .int 48, .int 57] lk_X10_80 ⟨⟨rfl, rfl⟩, Nat.le_of_ble_eq_true rfl, Nat.le_of_ble_eq_true rfl⟩ (mX10_in U (sgP P n b) 48 57) rfl (Nat.le_of_ble_eq_true rfl) rfl dX10_readNumber_84 (kpI ?_)
            refine x_if_eq 134 dX10_readNumber_87 (by decide) (fun c19 => ?_) (fun c19 => ?_)
            · have c19n : ¬ (48 ≤ (sgP P n b) ∧ (sgP P n b) ≤ 57) := iB_0.mp c19
              refine x_iload_n dX10_readNumber_134 1 rfl ?_
              refine x_iload_n dX10_readNumber_135 0 rfl ?_
              refine x_imul dX10_readNumber_136 ?_
              refine x_iret dX10_readNumber_137 rfl ?_
              rw [hQ]
              exact ⟨_, rfl, hfU, b, hmU, Or.inr ⟨h19U, v, d, 1, rSg_1, hd, hsU, rd_ne hd (Or.inr (Or.inl (by assumption)))⟩⟩
            · have c19n : (48 ≤ (sgP P n b) ∧ (sgP P n b) ≤ 57) := Classical.not_not.mp (fun q => c19 (iB_0.mpr q))
              have hq2 : 48 ≤ sgP P n b ∧ sgP P n b ≤ 57 := by assumption
              obtain ⟨dw, edw, hdw⟩ := dig_ex hq2
              refine x_bipush (v := 10) dX10_readNumber_90 (by decide) ?_
              refine x_iload_n dX10_readNumber_92 0 rfl ?_
              refine x_imul dX10_readNumber_93 ?_
              refine x_aload_n dX10_readNumber_94 2 rfl ?_
              refine x_callV (K := jX10_sign) [] lk_X10_140 ⟨⟨rfl, rfl⟩, Nat.le_of_ble_eq_true rfl, Nat.le_of_ble_eq_true rfl⟩ rfl rfl (mX10_sign2 hmU) rfl (Nat.le_of_ble_eq_true rfl) rfl dX10_readNumber_95 (kpI ?_)
              refine x_iadd dX10_readNumber_98 ?_
              refine x_bipush (v := 48) dX10_readNumber_99 (by decide) ?_
              refine x_isub dX10_readNumber_101 ?_
              refine x_topi (y := nI (10 * v + dw)) (nI_10 edw) ?_
              refine x_sipush (v := 4000) dX10_readNumber_102 (by decide) ?_
              refine x_icmp_gt 134 dX10_readNumber_105 (by decide) (fun c20 => ?_) (fun c20 => ?_)
              · have c20n : 4000 < 10 * v + dw := (nl_lt (a := 4000) (b := 10 * v + dw) (rfl) (rfl) (by omega) (by omega)).mp c20
                refine x_iload_n dX10_readNumber_134 1 rfl ?_
                refine x_iload_n dX10_readNumber_135 0 rfl ?_
                refine x_imul dX10_readNumber_136 ?_
                refine x_iret dX10_readNumber_137 rfl ?_
                rw [hQ]
                exact ⟨_, rfl, hfU, b, hmU, Or.inr ⟨h19U, v, d, 1, rSg_1, hd, hsU, rd_ne hd (Or.inr (Or.inr ⟨dw, edw, hdw, by omega⟩))⟩⟩
              · have c20n : 10 * v + dw ≤ 4000 := Nat.not_lt.mp (fun q => c20 ((nl_lt (a := 4000) (b := 10 * v + dw) (rfl) (rfl) (by omega) (by omega)).mpr q))
                obtain ⟨hlb, hs3⟩ := rd_dig (n := n) hsU hc hq2 edw hdw (Or.inr (by omega)) (by omega)
                refine x_bipush (v := 10) dX10_readNumber_108 (by decide) ?_
                refine x_iload_n dX10_readNumber_110 0 rfl ?_
                refine x_imul dX10_readNumber_111 ?_
                refine x_aload_n dX10_readNumber_112 2 rfl ?_
                refine x_callV (K := jX10_sign) [] lk_X10_140 ⟨⟨rfl, rfl⟩, Nat.le_of_ble_eq_true rfl, Nat.le_of_ble_eq_true rfl⟩ rfl rfl (mX10_sign2 hmU) rfl (Nat.le_of_ble_eq_true rfl) rfl dX10_readNumber_113 (kpI ?_)
                refine x_iadd dX10_readNumber_116 ?_
                refine x_bipush (v := 48) dX10_readNumber_117 (by decide) ?_
                refine x_isub dX10_readNumber_119 ?_
                refine x_topi (y := nI (10 * v + dw)) (nI_10 edw) ?_
                refine x_istore_n 2 [(2, .int (nI (10 * v + dw))), (1, .int (-1)), (0, .ref (g.2.1 49))] dX10_readNumber_120 rfl (by decide) rfl ?_
                refine x_aload_n dX10_readNumber_121 2 rfl ?_
                refine x_dup dX10_readNumber_122 rfl ?_
                refine x_getI fl_X10_137 rfl rfl dX10_readNumber_123 ?_
                refine x_topi (hmU.2.2.1) ?_
                refine x_iconst (v := 1) dX10_readNumber_126 (by decide) ?_
                refine x_iadd dX10_readNumber_127 ?_
                refine x_topi (y := nI (b + 1)) (by rw [nI_1]) ?_
                refine x_putI fp_X10_137 rfl rfl dX10_readNumber_128 ?_
                obtain ⟨U21, eU21⟩ : ∃ v_v : vM, v_v = uM U 49 18 (nI (b + 1)) := ⟨_, rfl⟩
                refine YY.V eU21.symm ?_
                refine x_goto 72 dX10_readNumber_131 (by decide) ?_
                exact ih (b + 1) (10 * v + dw) (d + 1) U21 (by exact hmU.at eU21 (by omega)) (by exact hs3) (by omega) (by omega) (by exact hfU.st eU21 (Or.inl rfl)) (by rw [eU21, uM_ni (by decide)]; exact h19U) (by omega)
      exact lp17 _ (a + 1 + 1) dv 1 U16 (by exact hm2) (by exact hs2) (by omega) (by omega) (by exact hf2) (by rw [eU16, uM_ni (by decide), eU14, uM_ni (by decide)]; exact h19) (Nat.lt_succ_self _)
    · have c15n : ¬ (48 ≤ (sgP P n (a + 1)) ∧ (sgP P n (a + 1)) ≤ 57) := iB_0.mp c15
      refine x_aload_n dX10_readNumber_47 1 rfl ?_
      refine x_iconst (v := 1) dX10_readNumber_48 (by decide) ?_
      have z22 : (1 : Int32) = 0 ∨ (1 : Int32) = 1 := by first | exact Or.inl rfl | exact Or.inr rfl | grind
      refine x_putZ fp_X10_143 rfl rfl z22 dX10_readNumber_49 ?_
      obtain ⟨U23, eU23⟩ : ∃ v_v : vM, v_v = uM U14 49 19 1 := ⟨_, rfl⟩
      refine YY.V eU23.symm ?_
      refine x_iconst (v := 0) dX10_readNumber_52 (by decide) ?_
      refine x_iret dX10_readNumber_53 rfl ?_
      rw [hQ]
      exact ⟨_, rfl, hf1.st eU23 (Or.inr rfl), (a + 1), hm1.set eU23 (by decide) (by decide), Or.inl ⟨by rw [eU23, uM_hit], rd_nodig hs1 hc (by omega) (Or.inl (by decide)) (by assumption)⟩⟩
def ComP (V : vM) (P : Nat → Int32) (n : Nat) (k sm : Int32) (c cm : Nat) (p : Int32 × Int32 × Int32 × Int32) (X O : Nat → Int32) (x : Int32) (U : vM) : Prop := frS V U ∧ ∃ a', MR U P n a' ∧ ((U 49 19 = 1 ∧ Bad P n a') ∨ (U 49 19 = 0 ∧ rRun P a' = some ((k, sm, 0), (c + 1, 0, 0, cm), p, upd X c x, O)))
theorem ComP.b {V U : vM} {P : Nat → Int32} {n : Nat} {k sm : Int32} {c cm : Nat} {p : Int32 × Int32 × Int32 × Int32} {X O : Nat → Int32} {z : Int32} (h : ComP V P n k sm c cm p X O z U) : U 49 19 = 0 ∨ U 49 19 = 1 := by
  obtain ⟨-, a', -, ⟨q, -⟩ | ⟨q, -⟩⟩ := h
  · exact Or.inr q
  · exact Or.inl q
set_option maxHeartbeats 1000000 in
set_option maxRecDepth 100000 in
theorem mX10_readComma {g : gX} {V : vM} {P : Nat → Int32} {n a : Nat} {k sm : Int32} {c cm : Nat} {p : Int32 × Int32 × Int32 × Int32} {X O : Nat → Int32} (hMR : MR V P n a) (h19 : V 49 19 = 0) {v d : Nat} {ng : Int32} (hs : rRun P a = some ((k, sm, ng), (c, v, d, cm), p, X, O)) (hd : 0 < d) (hc : c + 1 < rNd k) (hne : NE P n a ((k, sm, ng), (c, v, d, cm), p, X, O)) : MM g jX10_readComma V [.ref (g.2.1 49)] (eV (ComP V P n k sm c cm p X O (rSg v ng))) := by
  refine MM.of plX10_readComma (Nat.le_of_ble_eq_true rfl) ?_
  obtain ⟨Q, hQ⟩ : ∃ Q : Option Value → vM → Prop, Q = (eV (ComP V P n k sm c cm p X O (rSg v ng))) := ⟨_, rfl⟩
  rw [← hQ]
  show XX g jX10_readComma Q V 0 [(0, .ref (g.2.1 49))] []
  have han := hMR.2.2.2.1
  have hn120 := hMR.2.2.2.2
  refine x_aload_n dX10_readComma_0 0 rfl ?_
  refine x_callV (K := jX10_sign) [] lk_X10_140 ⟨⟨rfl, rfl⟩, Nat.le_of_ble_eq_true rfl, Nat.le_of_ble_eq_true rfl⟩ rfl rfl (mX10_sign2 hMR) rfl (Nat.le_of_ble_eq_true rfl) rfl dX10_readComma_1 (kpI ?_)
  refine x_bipush (v := 44) dX10_readComma_4 (by decide) ?_
  refine x_icmp_ne 22 dX10_readComma_6 (by decide) (fun c1 => ?_) (fun c1 => ?_)
  · refine x_aload_n dX10_readComma_22 0 rfl ?_
    refine x_iconst (v := 1) dX10_readComma_23 (by decide) ?_
    have z2 : (1 : Int32) = 0 ∨ (1 : Int32) = 1 := by first | exact Or.inl rfl | exact Or.inr rfl | grind
    refine x_putZ fp_X10_143 rfl rfl z2 dX10_readComma_24 ?_
    obtain ⟨U3, eU3⟩ : ∃ v_v : vM, v_v = uM V 49 19 1 := ⟨_, rfl⟩
    refine YY.V eU3.symm ?_
    refine x_vret dX10_readComma_27 rfl ?_
    rw [hQ]
    exact ⟨rfl, (frS.refl V).st eU3 (Or.inr rfl), a, hMR.set eU3 (by decide) (by decide), Or.inl ⟨by rw [eU3, uM_hit], rd_noco hs han hd hc hne (by assumption)⟩⟩
  · refine x_aload_n dX10_readComma_9 0 rfl ?_
    refine x_dup dX10_readComma_10 rfl ?_
    refine x_getI fl_X10_137 rfl rfl dX10_readComma_11 ?_
    refine x_topi (hMR.2.2.1) ?_
    refine x_iconst (v := 1) dX10_readComma_14 (by decide) ?_
    refine x_iadd dX10_readComma_15 ?_
    refine x_topi (y := nI (a + 1)) (by rw [nI_1]) ?_
    refine x_putI fp_X10_137 rfl rfl dX10_readComma_16 ?_
    obtain ⟨U4, eU4⟩ : ∃ v_v : vM, v_v = uM V 49 18 (nI (a + 1)) := ⟨_, rfl⟩
    refine YY.V eU4.symm ?_
    refine x_goto 27 dX10_readComma_19 (by decide) ?_
    refine x_vret dX10_readComma_27 rfl ?_
    rw [hQ]
    obtain ⟨hl, hs1⟩ := rd_co hs hd hc (show sgP P n a = 44 by assumption)
    exact ⟨rfl, (frS.refl V).st eU4 (Or.inl rfl), a + 1, hMR.at eU4 (by omega), Or.inr ⟨by rw [eU4, uM_ni (by decide)]; exact h19, hs1⟩⟩
