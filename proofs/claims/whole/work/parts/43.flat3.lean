def hmid (a b : Int32) : Int32 := (a + b) >>> 1
/-- the halves of a curve of l points behind its first one (l = 2 or 3): the first half, the second -/
def hA (l : Nat) (p : Nat → Int32) : Nat → Int32 := fun i =>
  let q := fun j => p (i % 2 + 2 * j)
  if i / 2 = 0 then q 0 else if i / 2 = 1 then hmid (q 0) (q 1) else if i / 2 = 2 then hmid (hmid (q 0) (q 1)) (hmid (q 1) (q 2))
  else if l = 3 then hmid (hmid (hmid (q 0) (q 1)) (hmid (q 1) (q 2))) (hmid (hmid (q 1) (q 2)) (hmid (q 2) (q 3))) else 0
def hB (l : Nat) (p : Nat → Int32) : Nat → Int32 := fun i =>
  let q := fun j => p (i % 2 + 2 * j)
  if l = 2 then (if i / 2 = 0 then hmid (hmid (q 0) (q 1)) (hmid (q 1) (q 2)) else if i / 2 = 1 then hmid (q 1) (q 2) else q 2)
  else (if i / 2 = 0 then hmid (hmid (hmid (q 0) (q 1)) (hmid (q 1) (q 2))) (hmid (hmid (q 1) (q 2)) (hmid (q 2) (q 3))) else if i / 2 = 1 then hmid (hmid (q 1) (q 2)) (hmid (q 2) (q 3)) else if i / 2 = 2 then hmid (q 2) (q 3) else q 3)
def iabs (x : Int32) : Int32 := if 0 ≤ x then x else 0 - x
def bnd (a b c : Int32) : Int32 := iabs (a - 2 * b + c)
/-- whether a curve is flat: tolerance t -/
def flt (l : Nat) (p : Nat → Int32) (t : Int32) : Prop := if l = 2 then bnd (p 0) (p 2) (p 4) + bnd (p 1) (p 3) (p 5) ≤ 4 * t
  else bnd (p 0) (p 2) (p 4) + bnd (p 1) (p 3) (p 5) ≤ 2 * t ∧ bnd (p 2) (p 4) (p 6) + bnd (p 3) (p 5) (p 7) ≤ 2 * t
set_option maxHeartbeats 4000000 in
set_option maxRecDepth 100000 in
theorem mX2_halve2 {g : gX} (V : vM) {r q : Nat} (sr : shp[r]? = some (.inl (0, 8))) (sq : shp[q]? = some (.inl (0, 8))) (hrq : r ≠ q) (hr26 : r ≠ 26) (hq26 : q ≠ 26) (hl : V 26 3 = 2) : MM g jX2_halve V [.ref (g.2.1 26), .ref (g.2.1 r), .ref (g.2.1 q)] (eV (fun U => (∀ i, i < 6 → U r i = hB 2 (V r) i) ∧ (∀ i, i < 6 → U q i = hA 2 (V r) i) ∧ ∀ a i, a ≠ r → a ≠ q → U a i = V a i)) := by
  refine MM.of plX2_halve (Nat.le_of_ble_eq_true rfl) ?_
  obtain ⟨Q, hQ⟩ : ∃ Q : Option Value → vM → Prop, Q = (eV (fun U => (∀ i, i < 6 → U r i = hB 2 (V r) i) ∧ (∀ i, i < 6 → U q i = hA 2 (V r) i) ∧ ∀ a i, a ≠ r → a ≠ q → U a i = V a i)) := ⟨_, rfl⟩
  rw [← hQ]
  show XX g jX2_halve Q V 0 [(0, .ref (g.2.1 26)), (1, .ref (g.2.1 r)), (2, .ref (g.2.1 q))] []
  refine x_aload_n dX2_halve_0 2 rfl ?_
  refine x_iconst (v := 0) dX2_halve_1 (by decide) ?_
  refine x_aload_n dX2_halve_2 1 rfl ?_
  refine x_iconst (v := 0) dX2_halve_3 (by decide) ?_
  have q1 : (0 : Int32) = nI 0 := rfl
  refine YY.S (st' := [.int (nI 0), .ref (g.2.1 r), .int 0, .ref (g.2.1 q)]) (by rw [q1]) ?_
  have b2 : vp_in (nI 0) 8 := by exact vp_in_nI (by omega) (by decide)
  refine x_iald sr b2 dX2_halve_4 ?_
  refine x_topi (y := V r 0) (by rw [nI_clamp (by omega)]) ?_
  have q3 : (0 : Int32) = nI 0 := rfl
  refine YY.S (st' := [.int (V r 0), .int (nI 0), .ref (g.2.1 q)]) (by rw [q3]) ?_
  have b4 : vp_in (nI 0) 8 := by exact vp_in_nI (by omega) (by decide)
  refine x_iast sq b4 dX2_halve_5 ?_
  refine YY.V (V' := uM V q 0 (V r 0)) (by rw [nI_clamp (by omega)]) ?_
  obtain ⟨U5, eU5⟩ : ∃ v_v : vM, v_v = uM V q 0 (V r 0) := ⟨_, rfl⟩
  refine YY.V eU5.symm ?_
  refine x_aload_n dX2_halve_6 2 rfl ?_
  refine x_iconst (v := 1) dX2_halve_7 (by decide) ?_
  refine x_aload_n dX2_halve_8 1 rfl ?_
  refine x_iconst (v := 1) dX2_halve_9 (by decide) ?_
  have q6 : (1 : Int32) = nI 1 := rfl
  refine YY.S (st' := [.int (nI 1), .ref (g.2.1 r), .int 1, .ref (g.2.1 q)]) (by rw [q6]) ?_
  have b7 : vp_in (nI 1) 8 := by exact vp_in_nI (by omega) (by decide)
  refine x_iald sr b7 dX2_halve_10 ?_
  refine x_topi (y := U5 r 1) (by rw [nI_clamp (by omega)]) ?_
  refine x_topi (y := V r 1) (by rw [eU5, uM_na hrq]) ?_
  have q8 : (1 : Int32) = nI 1 := rfl
  refine YY.S (st' := [.int (V r 1), .int (nI 1), .ref (g.2.1 q)]) (by rw [q8]) ?_
  have b9 : vp_in (nI 1) 8 := by exact vp_in_nI (by omega) (by decide)
  refine x_iast sq b9 dX2_halve_11 ?_
  refine YY.V (V' := uM U5 q 1 (V r 1)) (by rw [nI_clamp (by omega)]) ?_
  obtain ⟨U10, eU10⟩ : ∃ v_v : vM, v_v = uM U5 q 1 (V r 1) := ⟨_, rfl⟩
  refine YY.V eU10.symm ?_
  refine x_iconst (v := 1) dX2_halve_12 (by decide) ?_
  refine x_istore_n 3 [(3, .int 1), (0, .ref (g.2.1 26)), (1, .ref (g.2.1 r)), (2, .ref (g.2.1 q))] dX2_halve_13 rfl (by decide) rfl ?_
  refine x_iload_n dX2_halve_14 0 rfl ?_
  refine x_aload_n dX2_halve_15 1 rfl ?_
  refine x_getI fl_X2_24 rfl rfl dX2_halve_16 ?_
  refine x_topi (y := V 26 3) (by rw [eU10, uM_na (Ne.symm hq26), eU5, uM_na (Ne.symm hq26)]) ?_
  refine x_topi (hl) ?_
  refine x_icmp_gt 87 dX2_halve_19 (by decide) (fun c11 => by exfalso; revert c11; decide) (fun c11 => ?_)
  refine x_iconst (v := 0) dX2_halve_22 (by decide) ?_
  refine x_istore 4 [(4, .int 0), (3, .int 1), (0, .ref (g.2.1 26)), (1, .ref (g.2.1 r)), (2, .ref (g.2.1 q))] dX2_halve_23 (by decide) rfl ?_
  refine x_iload dX2_halve_25 0 rfl ?_
  refine x_iconst (v := 2) dX2_halve_27 (by decide) ?_
  refine x_aload_n dX2_halve_28 2 rfl ?_
  refine x_getI fl_X2_24 rfl rfl dX2_halve_29 ?_
  refine x_topi (y := V 26 3) (by rw [eU10, uM_na (Ne.symm hq26), eU5, uM_na (Ne.symm hq26)]) ?_
  refine x_topi (hl) ?_
  refine x_iconst (v := 1) dX2_halve_32 (by decide) ?_
  refine x_iadd dX2_halve_33 ?_
  refine x_topi (y := 3) (by decide) ?_
  refine x_iload_n dX2_halve_34 1 rfl ?_
  refine x_isub dX2_halve_35 ?_
  refine x_topi (y := 2) (by decide) ?_
  refine x_imul dX2_halve_36 ?_
  refine x_topi (y := 4) (by decide) ?_
  refine x_icmp_ge 63 dX2_halve_37 (by decide) (fun c12 => by exfalso; revert c12; decide) (fun c12 => ?_)
  refine x_aload_n dX2_halve_40 3 rfl ?_
  refine x_iload dX2_halve_41 0 rfl ?_
  refine x_aload_n dX2_halve_43 3 rfl ?_
  refine x_iload dX2_halve_44 0 rfl ?_
  have q13 : (0 : Int32) = nI 0 := rfl
  refine YY.S (st' := [.int (nI 0), .ref (g.2.1 r), .int 0, .ref (g.2.1 r)]) (by rw [q13]) ?_
  have b14 : vp_in (nI 0) 8 := by exact vp_in_nI (by omega) (by decide)
  refine x_iald sr b14 dX2_halve_46 ?_
  refine x_topi (y := U10 r 0) (by rw [nI_clamp (by omega)]) ?_
  refine x_topi (y := V r 0) (by rw [eU10, uM_na hrq, eU5, uM_na hrq]) ?_
  refine x_aload_n dX2_halve_47 3 rfl ?_
  refine x_iload dX2_halve_48 0 rfl ?_
  refine x_iconst (v := 2) dX2_halve_50 (by decide) ?_
  refine x_iadd dX2_halve_51 ?_
  refine x_topi (y := 2) (by decide) ?_
  have q15 : (2 : Int32) = nI 2 := rfl
  refine YY.S (st' := [.int (nI 2), .ref (g.2.1 r), .int (V r 0), .int 0, .ref (g.2.1 r)]) (by rw [q15]) ?_
  have b16 : vp_in (nI 2) 8 := by exact vp_in_nI (by omega) (by decide)
  refine x_iald sr b16 dX2_halve_52 ?_
  refine x_topi (y := U10 r 2) (by rw [nI_clamp (by omega)]) ?_
  refine x_topi (y := V r 2) (by rw [eU10, uM_na hrq, eU5, uM_na hrq]) ?_
  refine x_iadd dX2_halve_53 ?_
  refine x_iconst (v := 1) dX2_halve_54 (by decide) ?_
  refine x_ishr dX2_halve_55 ?_
  refine x_topi (y := hmid (V r 0) (V r 2)) rfl ?_
  obtain ⟨x17, ex17⟩ : ∃ v_v : Int32, v_v = hmid (V r 0) (V r 2) := ⟨_, rfl⟩
  refine x_topi ex17.symm ?_
  have q18 : (0 : Int32) = nI 0 := rfl
  refine YY.S (st' := [.int x17, .int (nI 0), .ref (g.2.1 r)]) (by rw [q18]) ?_
  have b19 : vp_in (nI 0) 8 := by exact vp_in_nI (by omega) (by decide)
  refine x_iast sr b19 dX2_halve_56 ?_
  refine YY.V (V' := uM U10 r 0 x17) (by rw [nI_clamp (by omega)]) ?_
  obtain ⟨U20, eU20⟩ : ∃ v_v : vM, v_v = uM U10 r 0 x17 := ⟨_, rfl⟩
  refine YY.V eU20.symm ?_
  refine x_iinc 4 (v := 1) 0 [(4, .int 1), (3, .int 1), (0, .ref (g.2.1 26)), (1, .ref (g.2.1 r)), (2, .ref (g.2.1 q))] dX2_halve_57 rfl (by decide) (by decide) rfl ?_
  refine x_goto 25 dX2_halve_60 (by decide) ?_
  refine x_iload dX2_halve_25 0 rfl ?_
  refine x_iconst (v := 2) dX2_halve_27 (by decide) ?_
  refine x_aload_n dX2_halve_28 2 rfl ?_
  refine x_getI fl_X2_24 rfl rfl dX2_halve_29 ?_
  refine x_topi (y := V 26 3) (by rw [eU20, uM_na (Ne.symm hr26), eU10, uM_na (Ne.symm hq26), eU5, uM_na (Ne.symm hq26)]) ?_
  refine x_topi (hl) ?_
  refine x_iconst (v := 1) dX2_halve_32 (by decide) ?_
  refine x_iadd dX2_halve_33 ?_
  refine x_topi (y := 3) (by decide) ?_
  refine x_iload_n dX2_halve_34 1 rfl ?_
  refine x_isub dX2_halve_35 ?_
  refine x_topi (y := 2) (by decide) ?_
  refine x_imul dX2_halve_36 ?_
  refine x_topi (y := 4) (by decide) ?_
  refine x_icmp_ge 63 dX2_halve_37 (by decide) (fun c21 => by exfalso; revert c21; decide) (fun c21 => ?_)
  refine x_aload_n dX2_halve_40 3 rfl ?_
  refine x_iload dX2_halve_41 0 rfl ?_
  refine x_aload_n dX2_halve_43 3 rfl ?_
  refine x_iload dX2_halve_44 0 rfl ?_
  have q22 : (1 : Int32) = nI 1 := rfl
  refine YY.S (st' := [.int (nI 1), .ref (g.2.1 r), .int 1, .ref (g.2.1 r)]) (by rw [q22]) ?_
  have b23 : vp_in (nI 1) 8 := by exact vp_in_nI (by omega) (by decide)
  refine x_iald sr b23 dX2_halve_46 ?_
  refine x_topi (y := U20 r 1) (by rw [nI_clamp (by omega)]) ?_
  refine x_topi (y := V r 1) (by rw [eU20, uM_ni (by decide), eU10, uM_na hrq, eU5, uM_na hrq]) ?_
  refine x_aload_n dX2_halve_47 3 rfl ?_
  refine x_iload dX2_halve_48 0 rfl ?_
  refine x_iconst (v := 2) dX2_halve_50 (by decide) ?_
  refine x_iadd dX2_halve_51 ?_
  refine x_topi (y := 3) (by decide) ?_
  have q24 : (3 : Int32) = nI 3 := rfl
  refine YY.S (st' := [.int (nI 3), .ref (g.2.1 r), .int (V r 1), .int 1, .ref (g.2.1 r)]) (by rw [q24]) ?_
  have b25 : vp_in (nI 3) 8 := by exact vp_in_nI (by omega) (by decide)
  refine x_iald sr b25 dX2_halve_52 ?_
  refine x_topi (y := U20 r 3) (by rw [nI_clamp (by omega)]) ?_
  refine x_topi (y := V r 3) (by rw [eU20, uM_ni (by decide), eU10, uM_na hrq, eU5, uM_na hrq]) ?_
  refine x_iadd dX2_halve_53 ?_
  refine x_iconst (v := 1) dX2_halve_54 (by decide) ?_
  refine x_ishr dX2_halve_55 ?_
  refine x_topi (y := hmid (V r 1) (V r 3)) rfl ?_
  obtain ⟨x26, ex26⟩ : ∃ v_v : Int32, v_v = hmid (V r 1) (V r 3) := ⟨_, rfl⟩
  refine x_topi ex26.symm ?_
  have q27 : (1 : Int32) = nI 1 := rfl
  refine YY.S (st' := [.int x26, .int (nI 1), .ref (g.2.1 r)]) (by rw [q27]) ?_
  have b28 : vp_in (nI 1) 8 := by exact vp_in_nI (by omega) (by decide)
  refine x_iast sr b28 dX2_halve_56 ?_
  refine YY.V (V' := uM U20 r 1 x26) (by rw [nI_clamp (by omega)]) ?_
  obtain ⟨U29, eU29⟩ : ∃ v_v : vM, v_v = uM U20 r 1 x26 := ⟨_, rfl⟩
  refine YY.V eU29.symm ?_
  refine x_iinc 4 (v := 2) 0 [(4, .int 2), (3, .int 1), (0, .ref (g.2.1 26)), (1, .ref (g.2.1 r)), (2, .ref (g.2.1 q))] dX2_halve_57 rfl (by decide) (by decide) rfl ?_
  refine x_goto 25 dX2_halve_60 (by decide) ?_
  refine x_iload dX2_halve_25 0 rfl ?_
  refine x_iconst (v := 2) dX2_halve_27 (by decide) ?_
  refine x_aload_n dX2_halve_28 2 rfl ?_
  refine x_getI fl_X2_24 rfl rfl dX2_halve_29 ?_
  refine x_topi (y := V 26 3) (by rw [eU29, uM_na (Ne.symm hr26), eU20, uM_na (Ne.symm hr26), eU10, uM_na (Ne.symm hq26), eU5, uM_na (Ne.symm hq26)]) ?_
  refine x_topi (hl) ?_
  refine x_iconst (v := 1) dX2_halve_32 (by decide) ?_
  refine x_iadd dX2_halve_33 ?_
  refine x_topi (y := 3) (by decide) ?_
  refine x_iload_n dX2_halve_34 1 rfl ?_
  refine x_isub dX2_halve_35 ?_
  refine x_topi (y := 2) (by decide) ?_
  refine x_imul dX2_halve_36 ?_
  refine x_topi (y := 4) (by decide) ?_
  refine x_icmp_ge 63 dX2_halve_37 (by decide) (fun c30 => by exfalso; revert c30; decide) (fun c30 => ?_)
  refine x_aload_n dX2_halve_40 3 rfl ?_
  refine x_iload dX2_halve_41 0 rfl ?_
  refine x_aload_n dX2_halve_43 3 rfl ?_
  refine x_iload dX2_halve_44 0 rfl ?_
  have q31 : (2 : Int32) = nI 2 := rfl
  refine YY.S (st' := [.int (nI 2), .ref (g.2.1 r), .int 2, .ref (g.2.1 r)]) (by rw [q31]) ?_
  have b32 : vp_in (nI 2) 8 := by exact vp_in_nI (by omega) (by decide)
  refine x_iald sr b32 dX2_halve_46 ?_
  refine x_topi (y := U29 r 2) (by rw [nI_clamp (by omega)]) ?_
  refine x_topi (y := V r 2) (by rw [eU29, uM_ni (by decide), eU20, uM_ni (by decide), eU10, uM_na hrq, eU5, uM_na hrq]) ?_
  refine x_aload_n dX2_halve_47 3 rfl ?_
  refine x_iload dX2_halve_48 0 rfl ?_
  refine x_iconst (v := 2) dX2_halve_50 (by decide) ?_
  refine x_iadd dX2_halve_51 ?_
  refine x_topi (y := 4) (by decide) ?_
  have q33 : (4 : Int32) = nI 4 := rfl
  refine YY.S (st' := [.int (nI 4), .ref (g.2.1 r), .int (V r 2), .int 2, .ref (g.2.1 r)]) (by rw [q33]) ?_
  have b34 : vp_in (nI 4) 8 := by exact vp_in_nI (by omega) (by decide)
  refine x_iald sr b34 dX2_halve_52 ?_
  refine x_topi (y := U29 r 4) (by rw [nI_clamp (by omega)]) ?_
  refine x_topi (y := V r 4) (by rw [eU29, uM_ni (by decide), eU20, uM_ni (by decide), eU10, uM_na hrq, eU5, uM_na hrq]) ?_
  refine x_iadd dX2_halve_53 ?_
  refine x_iconst (v := 1) dX2_halve_54 (by decide) ?_
  refine x_ishr dX2_halve_55 ?_
  refine x_topi (y := hmid (V r 2) (V r 4)) rfl ?_
  obtain ⟨x35, ex35⟩ : ∃ v_v : Int32, v_v = hmid (V r 2) (V r 4) := ⟨_, rfl⟩
  refine x_topi ex35.symm ?_
  have q36 : (2 : Int32) = nI 2 := rfl
  refine YY.S (st' := [.int x35, .int (nI 2), .ref (g.2.1 r)]) (by rw [q36]) ?_
  have b37 : vp_in (nI 2) 8 := by exact vp_in_nI (by omega) (by decide)
  refine x_iast sr b37 dX2_halve_56 ?_
  refine YY.V (V' := uM U29 r 2 x35) (by rw [nI_clamp (by omega)]) ?_
  obtain ⟨U38, eU38⟩ : ∃ v_v : vM, v_v = uM U29 r 2 x35 := ⟨_, rfl⟩
  refine YY.V eU38.symm ?_
  refine x_iinc 4 (v := 3) 0 [(4, .int 3), (3, .int 1), (0, .ref (g.2.1 26)), (1, .ref (g.2.1 r)), (2, .ref (g.2.1 q))] dX2_halve_57 rfl (by decide) (by decide) rfl ?_
  refine x_goto 25 dX2_halve_60 (by decide) ?_
  refine x_iload dX2_halve_25 0 rfl ?_
  refine x_iconst (v := 2) dX2_halve_27 (by decide) ?_
  refine x_aload_n dX2_halve_28 2 rfl ?_
  refine x_getI fl_X2_24 rfl rfl dX2_halve_29 ?_
  refine x_topi (y := V 26 3) (by rw [eU38, uM_na (Ne.symm hr26), eU29, uM_na (Ne.symm hr26), eU20, uM_na (Ne.symm hr26), eU10, uM_na (Ne.symm hq26), eU5, uM_na (Ne.symm hq26)]) ?_
  refine x_topi (hl) ?_
  refine x_iconst (v := 1) dX2_halve_32 (by decide) ?_
  refine x_iadd dX2_halve_33 ?_
  refine x_topi (y := 3) (by decide) ?_
  refine x_iload_n dX2_halve_34 1 rfl ?_
  refine x_isub dX2_halve_35 ?_
  refine x_topi (y := 2) (by decide) ?_
  refine x_imul dX2_halve_36 ?_
  refine x_topi (y := 4) (by decide) ?_
  refine x_icmp_ge 63 dX2_halve_37 (by decide) (fun c39 => by exfalso; revert c39; decide) (fun c39 => ?_)
  refine x_aload_n dX2_halve_40 3 rfl ?_
  refine x_iload dX2_halve_41 0 rfl ?_
  refine x_aload_n dX2_halve_43 3 rfl ?_
  refine x_iload dX2_halve_44 0 rfl ?_
  have q40 : (3 : Int32) = nI 3 := rfl
  refine YY.S (st' := [.int (nI 3), .ref (g.2.1 r), .int 3, .ref (g.2.1 r)]) (by rw [q40]) ?_
  have b41 : vp_in (nI 3) 8 := by exact vp_in_nI (by omega) (by decide)
  refine x_iald sr b41 dX2_halve_46 ?_
  refine x_topi (y := U38 r 3) (by rw [nI_clamp (by omega)]) ?_
  refine x_topi (y := V r 3) (by rw [eU38, uM_ni (by decide), eU29, uM_ni (by decide), eU20, uM_ni (by decide), eU10, uM_na hrq, eU5, uM_na hrq]) ?_
  refine x_aload_n dX2_halve_47 3 rfl ?_
  refine x_iload dX2_halve_48 0 rfl ?_
  refine x_iconst (v := 2) dX2_halve_50 (by decide) ?_
  refine x_iadd dX2_halve_51 ?_
  refine x_topi (y := 5) (by decide) ?_
  have q42 : (5 : Int32) = nI 5 := rfl
  refine YY.S (st' := [.int (nI 5), .ref (g.2.1 r), .int (V r 3), .int 3, .ref (g.2.1 r)]) (by rw [q42]) ?_
  have b43 : vp_in (nI 5) 8 := by exact vp_in_nI (by omega) (by decide)
  refine x_iald sr b43 dX2_halve_52 ?_
  refine x_topi (y := U38 r 5) (by rw [nI_clamp (by omega)]) ?_
  refine x_topi (y := V r 5) (by rw [eU38, uM_ni (by decide), eU29, uM_ni (by decide), eU20, uM_ni (by decide), eU10, uM_na hrq, eU5, uM_na hrq]) ?_
  refine x_iadd dX2_halve_53 ?_
  refine x_iconst (v := 1) dX2_halve_54 (by decide) ?_
  refine x_ishr dX2_halve_55 ?_
  refine x_topi (y := hmid (V r 3) (V r 5)) rfl ?_
  obtain ⟨x44, ex44⟩ : ∃ v_v : Int32, v_v = hmid (V r 3) (V r 5) := ⟨_, rfl⟩
  refine x_topi ex44.symm ?_
  have q45 : (3 : Int32) = nI 3 := rfl
  refine YY.S (st' := [.int x44, .int (nI 3), .ref (g.2.1 r)]) (by rw [q45]) ?_
  have b46 : vp_in (nI 3) 8 := by exact vp_in_nI (by omega) (by decide)
  refine x_iast sr b46 dX2_halve_56 ?_
  refine YY.V (V' := uM U38 r 3 x44) (by rw [nI_clamp (by omega)]) ?_
  obtain ⟨U47, eU47⟩ : ∃ v_v : vM, v_v = uM U38 r 3 x44 := ⟨_, rfl⟩
  refine YY.V eU47.symm ?_
  refine x_iinc 4 (v := 4) 0 [(4, .int 4), (3, .int 1), (0, .ref (g.2.1 26)), (1, .ref (g.2.1 r)), (2, .ref (g.2.1 q))] dX2_halve_57 rfl (by decide) (by decide) rfl ?_
  refine x_goto 25 dX2_halve_60 (by decide) ?_
  refine x_iload dX2_halve_25 0 rfl ?_
  refine x_iconst (v := 2) dX2_halve_27 (by decide) ?_
  refine x_aload_n dX2_halve_28 2 rfl ?_
  refine x_getI fl_X2_24 rfl rfl dX2_halve_29 ?_
  refine x_topi (y := V 26 3) (by rw [eU47, uM_na (Ne.symm hr26), eU38, uM_na (Ne.symm hr26), eU29, uM_na (Ne.symm hr26), eU20, uM_na (Ne.symm hr26), eU10, uM_na (Ne.symm hq26), eU5, uM_na (Ne.symm hq26)]) ?_
  refine x_topi (hl) ?_
  refine x_iconst (v := 1) dX2_halve_32 (by decide) ?_
  refine x_iadd dX2_halve_33 ?_
  refine x_topi (y := 3) (by decide) ?_
  refine x_iload_n dX2_halve_34 1 rfl ?_
  refine x_isub dX2_halve_35 ?_
  refine x_topi (y := 2) (by decide) ?_
  refine x_imul dX2_halve_36 ?_
  refine x_topi (y := 4) (by decide) ?_
  refine x_icmp_ge 63 dX2_halve_37 (by decide) (fun c48 => ?_) (fun c48 => by exfalso; revert c48; decide)
  refine x_aload_n dX2_halve_63 4 rfl ?_
  refine x_iconst (v := 2) dX2_halve_64 (by decide) ?_
  refine x_iload_n dX2_halve_65 1 rfl ?_
  refine x_imul dX2_halve_66 ?_
  refine x_topi (y := 2) (by decide) ?_
  refine x_aload_n dX2_halve_67 3 rfl ?_
  refine x_iconst (v := 0) dX2_halve_68 (by decide) ?_
  have q49 : (0 : Int32) = nI 0 := rfl
  refine YY.S (st' := [.int (nI 0), .ref (g.2.1 r), .int 2, .ref (g.2.1 q)]) (by rw [q49]) ?_
  have b50 : vp_in (nI 0) 8 := by exact vp_in_nI (by omega) (by decide)
  refine x_iald sr b50 dX2_halve_69 ?_
  refine x_topi (y := U47 r 0) (by rw [nI_clamp (by omega)]) ?_
  refine x_topi (y := x17) (by rw [eU47, uM_ni (by decide), eU38, uM_ni (by decide), eU29, uM_ni (by decide), eU20, uM_hit]) ?_
  have q51 : (2 : Int32) = nI 2 := rfl
  refine YY.S (st' := [.int x17, .int (nI 2), .ref (g.2.1 q)]) (by rw [q51]) ?_
  have b52 : vp_in (nI 2) 8 := by exact vp_in_nI (by omega) (by decide)
  refine x_iast sq b52 dX2_halve_70 ?_
  refine YY.V (V' := uM U47 q 2 x17) (by rw [nI_clamp (by omega)]) ?_
  obtain ⟨U53, eU53⟩ : ∃ v_v : vM, v_v = uM U47 q 2 x17 := ⟨_, rfl⟩
  refine YY.V eU53.symm ?_
  refine x_aload_n dX2_halve_71 4 rfl ?_
  refine x_iconst (v := 2) dX2_halve_72 (by decide) ?_
  refine x_iload_n dX2_halve_73 1 rfl ?_
  refine x_imul dX2_halve_74 ?_
  refine x_topi (y := 2) (by decide) ?_
  refine x_iconst (v := 1) dX2_halve_75 (by decide) ?_
  refine x_iadd dX2_halve_76 ?_
  refine x_topi (y := 3) (by decide) ?_
  refine x_aload_n dX2_halve_77 3 rfl ?_
  refine x_iconst (v := 1) dX2_halve_78 (by decide) ?_
  have q54 : (1 : Int32) = nI 1 := rfl
  refine YY.S (st' := [.int (nI 1), .ref (g.2.1 r), .int 3, .ref (g.2.1 q)]) (by rw [q54]) ?_
  have b55 : vp_in (nI 1) 8 := by exact vp_in_nI (by omega) (by decide)
  refine x_iald sr b55 dX2_halve_79 ?_
  refine x_topi (y := U53 r 1) (by rw [nI_clamp (by omega)]) ?_
  refine x_topi (y := x26) (by rw [eU53, uM_na hrq, eU47, uM_ni (by decide), eU38, uM_ni (by decide), eU29, uM_hit]) ?_
  have q56 : (3 : Int32) = nI 3 := rfl
  refine YY.S (st' := [.int x26, .int (nI 3), .ref (g.2.1 q)]) (by rw [q56]) ?_
  have b57 : vp_in (nI 3) 8 := by exact vp_in_nI (by omega) (by decide)
  refine x_iast sq b57 dX2_halve_80 ?_
  refine YY.V (V' := uM U53 q 3 x26) (by rw [nI_clamp (by omega)]) ?_
  obtain ⟨U58, eU58⟩ : ∃ v_v : vM, v_v = uM U53 q 3 x26 := ⟨_, rfl⟩
  refine YY.V eU58.symm ?_
  refine x_iinc 3 (v := 2) 1 [(3, .int 2), (4, .int 4), (0, .ref (g.2.1 26)), (1, .ref (g.2.1 r)), (2, .ref (g.2.1 q))] dX2_halve_81 rfl (by decide) (by decide) rfl ?_
  refine x_goto 14 dX2_halve_84 (by decide) ?_
  refine x_iload_n dX2_halve_14 0 rfl ?_
  refine x_aload_n dX2_halve_15 2 rfl ?_
  refine x_getI fl_X2_24 rfl rfl dX2_halve_16 ?_
  refine x_topi (y := V 26 3) (by rw [eU58, uM_na (Ne.symm hq26), eU53, uM_na (Ne.symm hq26), eU47, uM_na (Ne.symm hr26), eU38, uM_na (Ne.symm hr26), eU29, uM_na (Ne.symm hr26), eU20, uM_na (Ne.symm hr26), eU10, uM_na (Ne.symm hq26), eU5, uM_na (Ne.symm hq26)]) ?_
  refine x_topi (hl) ?_
  refine x_icmp_gt 87 dX2_halve_19 (by decide) (fun c59 => by exfalso; revert c59; decide) (fun c59 => ?_)
  refine x_iconst (v := 0) dX2_halve_22 (by decide) ?_
  refine x_istore 4 [(4, .int 0), (3, .int 2), (0, .ref (g.2.1 26)), (1, .ref (g.2.1 r)), (2, .ref (g.2.1 q))] dX2_halve_23 (by decide) rfl ?_
  refine x_iload dX2_halve_25 0 rfl ?_
  refine x_iconst (v := 2) dX2_halve_27 (by decide) ?_
  refine x_aload_n dX2_halve_28 2 rfl ?_
  refine x_getI fl_X2_24 rfl rfl dX2_halve_29 ?_
  refine x_topi (y := V 26 3) (by rw [eU58, uM_na (Ne.symm hq26), eU53, uM_na (Ne.symm hq26), eU47, uM_na (Ne.symm hr26), eU38, uM_na (Ne.symm hr26), eU29, uM_na (Ne.symm hr26), eU20, uM_na (Ne.symm hr26), eU10, uM_na (Ne.symm hq26), eU5, uM_na (Ne.symm hq26)]) ?_
  refine x_topi (hl) ?_
  refine x_iconst (v := 1) dX2_halve_32 (by decide) ?_
  refine x_iadd dX2_halve_33 ?_
  refine x_topi (y := 3) (by decide) ?_
  refine x_iload_n dX2_halve_34 1 rfl ?_
  refine x_isub dX2_halve_35 ?_
  refine x_topi (y := 1) (by decide) ?_
  refine x_imul dX2_halve_36 ?_
  refine x_topi (y := 2) (by decide) ?_
  refine x_icmp_ge 63 dX2_halve_37 (by decide) (fun c60 => by exfalso; revert c60; decide) (fun c60 => ?_)
  refine x_aload_n dX2_halve_40 3 rfl ?_
  refine x_iload dX2_halve_41 0 rfl ?_
  refine x_aload_n dX2_halve_43 3 rfl ?_
  refine x_iload dX2_halve_44 0 rfl ?_
  have q61 : (0 : Int32) = nI 0 := rfl
  refine YY.S (st' := [.int (nI 0), .ref (g.2.1 r), .int 0, .ref (g.2.1 r)]) (by rw [q61]) ?_
  have b62 : vp_in (nI 0) 8 := by exact vp_in_nI (by omega) (by decide)
  refine x_iald sr b62 dX2_halve_46 ?_
  refine x_topi (y := U58 r 0) (by rw [nI_clamp (by omega)]) ?_
  refine x_topi (y := x17) (by rw [eU58, uM_na hrq, eU53, uM_na hrq, eU47, uM_ni (by decide), eU38, uM_ni (by decide), eU29, uM_ni (by decide), eU20, uM_hit]) ?_
  refine x_aload_n dX2_halve_47 3 rfl ?_
  refine x_iload dX2_halve_48 0 rfl ?_
  refine x_iconst (v := 2) dX2_halve_50 (by decide) ?_
  refine x_iadd dX2_halve_51 ?_
  refine x_topi (y := 2) (by decide) ?_
  have q63 : (2 : Int32) = nI 2 := rfl
  refine YY.S (st' := [.int (nI 2), .ref (g.2.1 r), .int x17, .int 0, .ref (g.2.1 r)]) (by rw [q63]) ?_
  have b64 : vp_in (nI 2) 8 := by exact vp_in_nI (by omega) (by decide)
  refine x_iald sr b64 dX2_halve_52 ?_
  refine x_topi (y := U58 r 2) (by rw [nI_clamp (by omega)]) ?_
  refine x_topi (y := x35) (by rw [eU58, uM_na hrq, eU53, uM_na hrq, eU47, uM_ni (by decide), eU38, uM_hit]) ?_
  refine x_iadd dX2_halve_53 ?_
  refine x_iconst (v := 1) dX2_halve_54 (by decide) ?_
  refine x_ishr dX2_halve_55 ?_
  refine x_topi (y := hmid x17 x35) rfl ?_
  obtain ⟨x65, ex65⟩ : ∃ v_v : Int32, v_v = hmid x17 x35 := ⟨_, rfl⟩
  refine x_topi ex65.symm ?_
  have q66 : (0 : Int32) = nI 0 := rfl
  refine YY.S (st' := [.int x65, .int (nI 0), .ref (g.2.1 r)]) (by rw [q66]) ?_
  have b67 : vp_in (nI 0) 8 := by exact vp_in_nI (by omega) (by decide)
  refine x_iast sr b67 dX2_halve_56 ?_
  refine YY.V (V' := uM U58 r 0 x65) (by rw [nI_clamp (by omega)]) ?_
  obtain ⟨U68, eU68⟩ : ∃ v_v : vM, v_v = uM U58 r 0 x65 := ⟨_, rfl⟩
  refine YY.V eU68.symm ?_
  refine x_iinc 4 (v := 1) 0 [(4, .int 1), (3, .int 2), (0, .ref (g.2.1 26)), (1, .ref (g.2.1 r)), (2, .ref (g.2.1 q))] dX2_halve_57 rfl (by decide) (by decide) rfl ?_
  refine x_goto 25 dX2_halve_60 (by decide) ?_
  refine x_iload dX2_halve_25 0 rfl ?_
  refine x_iconst (v := 2) dX2_halve_27 (by decide) ?_
  refine x_aload_n dX2_halve_28 2 rfl ?_
  refine x_getI fl_X2_24 rfl rfl dX2_halve_29 ?_
  refine x_topi (y := V 26 3) (by rw [eU68, uM_na (Ne.symm hr26), eU58, uM_na (Ne.symm hq26), eU53, uM_na (Ne.symm hq26), eU47, uM_na (Ne.symm hr26), eU38, uM_na (Ne.symm hr26), eU29, uM_na (Ne.symm hr26), eU20, uM_na (Ne.symm hr26), eU10, uM_na (Ne.symm hq26), eU5, uM_na (Ne.symm hq26)]) ?_
  refine x_topi (hl) ?_
  refine x_iconst (v := 1) dX2_halve_32 (by decide) ?_
  refine x_iadd dX2_halve_33 ?_
  refine x_topi (y := 3) (by decide) ?_
  refine x_iload_n dX2_halve_34 1 rfl ?_
  refine x_isub dX2_halve_35 ?_
  refine x_topi (y := 1) (by decide) ?_
  refine x_imul dX2_halve_36 ?_
  refine x_topi (y := 2) (by decide) ?_
  refine x_icmp_ge 63 dX2_halve_37 (by decide) (fun c69 => by exfalso; revert c69; decide) (fun c69 => ?_)
  refine x_aload_n dX2_halve_40 3 rfl ?_
  refine x_iload dX2_halve_41 0 rfl ?_
  refine x_aload_n dX2_halve_43 3 rfl ?_
  refine x_iload dX2_halve_44 0 rfl ?_
  have q70 : (1 : Int32) = nI 1 := rfl
  refine YY.S (st' := [.int (nI 1), .ref (g.2.1 r), .int 1, .ref (g.2.1 r)]) (by rw [q70]) ?_
  have b71 : vp_in (nI 1) 8 := by exact vp_in_nI (by omega) (by decide)
  refine x_iald sr b71 dX2_halve_46 ?_
  refine x_topi (y := U68 r 1) (by rw [nI_clamp (by omega)]) ?_
  refine x_topi (y := x26) (by rw [eU68, uM_ni (by decide), eU58, uM_na hrq, eU53, uM_na hrq, eU47, uM_ni (by decide), eU38, uM_ni (by decide), eU29, uM_hit]) ?_
  refine x_aload_n dX2_halve_47 3 rfl ?_
  refine x_iload dX2_halve_48 0 rfl ?_
  refine x_iconst (v := 2) dX2_halve_50 (by decide) ?_
  refine x_iadd dX2_halve_51 ?_
  refine x_topi (y := 3) (by decide) ?_
  have q72 : (3 : Int32) = nI 3 := rfl
  refine YY.S (st' := [.int (nI 3), .ref (g.2.1 r), .int x26, .int 1, .ref (g.2.1 r)]) (by rw [q72]) ?_
  have b73 : vp_in (nI 3) 8 := by exact vp_in_nI (by omega) (by decide)
  refine x_iald sr b73 dX2_halve_52 ?_
  refine x_topi (y := U68 r 3) (by rw [nI_clamp (by omega)]) ?_
  refine x_topi (y := x44) (by rw [eU68, uM_ni (by decide), eU58, uM_na hrq, eU53, uM_na hrq, eU47, uM_hit]) ?_
  refine x_iadd dX2_halve_53 ?_
  refine x_iconst (v := 1) dX2_halve_54 (by decide) ?_
  refine x_ishr dX2_halve_55 ?_
  refine x_topi (y := hmid x26 x44) rfl ?_
  obtain ⟨x74, ex74⟩ : ∃ v_v : Int32, v_v = hmid x26 x44 := ⟨_, rfl⟩
  refine x_topi ex74.symm ?_
  have q75 : (1 : Int32) = nI 1 := rfl
  refine YY.S (st' := [.int x74, .int (nI 1), .ref (g.2.1 r)]) (by rw [q75]) ?_
  have b76 : vp_in (nI 1) 8 := by exact vp_in_nI (by omega) (by decide)
  refine x_iast sr b76 dX2_halve_56 ?_
  refine YY.V (V' := uM U68 r 1 x74) (by rw [nI_clamp (by omega)]) ?_
  obtain ⟨U77, eU77⟩ : ∃ v_v : vM, v_v = uM U68 r 1 x74 := ⟨_, rfl⟩
  refine YY.V eU77.symm ?_
  refine x_iinc 4 (v := 2) 0 [(4, .int 2), (3, .int 2), (0, .ref (g.2.1 26)), (1, .ref (g.2.1 r)), (2, .ref (g.2.1 q))] dX2_halve_57 rfl (by decide) (by decide) rfl ?_
  refine x_goto 25 dX2_halve_60 (by decide) ?_
  refine x_iload dX2_halve_25 0 rfl ?_
  refine x_iconst (v := 2) dX2_halve_27 (by decide) ?_
  refine x_aload_n dX2_halve_28 2 rfl ?_
  refine x_getI fl_X2_24 rfl rfl dX2_halve_29 ?_
  refine x_topi (y := V 26 3) (by rw [eU77, uM_na (Ne.symm hr26), eU68, uM_na (Ne.symm hr26), eU58, uM_na (Ne.symm hq26), eU53, uM_na (Ne.symm hq26), eU47, uM_na (Ne.symm hr26), eU38, uM_na (Ne.symm hr26), eU29, uM_na (Ne.symm hr26), eU20, uM_na (Ne.symm hr26), eU10, uM_na (Ne.symm hq26), eU5, uM_na (Ne.symm hq26)]) ?_
  refine x_topi (hl) ?_
  refine x_iconst (v := 1) dX2_halve_32 (by decide) ?_
  refine x_iadd dX2_halve_33 ?_
  refine x_topi (y := 3) (by decide) ?_
  refine x_iload_n dX2_halve_34 1 rfl ?_
  refine x_isub dX2_halve_35 ?_
  refine x_topi (y := 1) (by decide) ?_
  refine x_imul dX2_halve_36 ?_
  refine x_topi (y := 2) (by decide) ?_
  refine x_icmp_ge 63 dX2_halve_37 (by decide) (fun c78 => ?_) (fun c78 => by exfalso; revert c78; decide)
  refine x_aload_n dX2_halve_63 4 rfl ?_
  refine x_iconst (v := 2) dX2_halve_64 (by decide) ?_
  refine x_iload_n dX2_halve_65 1 rfl ?_
  refine x_imul dX2_halve_66 ?_
  refine x_topi (y := 4) (by decide) ?_
  refine x_aload_n dX2_halve_67 3 rfl ?_
  refine x_iconst (v := 0) dX2_halve_68 (by decide) ?_
  have q79 : (0 : Int32) = nI 0 := rfl
  refine YY.S (st' := [.int (nI 0), .ref (g.2.1 r), .int 4, .ref (g.2.1 q)]) (by rw [q79]) ?_
  have b80 : vp_in (nI 0) 8 := by exact vp_in_nI (by omega) (by decide)
  refine x_iald sr b80 dX2_halve_69 ?_
  refine x_topi (y := U77 r 0) (by rw [nI_clamp (by omega)]) ?_
  refine x_topi (y := x65) (by rw [eU77, uM_ni (by decide), eU68, uM_hit]) ?_
  have q81 : (4 : Int32) = nI 4 := rfl
  refine YY.S (st' := [.int x65, .int (nI 4), .ref (g.2.1 q)]) (by rw [q81]) ?_
  have b82 : vp_in (nI 4) 8 := by exact vp_in_nI (by omega) (by decide)
  refine x_iast sq b82 dX2_halve_70 ?_
  refine YY.V (V' := uM U77 q 4 x65) (by rw [nI_clamp (by omega)]) ?_
  obtain ⟨U83, eU83⟩ : ∃ v_v : vM, v_v = uM U77 q 4 x65 := ⟨_, rfl⟩
  refine YY.V eU83.symm ?_
  refine x_aload_n dX2_halve_71 4 rfl ?_
  refine x_iconst (v := 2) dX2_halve_72 (by decide) ?_
  refine x_iload_n dX2_halve_73 1 rfl ?_
  refine x_imul dX2_halve_74 ?_
  refine x_topi (y := 4) (by decide) ?_
  refine x_iconst (v := 1) dX2_halve_75 (by decide) ?_
  refine x_iadd dX2_halve_76 ?_
  refine x_topi (y := 5) (by decide) ?_
  refine x_aload_n dX2_halve_77 3 rfl ?_
  refine x_iconst (v := 1) dX2_halve_78 (by decide) ?_
  have q84 : (1 : Int32) = nI 1 := rfl
  refine YY.S (st' := [.int (nI 1), .ref (g.2.1 r), .int 5, .ref (g.2.1 q)]) (by rw [q84]) ?_
  have b85 : vp_in (nI 1) 8 := by exact vp_in_nI (by omega) (by decide)
  refine x_iald sr b85 dX2_halve_79 ?_
  refine x_topi (y := U83 r 1) (by rw [nI_clamp (by omega)]) ?_
  refine x_topi (y := x74) (by rw [eU83, uM_na hrq, eU77, uM_hit]) ?_
  have q86 : (5 : Int32) = nI 5 := rfl
  refine YY.S (st' := [.int x74, .int (nI 5), .ref (g.2.1 q)]) (by rw [q86]) ?_
  have b87 : vp_in (nI 5) 8 := by exact vp_in_nI (by omega) (by decide)
  refine x_iast sq b87 dX2_halve_80 ?_
  refine YY.V (V' := uM U83 q 5 x74) (by rw [nI_clamp (by omega)]) ?_
  obtain ⟨U88, eU88⟩ : ∃ v_v : vM, v_v = uM U83 q 5 x74 := ⟨_, rfl⟩
  refine YY.V eU88.symm ?_
  refine x_iinc 3 (v := 3) 1 [(3, .int 3), (4, .int 2), (0, .ref (g.2.1 26)), (1, .ref (g.2.1 r)), (2, .ref (g.2.1 q))] dX2_halve_81 rfl (by decide) (by decide) rfl ?_
  refine x_goto 14 dX2_halve_84 (by decide) ?_
  refine x_iload_n dX2_halve_14 0 rfl ?_
  refine x_aload_n dX2_halve_15 2 rfl ?_
  refine x_getI fl_X2_24 rfl rfl dX2_halve_16 ?_
  refine x_topi (y := V 26 3) (by rw [eU88, uM_na (Ne.symm hq26), eU83, uM_na (Ne.symm hq26), eU77, uM_na (Ne.symm hr26), eU68, uM_na (Ne.symm hr26), eU58, uM_na (Ne.symm hq26), eU53, uM_na (Ne.symm hq26), eU47, uM_na (Ne.symm hr26), eU38, uM_na (Ne.symm hr26), eU29, uM_na (Ne.symm hr26), eU20, uM_na (Ne.symm hr26), eU10, uM_na (Ne.symm hq26), eU5, uM_na (Ne.symm hq26)]) ?_
  refine x_topi (hl) ?_
  refine x_icmp_gt 87 dX2_halve_19 (by decide) (fun c89 => ?_) (fun c89 => by exfalso; revert c89; decide)
  refine x_vret dX2_halve_87 rfl ?_
  rw [hQ]
  have fr0 : U88 r 0 = x65 := by rw [eU88, uM_na hrq, eU83, uM_na hrq, eU77, uM_ni (by decide), eU68, uM_hit]
  have fr1 : U88 r 1 = x74 := by rw [eU88, uM_na hrq, eU83, uM_na hrq, eU77, uM_hit]
  have fr2 : U88 r 2 = x35 := by rw [eU88, uM_na hrq, eU83, uM_na hrq, eU77, uM_ni (by decide), eU68, uM_ni (by decide), eU58, uM_na hrq, eU53, uM_na hrq, eU47, uM_ni (by decide), eU38, uM_hit]
  have fr3 : U88 r 3 = x44 := by rw [eU88, uM_na hrq, eU83, uM_na hrq, eU77, uM_ni (by decide), eU68, uM_ni (by decide), eU58, uM_na hrq, eU53, uM_na hrq, eU47, uM_hit]
  have fr4 : U88 r 4 = V r 4 := by rw [eU88, uM_na hrq, eU83, uM_na hrq, eU77, uM_ni (by decide), eU68, uM_ni (by decide), eU58, uM_na hrq, eU53, uM_na hrq, eU47, uM_ni (by decide), eU38, uM_ni (by decide), eU29, uM_ni (by decide), eU20, uM_ni (by decide), eU10, uM_na hrq, eU5, uM_na hrq]
  have fr5 : U88 r 5 = V r 5 := by rw [eU88, uM_na hrq, eU83, uM_na hrq, eU77, uM_ni (by decide), eU68, uM_ni (by decide), eU58, uM_na hrq, eU53, uM_na hrq, eU47, uM_ni (by decide), eU38, uM_ni (by decide), eU29, uM_ni (by decide), eU20, uM_ni (by decide), eU10, uM_na hrq, eU5, uM_na hrq]
  have fq0 : U88 q 0 = V r 0 := by rw [eU88, uM_ni (by decide), eU83, uM_ni (by decide), eU77, uM_na (Ne.symm hrq), eU68, uM_na (Ne.symm hrq), eU58, uM_ni (by decide), eU53, uM_ni (by decide), eU47, uM_na (Ne.symm hrq), eU38, uM_na (Ne.symm hrq), eU29, uM_na (Ne.symm hrq), eU20, uM_na (Ne.symm hrq), eU10, uM_ni (by decide), eU5, uM_hit]
  have fq1 : U88 q 1 = V r 1 := by rw [eU88, uM_ni (by decide), eU83, uM_ni (by decide), eU77, uM_na (Ne.symm hrq), eU68, uM_na (Ne.symm hrq), eU58, uM_ni (by decide), eU53, uM_ni (by decide), eU47, uM_na (Ne.symm hrq), eU38, uM_na (Ne.symm hrq), eU29, uM_na (Ne.symm hrq), eU20, uM_na (Ne.symm hrq), eU10, uM_hit]
  have fq2 : U88 q 2 = x17 := by rw [eU88, uM_ni (by decide), eU83, uM_ni (by decide), eU77, uM_na (Ne.symm hrq), eU68, uM_na (Ne.symm hrq), eU58, uM_ni (by decide), eU53, uM_hit]
  have fq3 : U88 q 3 = x26 := by rw [eU88, uM_ni (by decide), eU83, uM_ni (by decide), eU77, uM_na (Ne.symm hrq), eU68, uM_na (Ne.symm hrq), eU58, uM_hit]
  have fq4 : U88 q 4 = x65 := by rw [eU88, uM_ni (by decide), eU83, uM_hit]
  have fq5 : U88 q 5 = x74 := by rw [eU88, uM_hit]
  have fo : ∀ a i, a ≠ r → a ≠ q → U88 a i = V a i := fun a i n1 n2 => by rw [eU88, uM_na n2, eU83, uM_na n2, eU77, uM_na n1, eU68, uM_na n1, eU58, uM_na n2, eU53, uM_na n2, eU47, uM_na n1, eU38, uM_na n1, eU29, uM_na n1, eU20, uM_na n1, eU10, uM_na n2, eU5, uM_na n2]
  refine ⟨rfl, fun i hi => ?_, fun i hi => ?_, fo⟩
  · have : i = 0 ∨ i = 1 ∨ i = 2 ∨ i = 3 ∨ i = 4 ∨ i = 5 := by omega
    rcases this with rfl | rfl | rfl | rfl | rfl | rfl
    · exact fr0.trans (by first | rfl | (simp only [ex17, ex26, ex35, ex44, ex65, ex74]; rfl))
    · exact fr1.trans (by first | rfl | (simp only [ex17, ex26, ex35, ex44, ex65, ex74]; rfl))
    · exact fr2.trans (by first | rfl | (simp only [ex17, ex26, ex35, ex44, ex65, ex74]; rfl))
    · exact fr3.trans (by first | rfl | (simp only [ex17, ex26, ex35, ex44, ex65, ex74]; rfl))
    · exact fr4.trans (by first | rfl | (simp only [ex17, ex26, ex35, ex44, ex65, ex74]; rfl))
    · exact fr5.trans (by first | rfl | (simp only [ex17, ex26, ex35, ex44, ex65, ex74]; rfl))
  · have : i = 0 ∨ i = 1 ∨ i = 2 ∨ i = 3 ∨ i = 4 ∨ i = 5 := by omega
    rcases this with rfl | rfl | rfl | rfl | rfl | rfl
    · exact fq0.trans (by first | rfl | (simp only [ex17, ex26, ex35, ex44, ex65, ex74]; rfl))
    · exact fq1.trans (by first | rfl | (simp only [ex17, ex26, ex35, ex44, ex65, ex74]; rfl))
    · exact fq2.trans (by first | rfl | (simp only [ex17, ex26, ex35, ex44, ex65, ex74]; rfl))
    · exact fq3.trans (by first | rfl | (simp only [ex17, ex26, ex35, ex44, ex65, ex74]; rfl))
    · exact fq4.trans (by first | rfl | (simp only [ex17, ex26, ex35, ex44, ex65, ex74]; rfl))
    · exact fq5.trans (by first | rfl | (simp only [ex17, ex26, ex35, ex44, ex65, ex74]; rfl))
set_option maxHeartbeats 4000000 in
set_option maxRecDepth 100000 in
theorem mX2_halve3 {g : gX} (V : vM) {r q : Nat} (sr : shp[r]? = some (.inl (0, 8))) (sq : shp[q]? = some (.inl (0, 8))) (hrq : r ≠ q) (hr26 : r ≠ 26) (hq26 : q ≠ 26) (hl : V 26 3 = 3) : MM g jX2_halve V [.ref (g.2.1 26), .ref (g.2.1 r), .ref (g.2.1 q)] (eV (fun U => (∀ i, i < 8 → U r i = hB 3 (V r) i) ∧ (∀ i, i < 8 → U q i = hA 3 (V r) i) ∧ ∀ a i, a ≠ r → a ≠ q → U a i = V a i)) := by
  refine MM.of plX2_halve (Nat.le_of_ble_eq_true rfl) ?_
  obtain ⟨Q, hQ⟩ : ∃ Q : Option Value → vM → Prop, Q = (eV (fun U => (∀ i, i < 8 → U r i = hB 3 (V r) i) ∧ (∀ i, i < 8 → U q i = hA 3 (V r) i) ∧ ∀ a i, a ≠ r → a ≠ q → U a i = V a i)) := ⟨_, rfl⟩
  rw [← hQ]
  show XX g jX2_halve Q V 0 [(0, .ref (g.2.1 26)), (1, .ref (g.2.1 r)), (2, .ref (g.2.1 q))] []
  refine x_aload_n dX2_halve_0 2 rfl ?_
  refine x_iconst (v := 0) dX2_halve_1 (by decide) ?_
  refine x_aload_n dX2_halve_2 1 rfl ?_
  refine x_iconst (v := 0) dX2_halve_3 (by decide) ?_
  have q1 : (0 : Int32) = nI 0 := rfl
  refine YY.S (st' := [.int (nI 0), .ref (g.2.1 r), .int 0, .ref (g.2.1 q)]) (by rw [q1]) ?_
  have b2 : vp_in (nI 0) 8 := by exact vp_in_nI (by omega) (by decide)
  refine x_iald sr b2 dX2_halve_4 ?_
  refine x_topi (y := V r 0) (by rw [nI_clamp (by omega)]) ?_
  have q3 : (0 : Int32) = nI 0 := rfl
  refine YY.S (st' := [.int (V r 0), .int (nI 0), .ref (g.2.1 q)]) (by rw [q3]) ?_
  have b4 : vp_in (nI 0) 8 := by exact vp_in_nI (by omega) (by decide)
  refine x_iast sq b4 dX2_halve_5 ?_
  refine YY.V (V' := uM V q 0 (V r 0)) (by rw [nI_clamp (by omega)]) ?_
  obtain ⟨U5, eU5⟩ : ∃ v_v : vM, v_v = uM V q 0 (V r 0) := ⟨_, rfl⟩
  refine YY.V eU5.symm ?_
  refine x_aload_n dX2_halve_6 2 rfl ?_
  refine x_iconst (v := 1) dX2_halve_7 (by decide) ?_
  refine x_aload_n dX2_halve_8 1 rfl ?_
  refine x_iconst (v := 1) dX2_halve_9 (by decide) ?_
  have q6 : (1 : Int32) = nI 1 := rfl
  refine YY.S (st' := [.int (nI 1), .ref (g.2.1 r), .int 1, .ref (g.2.1 q)]) (by rw [q6]) ?_
  have b7 : vp_in (nI 1) 8 := by exact vp_in_nI (by omega) (by decide)
  refine x_iald sr b7 dX2_halve_10 ?_
  refine x_topi (y := U5 r 1) (by rw [nI_clamp (by omega)]) ?_
  refine x_topi (y := V r 1) (by rw [eU5, uM_na hrq]) ?_
  have q8 : (1 : Int32) = nI 1 := rfl
  refine YY.S (st' := [.int (V r 1), .int (nI 1), .ref (g.2.1 q)]) (by rw [q8]) ?_
  have b9 : vp_in (nI 1) 8 := by exact vp_in_nI (by omega) (by decide)
  refine x_iast sq b9 dX2_halve_11 ?_
  refine YY.V (V' := uM U5 q 1 (V r 1)) (by rw [nI_clamp (by omega)]) ?_
  obtain ⟨U10, eU10⟩ : ∃ v_v : vM, v_v = uM U5 q 1 (V r 1) := ⟨_, rfl⟩
  refine YY.V eU10.symm ?_
  refine x_iconst (v := 1) dX2_halve_12 (by decide) ?_
  refine x_istore_n 3 [(3, .int 1), (0, .ref (g.2.1 26)), (1, .ref (g.2.1 r)), (2, .ref (g.2.1 q))] dX2_halve_13 rfl (by decide) rfl ?_
  refine x_iload_n dX2_halve_14 0 rfl ?_
  refine x_aload_n dX2_halve_15 1 rfl ?_
  refine x_getI fl_X2_24 rfl rfl dX2_halve_16 ?_
  refine x_topi (y := V 26 3) (by rw [eU10, uM_na (Ne.symm hq26), eU5, uM_na (Ne.symm hq26)]) ?_
  refine x_topi (hl) ?_
  refine x_icmp_gt 87 dX2_halve_19 (by decide) (fun c11 => by exfalso; revert c11; decide) (fun c11 => ?_)
  refine x_iconst (v := 0) dX2_halve_22 (by decide) ?_
  refine x_istore 4 [(4, .int 0), (3, .int 1), (0, .ref (g.2.1 26)), (1, .ref (g.2.1 r)), (2, .ref (g.2.1 q))] dX2_halve_23 (by decide) rfl ?_
  refine x_iload dX2_halve_25 0 rfl ?_
  refine x_iconst (v := 2) dX2_halve_27 (by decide) ?_
  refine x_aload_n dX2_halve_28 2 rfl ?_
  refine x_getI fl_X2_24 rfl rfl dX2_halve_29 ?_
  refine x_topi (y := V 26 3) (by rw [eU10, uM_na (Ne.symm hq26), eU5, uM_na (Ne.symm hq26)]) ?_
  refine x_topi (hl) ?_
  refine x_iconst (v := 1) dX2_halve_32 (by decide) ?_
  refine x_iadd dX2_halve_33 ?_
  refine x_topi (y := 4) (by decide) ?_
  refine x_iload_n dX2_halve_34 1 rfl ?_
  refine x_isub dX2_halve_35 ?_
  refine x_topi (y := 3) (by decide) ?_
  refine x_imul dX2_halve_36 ?_
  refine x_topi (y := 6) (by decide) ?_
  refine x_icmp_ge 63 dX2_halve_37 (by decide) (fun c12 => by exfalso; revert c12; decide) (fun c12 => ?_)
  refine x_aload_n dX2_halve_40 3 rfl ?_
  refine x_iload dX2_halve_41 0 rfl ?_
  refine x_aload_n dX2_halve_43 3 rfl ?_
  refine x_iload dX2_halve_44 0 rfl ?_
  have q13 : (0 : Int32) = nI 0 := rfl
  refine YY.S (st' := [.int (nI 0), .ref (g.2.1 r), .int 0, .ref (g.2.1 r)]) (by rw [q13]) ?_
  have b14 : vp_in (nI 0) 8 := by exact vp_in_nI (by omega) (by decide)
  refine x_iald sr b14 dX2_halve_46 ?_
  refine x_topi (y := U10 r 0) (by rw [nI_clamp (by omega)]) ?_
  refine x_topi (y := V r 0) (by rw [eU10, uM_na hrq, eU5, uM_na hrq]) ?_
  refine x_aload_n dX2_halve_47 3 rfl ?_
  refine x_iload dX2_halve_48 0 rfl ?_
  refine x_iconst (v := 2) dX2_halve_50 (by decide) ?_
  refine x_iadd dX2_halve_51 ?_
  refine x_topi (y := 2) (by decide) ?_
  have q15 : (2 : Int32) = nI 2 := rfl
  refine YY.S (st' := [.int (nI 2), .ref (g.2.1 r), .int (V r 0), .int 0, .ref (g.2.1 r)]) (by rw [q15]) ?_
  have b16 : vp_in (nI 2) 8 := by exact vp_in_nI (by omega) (by decide)
  refine x_iald sr b16 dX2_halve_52 ?_
  refine x_topi (y := U10 r 2) (by rw [nI_clamp (by omega)]) ?_
  refine x_topi (y := V r 2) (by rw [eU10, uM_na hrq, eU5, uM_na hrq]) ?_
  refine x_iadd dX2_halve_53 ?_
  refine x_iconst (v := 1) dX2_halve_54 (by decide) ?_
  refine x_ishr dX2_halve_55 ?_
  refine x_topi (y := hmid (V r 0) (V r 2)) rfl ?_
  obtain ⟨x17, ex17⟩ : ∃ v_v : Int32, v_v = hmid (V r 0) (V r 2) := ⟨_, rfl⟩
  refine x_topi ex17.symm ?_
  have q18 : (0 : Int32) = nI 0 := rfl
  refine YY.S (st' := [.int x17, .int (nI 0), .ref (g.2.1 r)]) (by rw [q18]) ?_
  have b19 : vp_in (nI 0) 8 := by exact vp_in_nI (by omega) (by decide)
  refine x_iast sr b19 dX2_halve_56 ?_
  refine YY.V (V' := uM U10 r 0 x17) (by rw [nI_clamp (by omega)]) ?_
  obtain ⟨U20, eU20⟩ : ∃ v_v : vM, v_v = uM U10 r 0 x17 := ⟨_, rfl⟩
  refine YY.V eU20.symm ?_
  refine x_iinc 4 (v := 1) 0 [(4, .int 1), (3, .int 1), (0, .ref (g.2.1 26)), (1, .ref (g.2.1 r)), (2, .ref (g.2.1 q))] dX2_halve_57 rfl (by decide) (by decide) rfl ?_
  refine x_goto 25 dX2_halve_60 (by decide) ?_
  refine x_iload dX2_halve_25 0 rfl ?_
  refine x_iconst (v := 2) dX2_halve_27 (by decide) ?_
  refine x_aload_n dX2_halve_28 2 rfl ?_
  refine x_getI fl_X2_24 rfl rfl dX2_halve_29 ?_
  refine x_topi (y := V 26 3) (by rw [eU20, uM_na (Ne.symm hr26), eU10, uM_na (Ne.symm hq26), eU5, uM_na (Ne.symm hq26)]) ?_
  refine x_topi (hl) ?_
  refine x_iconst (v := 1) dX2_halve_32 (by decide) ?_
  refine x_iadd dX2_halve_33 ?_
  refine x_topi (y := 4) (by decide) ?_
  refine x_iload_n dX2_halve_34 1 rfl ?_
  refine x_isub dX2_halve_35 ?_
  refine x_topi (y := 3) (by decide) ?_
  refine x_imul dX2_halve_36 ?_
  refine x_topi (y := 6) (by decide) ?_
  refine x_icmp_ge 63 dX2_halve_37 (by decide) (fun c21 => by exfalso; revert c21; decide) (fun c21 => ?_)
  refine x_aload_n dX2_halve_40 3 rfl ?_
  refine x_iload dX2_halve_41 0 rfl ?_
  refine x_aload_n dX2_halve_43 3 rfl ?_
  refine x_iload dX2_halve_44 0 rfl ?_
  have q22 : (1 : Int32) = nI 1 := rfl
  refine YY.S (st' := [.int (nI 1), .ref (g.2.1 r), .int 1, .ref (g.2.1 r)]) (by rw [q22]) ?_
  have b23 : vp_in (nI 1) 8 := by exact vp_in_nI (by omega) (by decide)
  refine x_iald sr b23 dX2_halve_46 ?_
  refine x_topi (y := U20 r 1) (by rw [nI_clamp (by omega)]) ?_
  refine x_topi (y := V r 1) (by rw [eU20, uM_ni (by decide), eU10, uM_na hrq, eU5, uM_na hrq]) ?_
  refine x_aload_n dX2_halve_47 3 rfl ?_
  refine x_iload dX2_halve_48 0 rfl ?_
  refine x_iconst (v := 2) dX2_halve_50 (by decide) ?_
  refine x_iadd dX2_halve_51 ?_
  refine x_topi (y := 3) (by decide) ?_
  have q24 : (3 : Int32) = nI 3 := rfl
  refine YY.S (st' := [.int (nI 3), .ref (g.2.1 r), .int (V r 1), .int 1, .ref (g.2.1 r)]) (by rw [q24]) ?_
  have b25 : vp_in (nI 3) 8 := by exact vp_in_nI (by omega) (by decide)
  refine x_iald sr b25 dX2_halve_52 ?_
  refine x_topi (y := U20 r 3) (by rw [nI_clamp (by omega)]) ?_
  refine x_topi (y := V r 3) (by rw [eU20, uM_ni (by decide), eU10, uM_na hrq, eU5, uM_na hrq]) ?_
  refine x_iadd dX2_halve_53 ?_
  refine x_iconst (v := 1) dX2_halve_54 (by decide) ?_
  refine x_ishr dX2_halve_55 ?_
  refine x_topi (y := hmid (V r 1) (V r 3)) rfl ?_
  obtain ⟨x26, ex26⟩ : ∃ v_v : Int32, v_v = hmid (V r 1) (V r 3) := ⟨_, rfl⟩
  refine x_topi ex26.symm ?_
  have q27 : (1 : Int32) = nI 1 := rfl
  refine YY.S (st' := [.int x26, .int (nI 1), .ref (g.2.1 r)]) (by rw [q27]) ?_
  have b28 : vp_in (nI 1) 8 := by exact vp_in_nI (by omega) (by decide)
  refine x_iast sr b28 dX2_halve_56 ?_
  refine YY.V (V' := uM U20 r 1 x26) (by rw [nI_clamp (by omega)]) ?_
  obtain ⟨U29, eU29⟩ : ∃ v_v : vM, v_v = uM U20 r 1 x26 := ⟨_, rfl⟩
  refine YY.V eU29.symm ?_
  refine x_iinc 4 (v := 2) 0 [(4, .int 2), (3, .int 1), (0, .ref (g.2.1 26)), (1, .ref (g.2.1 r)), (2, .ref (g.2.1 q))] dX2_halve_57 rfl (by decide) (by decide) rfl ?_
  refine x_goto 25 dX2_halve_60 (by decide) ?_
  refine x_iload dX2_halve_25 0 rfl ?_
  refine x_iconst (v := 2) dX2_halve_27 (by decide) ?_
  refine x_aload_n dX2_halve_28 2 rfl ?_
  refine x_getI fl_X2_24 rfl rfl dX2_halve_29 ?_
  refine x_topi (y := V 26 3) (by rw [eU29, uM_na (Ne.symm hr26), eU20, uM_na (Ne.symm hr26), eU10, uM_na (Ne.symm hq26), eU5, uM_na (Ne.symm hq26)]) ?_
  refine x_topi (hl) ?_
  refine x_iconst (v := 1) dX2_halve_32 (by decide) ?_
  refine x_iadd dX2_halve_33 ?_
  refine x_topi (y := 4) (by decide) ?_
  refine x_iload_n dX2_halve_34 1 rfl ?_
  refine x_isub dX2_halve_35 ?_
  refine x_topi (y := 3) (by decide) ?_
  refine x_imul dX2_halve_36 ?_
  refine x_topi (y := 6) (by decide) ?_
  refine x_icmp_ge 63 dX2_halve_37 (by decide) (fun c30 => by exfalso; revert c30; decide) (fun c30 => ?_)
  refine x_aload_n dX2_halve_40 3 rfl ?_
  refine x_iload dX2_halve_41 0 rfl ?_
  refine x_aload_n dX2_halve_43 3 rfl ?_
  refine x_iload dX2_halve_44 0 rfl ?_
  have q31 : (2 : Int32) = nI 2 := rfl
  refine YY.S (st' := [.int (nI 2), .ref (g.2.1 r), .int 2, .ref (g.2.1 r)]) (by rw [q31]) ?_
  have b32 : vp_in (nI 2) 8 := by exact vp_in_nI (by omega) (by decide)
  refine x_iald sr b32 dX2_halve_46 ?_
  refine x_topi (y := U29 r 2) (by rw [nI_clamp (by omega)]) ?_
  refine x_topi (y := V r 2) (by rw [eU29, uM_ni (by decide), eU20, uM_ni (by decide), eU10, uM_na hrq, eU5, uM_na hrq]) ?_
  refine x_aload_n dX2_halve_47 3 rfl ?_
  refine x_iload dX2_halve_48 0 rfl ?_
  refine x_iconst (v := 2) dX2_halve_50 (by decide) ?_
  refine x_iadd dX2_halve_51 ?_
  refine x_topi (y := 4) (by decide) ?_
  have q33 : (4 : Int32) = nI 4 := rfl
  refine YY.S (st' := [.int (nI 4), .ref (g.2.1 r), .int (V r 2), .int 2, .ref (g.2.1 r)]) (by rw [q33]) ?_
  have b34 : vp_in (nI 4) 8 := by exact vp_in_nI (by omega) (by decide)
  refine x_iald sr b34 dX2_halve_52 ?_
  refine x_topi (y := U29 r 4) (by rw [nI_clamp (by omega)]) ?_
  refine x_topi (y := V r 4) (by rw [eU29, uM_ni (by decide), eU20, uM_ni (by decide), eU10, uM_na hrq, eU5, uM_na hrq]) ?_
  refine x_iadd dX2_halve_53 ?_
  refine x_iconst (v := 1) dX2_halve_54 (by decide) ?_
  refine x_ishr dX2_halve_55 ?_
  refine x_topi (y := hmid (V r 2) (V r 4)) rfl ?_
  obtain ⟨x35, ex35⟩ : ∃ v_v : Int32, v_v = hmid (V r 2) (V r 4) := ⟨_, rfl⟩
  refine x_topi ex35.symm ?_
  have q36 : (2 : Int32) = nI 2 := rfl
  refine YY.S (st' := [.int x35, .int (nI 2), .ref (g.2.1 r)]) (by rw [q36]) ?_
  have b37 : vp_in (nI 2) 8 := by exact vp_in_nI (by omega) (by decide)
  refine x_iast sr b37 dX2_halve_56 ?_
  refine YY.V (V' := uM U29 r 2 x35) (by rw [nI_clamp (by omega)]) ?_
  obtain ⟨U38, eU38⟩ : ∃ v_v : vM, v_v = uM U29 r 2 x35 := ⟨_, rfl⟩
  refine YY.V eU38.symm ?_
  refine x_iinc 4 (v := 3) 0 [(4, .int 3), (3, .int 1), (0, .ref (g.2.1 26)), (1, .ref (g.2.1 r)), (2, .ref (g.2.1 q))] dX2_halve_57 rfl (by decide) (by decide) rfl ?_
  refine x_goto 25 dX2_halve_60 (by decide) ?_
  refine x_iload dX2_halve_25 0 rfl ?_
  refine x_iconst (v := 2) dX2_halve_27 (by decide) ?_
  refine x_aload_n dX2_halve_28 2 rfl ?_
  refine x_getI fl_X2_24 rfl rfl dX2_halve_29 ?_
  refine x_topi (y := V 26 3) (by rw [eU38, uM_na (Ne.symm hr26), eU29, uM_na (Ne.symm hr26), eU20, uM_na (Ne.symm hr26), eU10, uM_na (Ne.symm hq26), eU5, uM_na (Ne.symm hq26)]) ?_
  refine x_topi (hl) ?_
  refine x_iconst (v := 1) dX2_halve_32 (by decide) ?_
  refine x_iadd dX2_halve_33 ?_
  refine x_topi (y := 4) (by decide) ?_
  refine x_iload_n dX2_halve_34 1 rfl ?_
  refine x_isub dX2_halve_35 ?_
  refine x_topi (y := 3) (by decide) ?_
  refine x_imul dX2_halve_36 ?_
  refine x_topi (y := 6) (by decide) ?_
  refine x_icmp_ge 63 dX2_halve_37 (by decide) (fun c39 => by exfalso; revert c39; decide) (fun c39 => ?_)
  refine x_aload_n dX2_halve_40 3 rfl ?_
  refine x_iload dX2_halve_41 0 rfl ?_
  refine x_aload_n dX2_halve_43 3 rfl ?_
  refine x_iload dX2_halve_44 0 rfl ?_
  have q40 : (3 : Int32) = nI 3 := rfl
  refine YY.S (st' := [.int (nI 3), .ref (g.2.1 r), .int 3, .ref (g.2.1 r)]) (by rw [q40]) ?_
  have b41 : vp_in (nI 3) 8 := by exact vp_in_nI (by omega) (by decide)
  refine x_iald sr b41 dX2_halve_46 ?_
  refine x_topi (y := U38 r 3) (by rw [nI_clamp (by omega)]) ?_
  refine x_topi (y := V r 3) (by rw [eU38, uM_ni (by decide), eU29, uM_ni (by decide), eU20, uM_ni (by decide), eU10, uM_na hrq, eU5, uM_na hrq]) ?_
  refine x_aload_n dX2_halve_47 3 rfl ?_
  refine x_iload dX2_halve_48 0 rfl ?_
  refine x_iconst (v := 2) dX2_halve_50 (by decide) ?_
  refine x_iadd dX2_halve_51 ?_
  refine x_topi (y := 5) (by decide) ?_
  have q42 : (5 : Int32) = nI 5 := rfl
  refine YY.S (st' := [.int (nI 5), .ref (g.2.1 r), .int (V r 3), .int 3, .ref (g.2.1 r)]) (by rw [q42]) ?_
  have b43 : vp_in (nI 5) 8 := by exact vp_in_nI (by omega) (by decide)
  refine x_iald sr b43 dX2_halve_52 ?_
  refine x_topi (y := U38 r 5) (by rw [nI_clamp (by omega)]) ?_
  refine x_topi (y := V r 5) (by rw [eU38, uM_ni (by decide), eU29, uM_ni (by decide), eU20, uM_ni (by decide), eU10, uM_na hrq, eU5, uM_na hrq]) ?_
  refine x_iadd dX2_halve_53 ?_
  refine x_iconst (v := 1) dX2_halve_54 (by decide) ?_
  refine x_ishr dX2_halve_55 ?_
  refine x_topi (y := hmid (V r 3) (V r 5)) rfl ?_
  obtain ⟨x44, ex44⟩ : ∃ v_v : Int32, v_v = hmid (V r 3) (V r 5) := ⟨_, rfl⟩
  refine x_topi ex44.symm ?_
  have q45 : (3 : Int32) = nI 3 := rfl
  refine YY.S (st' := [.int x44, .int (nI 3), .ref (g.2.1 r)]) (by rw [q45]) ?_
  have b46 : vp_in (nI 3) 8 := by exact vp_in_nI (by omega) (by decide)
  refine x_iast sr b46 dX2_halve_56 ?_
  refine YY.V (V' := uM U38 r 3 x44) (by rw [nI_clamp (by omega)]) ?_
  obtain ⟨U47, eU47⟩ : ∃ v_v : vM, v_v = uM U38 r 3 x44 := ⟨_, rfl⟩
  refine YY.V eU47.symm ?_
  refine x_iinc 4 (v := 4) 0 [(4, .int 4), (3, .int 1), (0, .ref (g.2.1 26)), (1, .ref (g.2.1 r)), (2, .ref (g.2.1 q))] dX2_halve_57 rfl (by decide) (by decide) rfl ?_
  refine x_goto 25 dX2_halve_60 (by decide) ?_
  refine x_iload dX2_halve_25 0 rfl ?_
  refine x_iconst (v := 2) dX2_halve_27 (by decide) ?_
  refine x_aload_n dX2_halve_28 2 rfl ?_
  refine x_getI fl_X2_24 rfl rfl dX2_halve_29 ?_
  refine x_topi (y := V 26 3) (by rw [eU47, uM_na (Ne.symm hr26), eU38, uM_na (Ne.symm hr26), eU29, uM_na (Ne.symm hr26), eU20, uM_na (Ne.symm hr26), eU10, uM_na (Ne.symm hq26), eU5, uM_na (Ne.symm hq26)]) ?_
  refine x_topi (hl) ?_
  refine x_iconst (v := 1) dX2_halve_32 (by decide) ?_
  refine x_iadd dX2_halve_33 ?_
  refine x_topi (y := 4) (by decide) ?_
  refine x_iload_n dX2_halve_34 1 rfl ?_
  refine x_isub dX2_halve_35 ?_
  refine x_topi (y := 3) (by decide) ?_
  refine x_imul dX2_halve_36 ?_
  refine x_topi (y := 6) (by decide) ?_
  refine x_icmp_ge 63 dX2_halve_37 (by decide) (fun c48 => by exfalso; revert c48; decide) (fun c48 => ?_)
  refine x_aload_n dX2_halve_40 3 rfl ?_
  refine x_iload dX2_halve_41 0 rfl ?_
  refine x_aload_n dX2_halve_43 3 rfl ?_
  refine x_iload dX2_halve_44 0 rfl ?_
  have q49 : (4 : Int32) = nI 4 := rfl
  refine YY.S (st' := [.int (nI 4), .ref (g.2.1 r), .int 4, .ref (g.2.1 r)]) (by rw [q49]) ?_
  have b50 : vp_in (nI 4) 8 := by exact vp_in_nI (by omega) (by decide)
  refine x_iald sr b50 dX2_halve_46 ?_
  refine x_topi (y := U47 r 4) (by rw [nI_clamp (by omega)]) ?_
  refine x_topi (y := V r 4) (by rw [eU47, uM_ni (by decide), eU38, uM_ni (by decide), eU29, uM_ni (by decide), eU20, uM_ni (by decide), eU10, uM_na hrq, eU5, uM_na hrq]) ?_
  refine x_aload_n dX2_halve_47 3 rfl ?_
  refine x_iload dX2_halve_48 0 rfl ?_
  refine x_iconst (v := 2) dX2_halve_50 (by decide) ?_
  refine x_iadd dX2_halve_51 ?_
  refine x_topi (y := 6) (by decide) ?_
  have q51 : (6 : Int32) = nI 6 := rfl
  refine YY.S (st' := [.int (nI 6), .ref (g.2.1 r), .int (V r 4), .int 4, .ref (g.2.1 r)]) (by rw [q51]) ?_
  have b52 : vp_in (nI 6) 8 := by exact vp_in_nI (by omega) (by decide)
  refine x_iald sr b52 dX2_halve_52 ?_
  refine x_topi (y := U47 r 6) (by rw [nI_clamp (by omega)]) ?_
  refine x_topi (y := V r 6) (by rw [eU47, uM_ni (by decide), eU38, uM_ni (by decide), eU29, uM_ni (by decide), eU20, uM_ni (by decide), eU10, uM_na hrq, eU5, uM_na hrq]) ?_
  refine x_iadd dX2_halve_53 ?_
  refine x_iconst (v := 1) dX2_halve_54 (by decide) ?_
  refine x_ishr dX2_halve_55 ?_
  refine x_topi (y := hmid (V r 4) (V r 6)) rfl ?_
  obtain ⟨x53, ex53⟩ : ∃ v_v : Int32, v_v = hmid (V r 4) (V r 6) := ⟨_, rfl⟩
  refine x_topi ex53.symm ?_
  have q54 : (4 : Int32) = nI 4 := rfl
  refine YY.S (st' := [.int x53, .int (nI 4), .ref (g.2.1 r)]) (by rw [q54]) ?_
  have b55 : vp_in (nI 4) 8 := by exact vp_in_nI (by omega) (by decide)
  refine x_iast sr b55 dX2_halve_56 ?_
  refine YY.V (V' := uM U47 r 4 x53) (by rw [nI_clamp (by omega)]) ?_
  obtain ⟨U56, eU56⟩ : ∃ v_v : vM, v_v = uM U47 r 4 x53 := ⟨_, rfl⟩
  refine YY.V eU56.symm ?_
  refine x_iinc 4 (v := 5) 0 [(4, .int 5), (3, .int 1), (0, .ref (g.2.1 26)), (1, .ref (g.2.1 r)), (2, .ref (g.2.1 q))] dX2_halve_57 rfl (by decide) (by decide) rfl ?_
  refine x_goto 25 dX2_halve_60 (by decide) ?_
  refine x_iload dX2_halve_25 0 rfl ?_
  refine x_iconst (v := 2) dX2_halve_27 (by decide) ?_
  refine x_aload_n dX2_halve_28 2 rfl ?_
  refine x_getI fl_X2_24 rfl rfl dX2_halve_29 ?_
  refine x_topi (y := V 26 3) (by rw [eU56, uM_na (Ne.symm hr26), eU47, uM_na (Ne.symm hr26), eU38, uM_na (Ne.symm hr26), eU29, uM_na (Ne.symm hr26), eU20, uM_na (Ne.symm hr26), eU10, uM_na (Ne.symm hq26), eU5, uM_na (Ne.symm hq26)]) ?_
  refine x_topi (hl) ?_
  refine x_iconst (v := 1) dX2_halve_32 (by decide) ?_
  refine x_iadd dX2_halve_33 ?_
  refine x_topi (y := 4) (by decide) ?_
  refine x_iload_n dX2_halve_34 1 rfl ?_
  refine x_isub dX2_halve_35 ?_
  refine x_topi (y := 3) (by decide) ?_
  refine x_imul dX2_halve_36 ?_
  refine x_topi (y := 6) (by decide) ?_
  refine x_icmp_ge 63 dX2_halve_37 (by decide) (fun c57 => by exfalso; revert c57; decide) (fun c57 => ?_)
  refine x_aload_n dX2_halve_40 3 rfl ?_
  refine x_iload dX2_halve_41 0 rfl ?_
  refine x_aload_n dX2_halve_43 3 rfl ?_
  refine x_iload dX2_halve_44 0 rfl ?_
  have q58 : (5 : Int32) = nI 5 := rfl
  refine YY.S (st' := [.int (nI 5), .ref (g.2.1 r), .int 5, .ref (g.2.1 r)]) (by rw [q58]) ?_
  have b59 : vp_in (nI 5) 8 := by exact vp_in_nI (by omega) (by decide)
  refine x_iald sr b59 dX2_halve_46 ?_
  refine x_topi (y := U56 r 5) (by rw [nI_clamp (by omega)]) ?_
  refine x_topi (y := V r 5) (by rw [eU56, uM_ni (by decide), eU47, uM_ni (by decide), eU38, uM_ni (by decide), eU29, uM_ni (by decide), eU20, uM_ni (by decide), eU10, uM_na hrq, eU5, uM_na hrq]) ?_
  refine x_aload_n dX2_halve_47 3 rfl ?_
  refine x_iload dX2_halve_48 0 rfl ?_
  refine x_iconst (v := 2) dX2_halve_50 (by decide) ?_
  refine x_iadd dX2_halve_51 ?_
  refine x_topi (y := 7) (by decide) ?_
  have q60 : (7 : Int32) = nI 7 := rfl
  refine YY.S (st' := [.int (nI 7), .ref (g.2.1 r), .int (V r 5), .int 5, .ref (g.2.1 r)]) (by rw [q60]) ?_
  have b61 : vp_in (nI 7) 8 := by exact vp_in_nI (by omega) (by decide)
  refine x_iald sr b61 dX2_halve_52 ?_
  refine x_topi (y := U56 r 7) (by rw [nI_clamp (by omega)]) ?_
  refine x_topi (y := V r 7) (by rw [eU56, uM_ni (by decide), eU47, uM_ni (by decide), eU38, uM_ni (by decide), eU29, uM_ni (by decide), eU20, uM_ni (by decide), eU10, uM_na hrq, eU5, uM_na hrq]) ?_
  refine x_iadd dX2_halve_53 ?_
  refine x_iconst (v := 1) dX2_halve_54 (by decide) ?_
  refine x_ishr dX2_halve_55 ?_
  refine x_topi (y := hmid (V r 5) (V r 7)) rfl ?_
  obtain ⟨x62, ex62⟩ : ∃ v_v : Int32, v_v = hmid (V r 5) (V r 7) := ⟨_, rfl⟩
  refine x_topi ex62.symm ?_
  have q63 : (5 : Int32) = nI 5 := rfl
  refine YY.S (st' := [.int x62, .int (nI 5), .ref (g.2.1 r)]) (by rw [q63]) ?_
  have b64 : vp_in (nI 5) 8 := by exact vp_in_nI (by omega) (by decide)
  refine x_iast sr b64 dX2_halve_56 ?_
  refine YY.V (V' := uM U56 r 5 x62) (by rw [nI_clamp (by omega)]) ?_
  obtain ⟨U65, eU65⟩ : ∃ v_v : vM, v_v = uM U56 r 5 x62 := ⟨_, rfl⟩
  refine YY.V eU65.symm ?_
  refine x_iinc 4 (v := 6) 0 [(4, .int 6), (3, .int 1), (0, .ref (g.2.1 26)), (1, .ref (g.2.1 r)), (2, .ref (g.2.1 q))] dX2_halve_57 rfl (by decide) (by decide) rfl ?_
  refine x_goto 25 dX2_halve_60 (by decide) ?_
  refine x_iload dX2_halve_25 0 rfl ?_
  refine x_iconst (v := 2) dX2_halve_27 (by decide) ?_
  refine x_aload_n dX2_halve_28 2 rfl ?_
  refine x_getI fl_X2_24 rfl rfl dX2_halve_29 ?_
  refine x_topi (y := V 26 3) (by rw [eU65, uM_na (Ne.symm hr26), eU56, uM_na (Ne.symm hr26), eU47, uM_na (Ne.symm hr26), eU38, uM_na (Ne.symm hr26), eU29, uM_na (Ne.symm hr26), eU20, uM_na (Ne.symm hr26), eU10, uM_na (Ne.symm hq26), eU5, uM_na (Ne.symm hq26)]) ?_
  refine x_topi (hl) ?_
  refine x_iconst (v := 1) dX2_halve_32 (by decide) ?_
  refine x_iadd dX2_halve_33 ?_
  refine x_topi (y := 4) (by decide) ?_
  refine x_iload_n dX2_halve_34 1 rfl ?_
  refine x_isub dX2_halve_35 ?_
  refine x_topi (y := 3) (by decide) ?_
  refine x_imul dX2_halve_36 ?_
  refine x_topi (y := 6) (by decide) ?_
  refine x_icmp_ge 63 dX2_halve_37 (by decide) (fun c66 => ?_) (fun c66 => by exfalso; revert c66; decide)
  refine x_aload_n dX2_halve_63 4 rfl ?_
  refine x_iconst (v := 2) dX2_halve_64 (by decide) ?_
  refine x_iload_n dX2_halve_65 1 rfl ?_
  refine x_imul dX2_halve_66 ?_
  refine x_topi (y := 2) (by decide) ?_
  refine x_aload_n dX2_halve_67 3 rfl ?_
  refine x_iconst (v := 0) dX2_halve_68 (by decide) ?_
  have q67 : (0 : Int32) = nI 0 := rfl
  refine YY.S (st' := [.int (nI 0), .ref (g.2.1 r), .int 2, .ref (g.2.1 q)]) (by rw [q67]) ?_
  have b68 : vp_in (nI 0) 8 := by exact vp_in_nI (by omega) (by decide)
  refine x_iald sr b68 dX2_halve_69 ?_
  refine x_topi (y := U65 r 0) (by rw [nI_clamp (by omega)]) ?_
  refine x_topi (y := x17) (by rw [eU65, uM_ni (by decide), eU56, uM_ni (by decide), eU47, uM_ni (by decide), eU38, uM_ni (by decide), eU29, uM_ni (by decide), eU20, uM_hit]) ?_
  have q69 : (2 : Int32) = nI 2 := rfl
  refine YY.S (st' := [.int x17, .int (nI 2), .ref (g.2.1 q)]) (by rw [q69]) ?_
  have b70 : vp_in (nI 2) 8 := by exact vp_in_nI (by omega) (by decide)
  refine x_iast sq b70 dX2_halve_70 ?_
  refine YY.V (V' := uM U65 q 2 x17) (by rw [nI_clamp (by omega)]) ?_
  obtain ⟨U71, eU71⟩ : ∃ v_v : vM, v_v = uM U65 q 2 x17 := ⟨_, rfl⟩
  refine YY.V eU71.symm ?_
  refine x_aload_n dX2_halve_71 4 rfl ?_
  refine x_iconst (v := 2) dX2_halve_72 (by decide) ?_
  refine x_iload_n dX2_halve_73 1 rfl ?_
  refine x_imul dX2_halve_74 ?_
  refine x_topi (y := 2) (by decide) ?_
  refine x_iconst (v := 1) dX2_halve_75 (by decide) ?_
  refine x_iadd dX2_halve_76 ?_
  refine x_topi (y := 3) (by decide) ?_
  refine x_aload_n dX2_halve_77 3 rfl ?_
  refine x_iconst (v := 1) dX2_halve_78 (by decide) ?_
  have q72 : (1 : Int32) = nI 1 := rfl
  refine YY.S (st' := [.int (nI 1), .ref (g.2.1 r), .int 3, .ref (g.2.1 q)]) (by rw [q72]) ?_
  have b73 : vp_in (nI 1) 8 := by exact vp_in_nI (by omega) (by decide)
  refine x_iald sr b73 dX2_halve_79 ?_
  refine x_topi (y := U71 r 1) (by rw [nI_clamp (by omega)]) ?_
  refine x_topi (y := x26) (by rw [eU71, uM_na hrq, eU65, uM_ni (by decide), eU56, uM_ni (by decide), eU47, uM_ni (by decide), eU38, uM_ni (by decide), eU29, uM_hit]) ?_
  have q74 : (3 : Int32) = nI 3 := rfl
  refine YY.S (st' := [.int x26, .int (nI 3), .ref (g.2.1 q)]) (by rw [q74]) ?_
  have b75 : vp_in (nI 3) 8 := by exact vp_in_nI (by omega) (by decide)
  refine x_iast sq b75 dX2_halve_80 ?_
  refine YY.V (V' := uM U71 q 3 x26) (by rw [nI_clamp (by omega)]) ?_
  obtain ⟨U76, eU76⟩ : ∃ v_v : vM, v_v = uM U71 q 3 x26 := ⟨_, rfl⟩
  refine YY.V eU76.symm ?_
  refine x_iinc 3 (v := 2) 1 [(3, .int 2), (4, .int 6), (0, .ref (g.2.1 26)), (1, .ref (g.2.1 r)), (2, .ref (g.2.1 q))] dX2_halve_81 rfl (by decide) (by decide) rfl ?_
  refine x_goto 14 dX2_halve_84 (by decide) ?_
  refine x_iload_n dX2_halve_14 0 rfl ?_
  refine x_aload_n dX2_halve_15 2 rfl ?_
  refine x_getI fl_X2_24 rfl rfl dX2_halve_16 ?_
  refine x_topi (y := V 26 3) (by rw [eU76, uM_na (Ne.symm hq26), eU71, uM_na (Ne.symm hq26), eU65, uM_na (Ne.symm hr26), eU56, uM_na (Ne.symm hr26), eU47, uM_na (Ne.symm hr26), eU38, uM_na (Ne.symm hr26), eU29, uM_na (Ne.symm hr26), eU20, uM_na (Ne.symm hr26), eU10, uM_na (Ne.symm hq26), eU5, uM_na (Ne.symm hq26)]) ?_
  refine x_topi (hl) ?_
  refine x_icmp_gt 87 dX2_halve_19 (by decide) (fun c77 => by exfalso; revert c77; decide) (fun c77 => ?_)
  refine x_iconst (v := 0) dX2_halve_22 (by decide) ?_
  refine x_istore 4 [(4, .int 0), (3, .int 2), (0, .ref (g.2.1 26)), (1, .ref (g.2.1 r)), (2, .ref (g.2.1 q))] dX2_halve_23 (by decide) rfl ?_
  refine x_iload dX2_halve_25 0 rfl ?_
  refine x_iconst (v := 2) dX2_halve_27 (by decide) ?_
  refine x_aload_n dX2_halve_28 2 rfl ?_
  refine x_getI fl_X2_24 rfl rfl dX2_halve_29 ?_
  refine x_topi (y := V 26 3) (by rw [eU76, uM_na (Ne.symm hq26), eU71, uM_na (Ne.symm hq26), eU65, uM_na (Ne.symm hr26), eU56, uM_na (Ne.symm hr26), eU47, uM_na (Ne.symm hr26), eU38, uM_na (Ne.symm hr26), eU29, uM_na (Ne.symm hr26), eU20, uM_na (Ne.symm hr26), eU10, uM_na (Ne.symm hq26), eU5, uM_na (Ne.symm hq26)]) ?_
  refine x_topi (hl) ?_
  refine x_iconst (v := 1) dX2_halve_32 (by decide) ?_
  refine x_iadd dX2_halve_33 ?_
  refine x_topi (y := 4) (by decide) ?_
  refine x_iload_n dX2_halve_34 1 rfl ?_
  refine x_isub dX2_halve_35 ?_
  refine x_topi (y := 2) (by decide) ?_
  refine x_imul dX2_halve_36 ?_
  refine x_topi (y := 4) (by decide) ?_
  refine x_icmp_ge 63 dX2_halve_37 (by decide) (fun c78 => by exfalso; revert c78; decide) (fun c78 => ?_)
  refine x_aload_n dX2_halve_40 3 rfl ?_
  refine x_iload dX2_halve_41 0 rfl ?_
  refine x_aload_n dX2_halve_43 3 rfl ?_
  refine x_iload dX2_halve_44 0 rfl ?_
  have q79 : (0 : Int32) = nI 0 := rfl
  refine YY.S (st' := [.int (nI 0), .ref (g.2.1 r), .int 0, .ref (g.2.1 r)]) (by rw [q79]) ?_
  have b80 : vp_in (nI 0) 8 := by exact vp_in_nI (by omega) (by decide)
  refine x_iald sr b80 dX2_halve_46 ?_
  refine x_topi (y := U76 r 0) (by rw [nI_clamp (by omega)]) ?_
  refine x_topi (y := x17) (by rw [eU76, uM_na hrq, eU71, uM_na hrq, eU65, uM_ni (by decide), eU56, uM_ni (by decide), eU47, uM_ni (by decide), eU38, uM_ni (by decide), eU29, uM_ni (by decide), eU20, uM_hit]) ?_
  refine x_aload_n dX2_halve_47 3 rfl ?_
  refine x_iload dX2_halve_48 0 rfl ?_
  refine x_iconst (v := 2) dX2_halve_50 (by decide) ?_
  refine x_iadd dX2_halve_51 ?_
  refine x_topi (y := 2) (by decide) ?_
  have q81 : (2 : Int32) = nI 2 := rfl
  refine YY.S (st' := [.int (nI 2), .ref (g.2.1 r), .int x17, .int 0, .ref (g.2.1 r)]) (by rw [q81]) ?_
  have b82 : vp_in (nI 2) 8 := by exact vp_in_nI (by omega) (by decide)
  refine x_iald sr b82 dX2_halve_52 ?_
  refine x_topi (y := U76 r 2) (by rw [nI_clamp (by omega)]) ?_
  refine x_topi (y := x35) (by rw [eU76, uM_na hrq, eU71, uM_na hrq, eU65, uM_ni (by decide), eU56, uM_ni (by decide), eU47, uM_ni (by decide), eU38, uM_hit]) ?_
  refine x_iadd dX2_halve_53 ?_
  refine x_iconst (v := 1) dX2_halve_54 (by decide) ?_
  refine x_ishr dX2_halve_55 ?_
  refine x_topi (y := hmid x17 x35) rfl ?_
  obtain ⟨x83, ex83⟩ : ∃ v_v : Int32, v_v = hmid x17 x35 := ⟨_, rfl⟩
  refine x_topi ex83.symm ?_
  have q84 : (0 : Int32) = nI 0 := rfl
  refine YY.S (st' := [.int x83, .int (nI 0), .ref (g.2.1 r)]) (by rw [q84]) ?_
  have b85 : vp_in (nI 0) 8 := by exact vp_in_nI (by omega) (by decide)
  refine x_iast sr b85 dX2_halve_56 ?_
  refine YY.V (V' := uM U76 r 0 x83) (by rw [nI_clamp (by omega)]) ?_
  obtain ⟨U86, eU86⟩ : ∃ v_v : vM, v_v = uM U76 r 0 x83 := ⟨_, rfl⟩
  refine YY.V eU86.symm ?_
  refine x_iinc 4 (v := 1) 0 [(4, .int 1), (3, .int 2), (0, .ref (g.2.1 26)), (1, .ref (g.2.1 r)), (2, .ref (g.2.1 q))] dX2_halve_57 rfl (by decide) (by decide) rfl ?_
  refine x_goto 25 dX2_halve_60 (by decide) ?_
  refine x_iload dX2_halve_25 0 rfl ?_
  refine x_iconst (v := 2) dX2_halve_27 (by decide) ?_
  refine x_aload_n dX2_halve_28 2 rfl ?_
  refine x_getI fl_X2_24 rfl rfl dX2_halve_29 ?_
  refine x_topi (y := V 26 3) (by rw [eU86, uM_na (Ne.symm hr26), eU76, uM_na (Ne.symm hq26), eU71, uM_na (Ne.symm hq26), eU65, uM_na (Ne.symm hr26), eU56, uM_na (Ne.symm hr26), eU47, uM_na (Ne.symm hr26), eU38, uM_na (Ne.symm hr26), eU29, uM_na (Ne.symm hr26), eU20, uM_na (Ne.symm hr26), eU10, uM_na (Ne.symm hq26), eU5, uM_na (Ne.symm hq26)]) ?_
  refine x_topi (hl) ?_
  refine x_iconst (v := 1) dX2_halve_32 (by decide) ?_
  refine x_iadd dX2_halve_33 ?_
  refine x_topi (y := 4) (by decide) ?_
  refine x_iload_n dX2_halve_34 1 rfl ?_
  refine x_isub dX2_halve_35 ?_
  refine x_topi (y := 2) (by decide) ?_
  refine x_imul dX2_halve_36 ?_
  refine x_topi (y := 4) (by decide) ?_
  refine x_icmp_ge 63 dX2_halve_37 (by decide) (fun c87 => by exfalso; revert c87; decide) (fun c87 => ?_)
  refine x_aload_n dX2_halve_40 3 rfl ?_
  refine x_iload dX2_halve_41 0 rfl ?_
  refine x_aload_n dX2_halve_43 3 rfl ?_
  refine x_iload dX2_halve_44 0 rfl ?_
  have q88 : (1 : Int32) = nI 1 := rfl
  refine YY.S (st' := [.int (nI 1), .ref (g.2.1 r), .int 1, .ref (g.2.1 r)]) (by rw [q88]) ?_
  have b89 : vp_in (nI 1) 8 := by exact vp_in_nI (by omega) (by decide)
  refine x_iald sr b89 dX2_halve_46 ?_
  refine x_topi (y := U86 r 1) (by rw [nI_clamp (by omega)]) ?_
  refine x_topi (y := x26) (by rw [eU86, uM_ni (by decide), eU76, uM_na hrq, eU71, uM_na hrq, eU65, uM_ni (by decide), eU56, uM_ni (by decide), eU47, uM_ni (by decide), eU38, uM_ni (by decide), eU29, uM_hit]) ?_
  refine x_aload_n dX2_halve_47 3 rfl ?_
  refine x_iload dX2_halve_48 0 rfl ?_
  refine x_iconst (v := 2) dX2_halve_50 (by decide) ?_
  refine x_iadd dX2_halve_51 ?_
  refine x_topi (y := 3) (by decide) ?_
  have q90 : (3 : Int32) = nI 3 := rfl
  refine YY.S (st' := [.int (nI 3), .ref (g.2.1 r), .int x26, .int 1, .ref (g.2.1 r)]) (by rw [q90]) ?_
  have b91 : vp_in (nI 3) 8 := by exact vp_in_nI (by omega) (by decide)
  refine x_iald sr b91 dX2_halve_52 ?_
  refine x_topi (y := U86 r 3) (by rw [nI_clamp (by omega)]) ?_
  refine x_topi (y := x44) (by rw [eU86, uM_ni (by decide), eU76, uM_na hrq, eU71, uM_na hrq, eU65, uM_ni (by decide), eU56, uM_ni (by decide), eU47, uM_hit]) ?_
  refine x_iadd dX2_halve_53 ?_
  refine x_iconst (v := 1) dX2_halve_54 (by decide) ?_
  refine x_ishr dX2_halve_55 ?_
  refine x_topi (y := hmid x26 x44) rfl ?_
  obtain ⟨x92, ex92⟩ : ∃ v_v : Int32, v_v = hmid x26 x44 := ⟨_, rfl⟩
  refine x_topi ex92.symm ?_
  have q93 : (1 : Int32) = nI 1 := rfl
  refine YY.S (st' := [.int x92, .int (nI 1), .ref (g.2.1 r)]) (by rw [q93]) ?_
  have b94 : vp_in (nI 1) 8 := by exact vp_in_nI (by omega) (by decide)
  refine x_iast sr b94 dX2_halve_56 ?_
  refine YY.V (V' := uM U86 r 1 x92) (by rw [nI_clamp (by omega)]) ?_
  obtain ⟨U95, eU95⟩ : ∃ v_v : vM, v_v = uM U86 r 1 x92 := ⟨_, rfl⟩
  refine YY.V eU95.symm ?_
  refine x_iinc 4 (v := 2) 0 [(4, .int 2), (3, .int 2), (0, .ref (g.2.1 26)), (1, .ref (g.2.1 r)), (2, .ref (g.2.1 q))] dX2_halve_57 rfl (by decide) (by decide) rfl ?_
  refine x_goto 25 dX2_halve_60 (by decide) ?_
  refine x_iload dX2_halve_25 0 rfl ?_
  refine x_iconst (v := 2) dX2_halve_27 (by decide) ?_
  refine x_aload_n dX2_halve_28 2 rfl ?_
  refine x_getI fl_X2_24 rfl rfl dX2_halve_29 ?_
  refine x_topi (y := V 26 3) (by rw [eU95, uM_na (Ne.symm hr26), eU86, uM_na (Ne.symm hr26), eU76, uM_na (Ne.symm hq26), eU71, uM_na (Ne.symm hq26), eU65, uM_na (Ne.symm hr26), eU56, uM_na (Ne.symm hr26), eU47, uM_na (Ne.symm hr26), eU38, uM_na (Ne.symm hr26), eU29, uM_na (Ne.symm hr26), eU20, uM_na (Ne.symm hr26), eU10, uM_na (Ne.symm hq26), eU5, uM_na (Ne.symm hq26)]) ?_
  refine x_topi (hl) ?_
  refine x_iconst (v := 1) dX2_halve_32 (by decide) ?_
  refine x_iadd dX2_halve_33 ?_
  refine x_topi (y := 4) (by decide) ?_
  refine x_iload_n dX2_halve_34 1 rfl ?_
  refine x_isub dX2_halve_35 ?_
  refine x_topi (y := 2) (by decide) ?_
  refine x_imul dX2_halve_36 ?_
  refine x_topi (y := 4) (by decide) ?_
  refine x_icmp_ge 63 dX2_halve_37 (by decide) (fun c96 => by exfalso; revert c96; decide) (fun c96 => ?_)
  refine x_aload_n dX2_halve_40 3 rfl ?_
  refine x_iload dX2_halve_41 0 rfl ?_
  refine x_aload_n dX2_halve_43 3 rfl ?_
  refine x_iload dX2_halve_44 0 rfl ?_
  have q97 : (2 : Int32) = nI 2 := rfl
  refine YY.S (st' := [.int (nI 2), .ref (g.2.1 r), .int 2, .ref (g.2.1 r)]) (by rw [q97]) ?_
  have b98 : vp_in (nI 2) 8 := by exact vp_in_nI (by omega) (by decide)
  refine x_iald sr b98 dX2_halve_46 ?_
  refine x_topi (y := U95 r 2) (by rw [nI_clamp (by omega)]) ?_
  refine x_topi (y := x35) (by rw [eU95, uM_ni (by decide), eU86, uM_ni (by decide), eU76, uM_na hrq, eU71, uM_na hrq, eU65, uM_ni (by decide), eU56, uM_ni (by decide), eU47, uM_ni (by decide), eU38, uM_hit]) ?_
  refine x_aload_n dX2_halve_47 3 rfl ?_
  refine x_iload dX2_halve_48 0 rfl ?_
  refine x_iconst (v := 2) dX2_halve_50 (by decide) ?_
  refine x_iadd dX2_halve_51 ?_
  refine x_topi (y := 4) (by decide) ?_
  have q99 : (4 : Int32) = nI 4 := rfl
  refine YY.S (st' := [.int (nI 4), .ref (g.2.1 r), .int x35, .int 2, .ref (g.2.1 r)]) (by rw [q99]) ?_
  have b100 : vp_in (nI 4) 8 := by exact vp_in_nI (by omega) (by decide)
  refine x_iald sr b100 dX2_halve_52 ?_
  refine x_topi (y := U95 r 4) (by rw [nI_clamp (by omega)]) ?_
  refine x_topi (y := x53) (by rw [eU95, uM_ni (by decide), eU86, uM_ni (by decide), eU76, uM_na hrq, eU71, uM_na hrq, eU65, uM_ni (by decide), eU56, uM_hit]) ?_
  refine x_iadd dX2_halve_53 ?_
  refine x_iconst (v := 1) dX2_halve_54 (by decide) ?_
  refine x_ishr dX2_halve_55 ?_
  refine x_topi (y := hmid x35 x53) rfl ?_
  obtain ⟨x101, ex101⟩ : ∃ v_v : Int32, v_v = hmid x35 x53 := ⟨_, rfl⟩
  refine x_topi ex101.symm ?_
  have q102 : (2 : Int32) = nI 2 := rfl
  refine YY.S (st' := [.int x101, .int (nI 2), .ref (g.2.1 r)]) (by rw [q102]) ?_
  have b103 : vp_in (nI 2) 8 := by exact vp_in_nI (by omega) (by decide)
  refine x_iast sr b103 dX2_halve_56 ?_
  refine YY.V (V' := uM U95 r 2 x101) (by rw [nI_clamp (by omega)]) ?_
  obtain ⟨U104, eU104⟩ : ∃ v_v : vM, v_v = uM U95 r 2 x101 := ⟨_, rfl⟩
  refine YY.V eU104.symm ?_
  refine x_iinc 4 (v := 3) 0 [(4, .int 3), (3, .int 2), (0, .ref (g.2.1 26)), (1, .ref (g.2.1 r)), (2, .ref (g.2.1 q))] dX2_halve_57 rfl (by decide) (by decide) rfl ?_
  refine x_goto 25 dX2_halve_60 (by decide) ?_
  refine x_iload dX2_halve_25 0 rfl ?_
  refine x_iconst (v := 2) dX2_halve_27 (by decide) ?_
  refine x_aload_n dX2_halve_28 2 rfl ?_
  refine x_getI fl_X2_24 rfl rfl dX2_halve_29 ?_
  refine x_topi (y := V 26 3) (by rw [eU104, uM_na (Ne.symm hr26), eU95, uM_na (Ne.symm hr26), eU86, uM_na (Ne.symm hr26), eU76, uM_na (Ne.symm hq26), eU71, uM_na (Ne.symm hq26), eU65, uM_na (Ne.symm hr26), eU56, uM_na (Ne.symm hr26), eU47, uM_na (Ne.symm hr26), eU38, uM_na (Ne.symm hr26), eU29, uM_na (Ne.symm hr26), eU20, uM_na (Ne.symm hr26), eU10, uM_na (Ne.symm hq26), eU5, uM_na (Ne.symm hq26)]) ?_
  refine x_topi (hl) ?_
  refine x_iconst (v := 1) dX2_halve_32 (by decide) ?_
  refine x_iadd dX2_halve_33 ?_
  refine x_topi (y := 4) (by decide) ?_
  refine x_iload_n dX2_halve_34 1 rfl ?_
  refine x_isub dX2_halve_35 ?_
  refine x_topi (y := 2) (by decide) ?_
  refine x_imul dX2_halve_36 ?_
  refine x_topi (y := 4) (by decide) ?_
  refine x_icmp_ge 63 dX2_halve_37 (by decide) (fun c105 => by exfalso; revert c105; decide) (fun c105 => ?_)
  refine x_aload_n dX2_halve_40 3 rfl ?_
  refine x_iload dX2_halve_41 0 rfl ?_
  refine x_aload_n dX2_halve_43 3 rfl ?_
  refine x_iload dX2_halve_44 0 rfl ?_
  have q106 : (3 : Int32) = nI 3 := rfl
  refine YY.S (st' := [.int (nI 3), .ref (g.2.1 r), .int 3, .ref (g.2.1 r)]) (by rw [q106]) ?_
  have b107 : vp_in (nI 3) 8 := by exact vp_in_nI (by omega) (by decide)
  refine x_iald sr b107 dX2_halve_46 ?_
  refine x_topi (y := U104 r 3) (by rw [nI_clamp (by omega)]) ?_
  refine x_topi (y := x44) (by rw [eU104, uM_ni (by decide), eU95, uM_ni (by decide), eU86, uM_ni (by decide), eU76, uM_na hrq, eU71, uM_na hrq, eU65, uM_ni (by decide), eU56, uM_ni (by decide), eU47, uM_hit]) ?_
  refine x_aload_n dX2_halve_47 3 rfl ?_
  refine x_iload dX2_halve_48 0 rfl ?_
  refine x_iconst (v := 2) dX2_halve_50 (by decide) ?_
  refine x_iadd dX2_halve_51 ?_
  refine x_topi (y := 5) (by decide) ?_
  have q108 : (5 : Int32) = nI 5 := rfl
  refine YY.S (st' := [.int (nI 5), .ref (g.2.1 r), .int x44, .int 3, .ref (g.2.1 r)]) (by rw [q108]) ?_
  have b109 : vp_in (nI 5) 8 := by exact vp_in_nI (by omega) (by decide)
  refine x_iald sr b109 dX2_halve_52 ?_
  refine x_topi (y := U104 r 5) (by rw [nI_clamp (by omega)]) ?_
  refine x_topi (y := x62) (by rw [eU104, uM_ni (by decide), eU95, uM_ni (by decide), eU86, uM_ni (by decide), eU76, uM_na hrq, eU71, uM_na hrq, eU65, uM_hit]) ?_
  refine x_iadd dX2_halve_53 ?_
  refine x_iconst (v := 1) dX2_halve_54 (by decide) ?_
  refine x_ishr dX2_halve_55 ?_
  refine x_topi (y := hmid x44 x62) rfl ?_
  obtain ⟨x110, ex110⟩ : ∃ v_v : Int32, v_v = hmid x44 x62 := ⟨_, rfl⟩
  refine x_topi ex110.symm ?_
  have q111 : (3 : Int32) = nI 3 := rfl
  refine YY.S (st' := [.int x110, .int (nI 3), .ref (g.2.1 r)]) (by rw [q111]) ?_
  have b112 : vp_in (nI 3) 8 := by exact vp_in_nI (by omega) (by decide)
  refine x_iast sr b112 dX2_halve_56 ?_
  refine YY.V (V' := uM U104 r 3 x110) (by rw [nI_clamp (by omega)]) ?_
  obtain ⟨U113, eU113⟩ : ∃ v_v : vM, v_v = uM U104 r 3 x110 := ⟨_, rfl⟩
  refine YY.V eU113.symm ?_
  refine x_iinc 4 (v := 4) 0 [(4, .int 4), (3, .int 2), (0, .ref (g.2.1 26)), (1, .ref (g.2.1 r)), (2, .ref (g.2.1 q))] dX2_halve_57 rfl (by decide) (by decide) rfl ?_
  refine x_goto 25 dX2_halve_60 (by decide) ?_
  refine x_iload dX2_halve_25 0 rfl ?_
  refine x_iconst (v := 2) dX2_halve_27 (by decide) ?_
  refine x_aload_n dX2_halve_28 2 rfl ?_
  refine x_getI fl_X2_24 rfl rfl dX2_halve_29 ?_
  refine x_topi (y := V 26 3) (by rw [eU113, uM_na (Ne.symm hr26), eU104, uM_na (Ne.symm hr26), eU95, uM_na (Ne.symm hr26), eU86, uM_na (Ne.symm hr26), eU76, uM_na (Ne.symm hq26), eU71, uM_na (Ne.symm hq26), eU65, uM_na (Ne.symm hr26), eU56, uM_na (Ne.symm hr26), eU47, uM_na (Ne.symm hr26), eU38, uM_na (Ne.symm hr26), eU29, uM_na (Ne.symm hr26), eU20, uM_na (Ne.symm hr26), eU10, uM_na (Ne.symm hq26), eU5, uM_na (Ne.symm hq26)]) ?_
  refine x_topi (hl) ?_
  refine x_iconst (v := 1) dX2_halve_32 (by decide) ?_
  refine x_iadd dX2_halve_33 ?_
  refine x_topi (y := 4) (by decide) ?_
  refine x_iload_n dX2_halve_34 1 rfl ?_
  refine x_isub dX2_halve_35 ?_
  refine x_topi (y := 2) (by decide) ?_
  refine x_imul dX2_halve_36 ?_
  refine x_topi (y := 4) (by decide) ?_
  refine x_icmp_ge 63 dX2_halve_37 (by decide) (fun c114 => ?_) (fun c114 => by exfalso; revert c114; decide)
  refine x_aload_n dX2_halve_63 4 rfl ?_
  refine x_iconst (v := 2) dX2_halve_64 (by decide) ?_
  refine x_iload_n dX2_halve_65 1 rfl ?_
  refine x_imul dX2_halve_66 ?_
  refine x_topi (y := 4) (by decide) ?_
  refine x_aload_n dX2_halve_67 3 rfl ?_
  refine x_iconst (v := 0) dX2_halve_68 (by decide) ?_
  have q115 : (0 : Int32) = nI 0 := rfl
  refine YY.S (st' := [.int (nI 0), .ref (g.2.1 r), .int 4, .ref (g.2.1 q)]) (by rw [q115]) ?_
  have b116 : vp_in (nI 0) 8 := by exact vp_in_nI (by omega) (by decide)
  refine x_iald sr b116 dX2_halve_69 ?_
  refine x_topi (y := U113 r 0) (by rw [nI_clamp (by omega)]) ?_
  refine x_topi (y := x83) (by rw [eU113, uM_ni (by decide), eU104, uM_ni (by decide), eU95, uM_ni (by decide), eU86, uM_hit]) ?_
  have q117 : (4 : Int32) = nI 4 := rfl
  refine YY.S (st' := [.int x83, .int (nI 4), .ref (g.2.1 q)]) (by rw [q117]) ?_
  have b118 : vp_in (nI 4) 8 := by exact vp_in_nI (by omega) (by decide)
  refine x_iast sq b118 dX2_halve_70 ?_
  refine YY.V (V' := uM U113 q 4 x83) (by rw [nI_clamp (by omega)]) ?_
  obtain ⟨U119, eU119⟩ : ∃ v_v : vM, v_v = uM U113 q 4 x83 := ⟨_, rfl⟩
  refine YY.V eU119.symm ?_
  refine x_aload_n dX2_halve_71 4 rfl ?_
  refine x_iconst (v := 2) dX2_halve_72 (by decide) ?_
  refine x_iload_n dX2_halve_73 1 rfl ?_
  refine x_imul dX2_halve_74 ?_
  refine x_topi (y := 4) (by decide) ?_
  refine x_iconst (v := 1) dX2_halve_75 (by decide) ?_
  refine x_iadd dX2_halve_76 ?_
  refine x_topi (y := 5) (by decide) ?_
  refine x_aload_n dX2_halve_77 3 rfl ?_
  refine x_iconst (v := 1) dX2_halve_78 (by decide) ?_
  have q120 : (1 : Int32) = nI 1 := rfl
  refine YY.S (st' := [.int (nI 1), .ref (g.2.1 r), .int 5, .ref (g.2.1 q)]) (by rw [q120]) ?_
  have b121 : vp_in (nI 1) 8 := by exact vp_in_nI (by omega) (by decide)
  refine x_iald sr b121 dX2_halve_79 ?_
  refine x_topi (y := U119 r 1) (by rw [nI_clamp (by omega)]) ?_
  refine x_topi (y := x92) (by rw [eU119, uM_na hrq, eU113, uM_ni (by decide), eU104, uM_ni (by decide), eU95, uM_hit]) ?_
  have q122 : (5 : Int32) = nI 5 := rfl
  refine YY.S (st' := [.int x92, .int (nI 5), .ref (g.2.1 q)]) (by rw [q122]) ?_
  have b123 : vp_in (nI 5) 8 := by exact vp_in_nI (by omega) (by decide)
  refine x_iast sq b123 dX2_halve_80 ?_
  refine YY.V (V' := uM U119 q 5 x92) (by rw [nI_clamp (by omega)]) ?_
  obtain ⟨U124, eU124⟩ : ∃ v_v : vM, v_v = uM U119 q 5 x92 := ⟨_, rfl⟩
  refine YY.V eU124.symm ?_
  refine x_iinc 3 (v := 3) 1 [(3, .int 3), (4, .int 4), (0, .ref (g.2.1 26)), (1, .ref (g.2.1 r)), (2, .ref (g.2.1 q))] dX2_halve_81 rfl (by decide) (by decide) rfl ?_
  refine x_goto 14 dX2_halve_84 (by decide) ?_
  refine x_iload_n dX2_halve_14 0 rfl ?_
  refine x_aload_n dX2_halve_15 2 rfl ?_
  refine x_getI fl_X2_24 rfl rfl dX2_halve_16 ?_
  refine x_topi (y := V 26 3) (by rw [eU124, uM_na (Ne.symm hq26), eU119, uM_na (Ne.symm hq26), eU113, uM_na (Ne.symm hr26), eU104, uM_na (Ne.symm hr26), eU95, uM_na (Ne.symm hr26), eU86, uM_na (Ne.symm hr26), eU76, uM_na (Ne.symm hq26), eU71, uM_na (Ne.symm hq26), eU65, uM_na (Ne.symm hr26), eU56, uM_na (Ne.symm hr26), eU47, uM_na (Ne.symm hr26), eU38, uM_na (Ne.symm hr26), eU29, uM_na (Ne.symm hr26), eU20, uM_na (Ne.symm hr26), eU10, uM_na (Ne.symm hq26), eU5, uM_na (Ne.symm hq26)]) ?_
  refine x_topi (hl) ?_
  refine x_icmp_gt 87 dX2_halve_19 (by decide) (fun c125 => by exfalso; revert c125; decide) (fun c125 => ?_)
  refine x_iconst (v := 0) dX2_halve_22 (by decide) ?_
  refine x_istore 4 [(4, .int 0), (3, .int 3), (0, .ref (g.2.1 26)), (1, .ref (g.2.1 r)), (2, .ref (g.2.1 q))] dX2_halve_23 (by decide) rfl ?_
  refine x_iload dX2_halve_25 0 rfl ?_
  refine x_iconst (v := 2) dX2_halve_27 (by decide) ?_
  refine x_aload_n dX2_halve_28 2 rfl ?_
  refine x_getI fl_X2_24 rfl rfl dX2_halve_29 ?_
  refine x_topi (y := V 26 3) (by rw [eU124, uM_na (Ne.symm hq26), eU119, uM_na (Ne.symm hq26), eU113, uM_na (Ne.symm hr26), eU104, uM_na (Ne.symm hr26), eU95, uM_na (Ne.symm hr26), eU86, uM_na (Ne.symm hr26), eU76, uM_na (Ne.symm hq26), eU71, uM_na (Ne.symm hq26), eU65, uM_na (Ne.symm hr26), eU56, uM_na (Ne.symm hr26), eU47, uM_na (Ne.symm hr26), eU38, uM_na (Ne.symm hr26), eU29, uM_na (Ne.symm hr26), eU20, uM_na (Ne.symm hr26), eU10, uM_na (Ne.symm hq26), eU5, uM_na (Ne.symm hq26)]) ?_
  refine x_topi (hl) ?_
  refine x_iconst (v := 1) dX2_halve_32 (by decide) ?_
  refine x_iadd dX2_halve_33 ?_
  refine x_topi (y := 4) (by decide) ?_
  refine x_iload_n dX2_halve_34 1 rfl ?_
  refine x_isub dX2_halve_35 ?_
  refine x_topi (y := 1) (by decide) ?_
  refine x_imul dX2_halve_36 ?_
  refine x_topi (y := 2) (by decide) ?_
  refine x_icmp_ge 63 dX2_halve_37 (by decide) (fun c126 => by exfalso; revert c126; decide) (fun c126 => ?_)
  refine x_aload_n dX2_halve_40 3 rfl ?_
  refine x_iload dX2_halve_41 0 rfl ?_
  refine x_aload_n dX2_halve_43 3 rfl ?_
  refine x_iload dX2_halve_44 0 rfl ?_
  have q127 : (0 : Int32) = nI 0 := rfl
  refine YY.S (st' := [.int (nI 0), .ref (g.2.1 r), .int 0, .ref (g.2.1 r)]) (by rw [q127]) ?_
  have b128 : vp_in (nI 0) 8 := by exact vp_in_nI (by omega) (by decide)
  refine x_iald sr b128 dX2_halve_46 ?_
  refine x_topi (y := U124 r 0) (by rw [nI_clamp (by omega)]) ?_
  refine x_topi (y := x83) (by rw [eU124, uM_na hrq, eU119, uM_na hrq, eU113, uM_ni (by decide), eU104, uM_ni (by decide), eU95, uM_ni (by decide), eU86, uM_hit]) ?_
  refine x_aload_n dX2_halve_47 3 rfl ?_
  refine x_iload dX2_halve_48 0 rfl ?_
  refine x_iconst (v := 2) dX2_halve_50 (by decide) ?_
  refine x_iadd dX2_halve_51 ?_
  refine x_topi (y := 2) (by decide) ?_
  have q129 : (2 : Int32) = nI 2 := rfl
  refine YY.S (st' := [.int (nI 2), .ref (g.2.1 r), .int x83, .int 0, .ref (g.2.1 r)]) (by rw [q129]) ?_
  have b130 : vp_in (nI 2) 8 := by exact vp_in_nI (by omega) (by decide)
  refine x_iald sr b130 dX2_halve_52 ?_
  refine x_topi (y := U124 r 2) (by rw [nI_clamp (by omega)]) ?_
  refine x_topi (y := x101) (by rw [eU124, uM_na hrq, eU119, uM_na hrq, eU113, uM_ni (by decide), eU104, uM_hit]) ?_
  refine x_iadd dX2_halve_53 ?_
  refine x_iconst (v := 1) dX2_halve_54 (by decide) ?_
  refine x_ishr dX2_halve_55 ?_
  refine x_topi (y := hmid x83 x101) rfl ?_
  obtain ⟨x131, ex131⟩ : ∃ v_v : Int32, v_v = hmid x83 x101 := ⟨_, rfl⟩
  refine x_topi ex131.symm ?_
  have q132 : (0 : Int32) = nI 0 := rfl
  refine YY.S (st' := [.int x131, .int (nI 0), .ref (g.2.1 r)]) (by rw [q132]) ?_
  have b133 : vp_in (nI 0) 8 := by exact vp_in_nI (by omega) (by decide)
  refine x_iast sr b133 dX2_halve_56 ?_
  refine YY.V (V' := uM U124 r 0 x131) (by rw [nI_clamp (by omega)]) ?_
  obtain ⟨U134, eU134⟩ : ∃ v_v : vM, v_v = uM U124 r 0 x131 := ⟨_, rfl⟩
  refine YY.V eU134.symm ?_
  refine x_iinc 4 (v := 1) 0 [(4, .int 1), (3, .int 3), (0, .ref (g.2.1 26)), (1, .ref (g.2.1 r)), (2, .ref (g.2.1 q))] dX2_halve_57 rfl (by decide) (by decide) rfl ?_
  refine x_goto 25 dX2_halve_60 (by decide) ?_
  refine x_iload dX2_halve_25 0 rfl ?_
  refine x_iconst (v := 2) dX2_halve_27 (by decide) ?_
  refine x_aload_n dX2_halve_28 2 rfl ?_
  refine x_getI fl_X2_24 rfl rfl dX2_halve_29 ?_
  refine x_topi (y := V 26 3) (by rw [eU134, uM_na (Ne.symm hr26), eU124, uM_na (Ne.symm hq26), eU119, uM_na (Ne.symm hq26), eU113, uM_na (Ne.symm hr26), eU104, uM_na (Ne.symm hr26), eU95, uM_na (Ne.symm hr26), eU86, uM_na (Ne.symm hr26), eU76, uM_na (Ne.symm hq26), eU71, uM_na (Ne.symm hq26), eU65, uM_na (Ne.symm hr26), eU56, uM_na (Ne.symm hr26), eU47, uM_na (Ne.symm hr26), eU38, uM_na (Ne.symm hr26), eU29, uM_na (Ne.symm hr26), eU20, uM_na (Ne.symm hr26), eU10, uM_na (Ne.symm hq26), eU5, uM_na (Ne.symm hq26)]) ?_
  refine x_topi (hl) ?_
  refine x_iconst (v := 1) dX2_halve_32 (by decide) ?_
  refine x_iadd dX2_halve_33 ?_
  refine x_topi (y := 4) (by decide) ?_
  refine x_iload_n dX2_halve_34 1 rfl ?_
  refine x_isub dX2_halve_35 ?_
  refine x_topi (y := 1) (by decide) ?_
  refine x_imul dX2_halve_36 ?_
  refine x_topi (y := 2) (by decide) ?_
  refine x_icmp_ge 63 dX2_halve_37 (by decide) (fun c135 => by exfalso; revert c135; decide) (fun c135 => ?_)
  refine x_aload_n dX2_halve_40 3 rfl ?_
  refine x_iload dX2_halve_41 0 rfl ?_
  refine x_aload_n dX2_halve_43 3 rfl ?_
  refine x_iload dX2_halve_44 0 rfl ?_
  have q136 : (1 : Int32) = nI 1 := rfl
  refine YY.S (st' := [.int (nI 1), .ref (g.2.1 r), .int 1, .ref (g.2.1 r)]) (by rw [q136]) ?_
  have b137 : vp_in (nI 1) 8 := by exact vp_in_nI (by omega) (by decide)
  refine x_iald sr b137 dX2_halve_46 ?_
  refine x_topi (y := U134 r 1) (by rw [nI_clamp (by omega)]) ?_
  refine x_topi (y := x92) (by rw [eU134, uM_ni (by decide), eU124, uM_na hrq, eU119, uM_na hrq, eU113, uM_ni (by decide), eU104, uM_ni (by decide), eU95, uM_hit]) ?_
  refine x_aload_n dX2_halve_47 3 rfl ?_
  refine x_iload dX2_halve_48 0 rfl ?_
  refine x_iconst (v := 2) dX2_halve_50 (by decide) ?_
  refine x_iadd dX2_halve_51 ?_
  refine x_topi (y := 3) (by decide) ?_
  have q138 : (3 : Int32) = nI 3 := rfl
  refine YY.S (st' := [.int (nI 3), .ref (g.2.1 r), .int x92, .int 1, .ref (g.2.1 r)]) (by rw [q138]) ?_
  have b139 : vp_in (nI 3) 8 := by exact vp_in_nI (by omega) (by decide)
  refine x_iald sr b139 dX2_halve_52 ?_
  refine x_topi (y := U134 r 3) (by rw [nI_clamp (by omega)]) ?_
  refine x_topi (y := x110) (by rw [eU134, uM_ni (by decide), eU124, uM_na hrq, eU119, uM_na hrq, eU113, uM_hit]) ?_
  refine x_iadd dX2_halve_53 ?_
  refine x_iconst (v := 1) dX2_halve_54 (by decide) ?_
  refine x_ishr dX2_halve_55 ?_
  refine x_topi (y := hmid x92 x110) rfl ?_
  obtain ⟨x140, ex140⟩ : ∃ v_v : Int32, v_v = hmid x92 x110 := ⟨_, rfl⟩
  refine x_topi ex140.symm ?_
  have q141 : (1 : Int32) = nI 1 := rfl
  refine YY.S (st' := [.int x140, .int (nI 1), .ref (g.2.1 r)]) (by rw [q141]) ?_
  have b142 : vp_in (nI 1) 8 := by exact vp_in_nI (by omega) (by decide)
  refine x_iast sr b142 dX2_halve_56 ?_
  refine YY.V (V' := uM U134 r 1 x140) (by rw [nI_clamp (by omega)]) ?_
  obtain ⟨U143, eU143⟩ : ∃ v_v : vM, v_v = uM U134 r 1 x140 := ⟨_, rfl⟩
  refine YY.V eU143.symm ?_
  refine x_iinc 4 (v := 2) 0 [(4, .int 2), (3, .int 3), (0, .ref (g.2.1 26)), (1, .ref (g.2.1 r)), (2, .ref (g.2.1 q))] dX2_halve_57 rfl (by decide) (by decide) rfl ?_
  refine x_goto 25 dX2_halve_60 (by decide) ?_
  refine x_iload dX2_halve_25 0 rfl ?_
  refine x_iconst (v := 2) dX2_halve_27 (by decide) ?_
  refine x_aload_n dX2_halve_28 2 rfl ?_
  refine x_getI fl_X2_24 rfl rfl dX2_halve_29 ?_
  refine x_topi (y := V 26 3) (by rw [eU143, uM_na (Ne.symm hr26), eU134, uM_na (Ne.symm hr26), eU124, uM_na (Ne.symm hq26), eU119, uM_na (Ne.symm hq26), eU113, uM_na (Ne.symm hr26), eU104, uM_na (Ne.symm hr26), eU95, uM_na (Ne.symm hr26), eU86, uM_na (Ne.symm hr26), eU76, uM_na (Ne.symm hq26), eU71, uM_na (Ne.symm hq26), eU65, uM_na (Ne.symm hr26), eU56, uM_na (Ne.symm hr26), eU47, uM_na (Ne.symm hr26), eU38, uM_na (Ne.symm hr26), eU29, uM_na (Ne.symm hr26), eU20, uM_na (Ne.symm hr26), eU10, uM_na (Ne.symm hq26), eU5, uM_na (Ne.symm hq26)]) ?_
  refine x_topi (hl) ?_
  refine x_iconst (v := 1) dX2_halve_32 (by decide) ?_
  refine x_iadd dX2_halve_33 ?_
  refine x_topi (y := 4) (by decide) ?_
  refine x_iload_n dX2_halve_34 1 rfl ?_
  refine x_isub dX2_halve_35 ?_
  refine x_topi (y := 1) (by decide) ?_
  refine x_imul dX2_halve_36 ?_
  refine x_topi (y := 2) (by decide) ?_
  refine x_icmp_ge 63 dX2_halve_37 (by decide) (fun c144 => ?_) (fun c144 => by exfalso; revert c144; decide)
  refine x_aload_n dX2_halve_63 4 rfl ?_
  refine x_iconst (v := 2) dX2_halve_64 (by decide) ?_
  refine x_iload_n dX2_halve_65 1 rfl ?_
  refine x_imul dX2_halve_66 ?_
  refine x_topi (y := 6) (by decide) ?_
  refine x_aload_n dX2_halve_67 3 rfl ?_
  refine x_iconst (v := 0) dX2_halve_68 (by decide) ?_
  have q145 : (0 : Int32) = nI 0 := rfl
  refine YY.S (st' := [.int (nI 0), .ref (g.2.1 r), .int 6, .ref (g.2.1 q)]) (by rw [q145]) ?_
  have b146 : vp_in (nI 0) 8 := by exact vp_in_nI (by omega) (by decide)
  refine x_iald sr b146 dX2_halve_69 ?_
  refine x_topi (y := U143 r 0) (by rw [nI_clamp (by omega)]) ?_
  refine x_topi (y := x131) (by rw [eU143, uM_ni (by decide), eU134, uM_hit]) ?_
  have q147 : (6 : Int32) = nI 6 := rfl
  refine YY.S (st' := [.int x131, .int (nI 6), .ref (g.2.1 q)]) (by rw [q147]) ?_
  have b148 : vp_in (nI 6) 8 := by exact vp_in_nI (by omega) (by decide)
  refine x_iast sq b148 dX2_halve_70 ?_
  refine YY.V (V' := uM U143 q 6 x131) (by rw [nI_clamp (by omega)]) ?_
  obtain ⟨U149, eU149⟩ : ∃ v_v : vM, v_v = uM U143 q 6 x131 := ⟨_, rfl⟩
  refine YY.V eU149.symm ?_
  refine x_aload_n dX2_halve_71 4 rfl ?_
  refine x_iconst (v := 2) dX2_halve_72 (by decide) ?_
  refine x_iload_n dX2_halve_73 1 rfl ?_
  refine x_imul dX2_halve_74 ?_
  refine x_topi (y := 6) (by decide) ?_
  refine x_iconst (v := 1) dX2_halve_75 (by decide) ?_
  refine x_iadd dX2_halve_76 ?_
  refine x_topi (y := 7) (by decide) ?_
  refine x_aload_n dX2_halve_77 3 rfl ?_
  refine x_iconst (v := 1) dX2_halve_78 (by decide) ?_
  have q150 : (1 : Int32) = nI 1 := rfl
  refine YY.S (st' := [.int (nI 1), .ref (g.2.1 r), .int 7, .ref (g.2.1 q)]) (by rw [q150]) ?_
  have b151 : vp_in (nI 1) 8 := by exact vp_in_nI (by omega) (by decide)
  refine x_iald sr b151 dX2_halve_79 ?_
  refine x_topi (y := U149 r 1) (by rw [nI_clamp (by omega)]) ?_
  refine x_topi (y := x140) (by rw [eU149, uM_na hrq, eU143, uM_hit]) ?_
  have q152 : (7 : Int32) = nI 7 := rfl
  refine YY.S (st' := [.int x140, .int (nI 7), .ref (g.2.1 q)]) (by rw [q152]) ?_
  have b153 : vp_in (nI 7) 8 := by exact vp_in_nI (by omega) (by decide)
  refine x_iast sq b153 dX2_halve_80 ?_
  refine YY.V (V' := uM U149 q 7 x140) (by rw [nI_clamp (by omega)]) ?_
  obtain ⟨U154, eU154⟩ : ∃ v_v : vM, v_v = uM U149 q 7 x140 := ⟨_, rfl⟩
  refine YY.V eU154.symm ?_
  refine x_iinc 3 (v := 4) 1 [(3, .int 4), (4, .int 2), (0, .ref (g.2.1 26)), (1, .ref (g.2.1 r)), (2, .ref (g.2.1 q))] dX2_halve_81 rfl (by decide) (by decide) rfl ?_
  refine x_goto 14 dX2_halve_84 (by decide) ?_
  refine x_iload_n dX2_halve_14 0 rfl ?_
  refine x_aload_n dX2_halve_15 2 rfl ?_
  refine x_getI fl_X2_24 rfl rfl dX2_halve_16 ?_
  refine x_topi (y := V 26 3) (by rw [eU154, uM_na (Ne.symm hq26), eU149, uM_na (Ne.symm hq26), eU143, uM_na (Ne.symm hr26), eU134, uM_na (Ne.symm hr26), eU124, uM_na (Ne.symm hq26), eU119, uM_na (Ne.symm hq26), eU113, uM_na (Ne.symm hr26), eU104, uM_na (Ne.symm hr26), eU95, uM_na (Ne.symm hr26), eU86, uM_na (Ne.symm hr26), eU76, uM_na (Ne.symm hq26), eU71, uM_na (Ne.symm hq26), eU65, uM_na (Ne.symm hr26), eU56, uM_na (Ne.symm hr26), eU47, uM_na (Ne.symm hr26), eU38, uM_na (Ne.symm hr26), eU29, uM_na (Ne.symm hr26), eU20, uM_na (Ne.symm hr26), eU10, uM_na (Ne.symm hq26), eU5, uM_na (Ne.symm hq26)]) ?_
  refine x_topi (hl) ?_
  refine x_icmp_gt 87 dX2_halve_19 (by decide) (fun c155 => ?_) (fun c155 => by exfalso; revert c155; decide)
  refine x_vret dX2_halve_87 rfl ?_
  rw [hQ]
  have fr0 : U154 r 0 = x131 := by rw [eU154, uM_na hrq, eU149, uM_na hrq, eU143, uM_ni (by decide), eU134, uM_hit]
  have fr1 : U154 r 1 = x140 := by rw [eU154, uM_na hrq, eU149, uM_na hrq, eU143, uM_hit]
  have fr2 : U154 r 2 = x101 := by rw [eU154, uM_na hrq, eU149, uM_na hrq, eU143, uM_ni (by decide), eU134, uM_ni (by decide), eU124, uM_na hrq, eU119, uM_na hrq, eU113, uM_ni (by decide), eU104, uM_hit]
  have fr3 : U154 r 3 = x110 := by rw [eU154, uM_na hrq, eU149, uM_na hrq, eU143, uM_ni (by decide), eU134, uM_ni (by decide), eU124, uM_na hrq, eU119, uM_na hrq, eU113, uM_hit]
  have fr4 : U154 r 4 = x53 := by rw [eU154, uM_na hrq, eU149, uM_na hrq, eU143, uM_ni (by decide), eU134, uM_ni (by decide), eU124, uM_na hrq, eU119, uM_na hrq, eU113, uM_ni (by decide), eU104, uM_ni (by decide), eU95, uM_ni (by decide), eU86, uM_ni (by decide), eU76, uM_na hrq, eU71, uM_na hrq, eU65, uM_ni (by decide), eU56, uM_hit]
  have fr5 : U154 r 5 = x62 := by rw [eU154, uM_na hrq, eU149, uM_na hrq, eU143, uM_ni (by decide), eU134, uM_ni (by decide), eU124, uM_na hrq, eU119, uM_na hrq, eU113, uM_ni (by decide), eU104, uM_ni (by decide), eU95, uM_ni (by decide), eU86, uM_ni (by decide), eU76, uM_na hrq, eU71, uM_na hrq, eU65, uM_hit]
  have fr6 : U154 r 6 = V r 6 := by rw [eU154, uM_na hrq, eU149, uM_na hrq, eU143, uM_ni (by decide), eU134, uM_ni (by decide), eU124, uM_na hrq, eU119, uM_na hrq, eU113, uM_ni (by decide), eU104, uM_ni (by decide), eU95, uM_ni (by decide), eU86, uM_ni (by decide), eU76, uM_na hrq, eU71, uM_na hrq, eU65, uM_ni (by decide), eU56, uM_ni (by decide), eU47, uM_ni (by decide), eU38, uM_ni (by decide), eU29, uM_ni (by decide), eU20, uM_ni (by decide), eU10, uM_na hrq, eU5, uM_na hrq]
  have fr7 : U154 r 7 = V r 7 := by rw [eU154, uM_na hrq, eU149, uM_na hrq, eU143, uM_ni (by decide), eU134, uM_ni (by decide), eU124, uM_na hrq, eU119, uM_na hrq, eU113, uM_ni (by decide), eU104, uM_ni (by decide), eU95, uM_ni (by decide), eU86, uM_ni (by decide), eU76, uM_na hrq, eU71, uM_na hrq, eU65, uM_ni (by decide), eU56, uM_ni (by decide), eU47, uM_ni (by decide), eU38, uM_ni (by decide), eU29, uM_ni (by decide), eU20, uM_ni (by decide), eU10, uM_na hrq, eU5, uM_na hrq]
  have fq0 : U154 q 0 = V r 0 := by rw [eU154, uM_ni (by decide), eU149, uM_ni (by decide), eU143, uM_na (Ne.symm hrq), eU134, uM_na (Ne.symm hrq), eU124, uM_ni (by decide), eU119, uM_ni (by decide), eU113, uM_na (Ne.symm hrq), eU104, uM_na (Ne.symm hrq), eU95, uM_na (Ne.symm hrq), eU86, uM_na (Ne.symm hrq), eU76, uM_ni (by decide), eU71, uM_ni (by decide), eU65, uM_na (Ne.symm hrq), eU56, uM_na (Ne.symm hrq), eU47, uM_na (Ne.symm hrq), eU38, uM_na (Ne.symm hrq), eU29, uM_na (Ne.symm hrq), eU20, uM_na (Ne.symm hrq), eU10, uM_ni (by decide), eU5, uM_hit]
  have fq1 : U154 q 1 = V r 1 := by rw [eU154, uM_ni (by decide), eU149, uM_ni (by decide), eU143, uM_na (Ne.symm hrq), eU134, uM_na (Ne.symm hrq), eU124, uM_ni (by decide), eU119, uM_ni (by decide), eU113, uM_na (Ne.symm hrq), eU104, uM_na (Ne.symm hrq), eU95, uM_na (Ne.symm hrq), eU86, uM_na (Ne.symm hrq), eU76, uM_ni (by decide), eU71, uM_ni (by decide), eU65, uM_na (Ne.symm hrq), eU56, uM_na (Ne.symm hrq), eU47, uM_na (Ne.symm hrq), eU38, uM_na (Ne.symm hrq), eU29, uM_na (Ne.symm hrq), eU20, uM_na (Ne.symm hrq), eU10, uM_hit]
  have fq2 : U154 q 2 = x17 := by rw [eU154, uM_ni (by decide), eU149, uM_ni (by decide), eU143, uM_na (Ne.symm hrq), eU134, uM_na (Ne.symm hrq), eU124, uM_ni (by decide), eU119, uM_ni (by decide), eU113, uM_na (Ne.symm hrq), eU104, uM_na (Ne.symm hrq), eU95, uM_na (Ne.symm hrq), eU86, uM_na (Ne.symm hrq), eU76, uM_ni (by decide), eU71, uM_hit]
  have fq3 : U154 q 3 = x26 := by rw [eU154, uM_ni (by decide), eU149, uM_ni (by decide), eU143, uM_na (Ne.symm hrq), eU134, uM_na (Ne.symm hrq), eU124, uM_ni (by decide), eU119, uM_ni (by decide), eU113, uM_na (Ne.symm hrq), eU104, uM_na (Ne.symm hrq), eU95, uM_na (Ne.symm hrq), eU86, uM_na (Ne.symm hrq), eU76, uM_hit]
  have fq4 : U154 q 4 = x83 := by rw [eU154, uM_ni (by decide), eU149, uM_ni (by decide), eU143, uM_na (Ne.symm hrq), eU134, uM_na (Ne.symm hrq), eU124, uM_ni (by decide), eU119, uM_hit]
  have fq5 : U154 q 5 = x92 := by rw [eU154, uM_ni (by decide), eU149, uM_ni (by decide), eU143, uM_na (Ne.symm hrq), eU134, uM_na (Ne.symm hrq), eU124, uM_hit]
  have fq6 : U154 q 6 = x131 := by rw [eU154, uM_ni (by decide), eU149, uM_hit]
  have fq7 : U154 q 7 = x140 := by rw [eU154, uM_hit]
  have fo : ∀ a i, a ≠ r → a ≠ q → U154 a i = V a i := fun a i n1 n2 => by rw [eU154, uM_na n2, eU149, uM_na n2, eU143, uM_na n1, eU134, uM_na n1, eU124, uM_na n2, eU119, uM_na n2, eU113, uM_na n1, eU104, uM_na n1, eU95, uM_na n1, eU86, uM_na n1, eU76, uM_na n2, eU71, uM_na n2, eU65, uM_na n1, eU56, uM_na n1, eU47, uM_na n1, eU38, uM_na n1, eU29, uM_na n1, eU20, uM_na n1, eU10, uM_na n2, eU5, uM_na n2]
  refine ⟨rfl, fun i hi => ?_, fun i hi => ?_, fo⟩
  · have : i = 0 ∨ i = 1 ∨ i = 2 ∨ i = 3 ∨ i = 4 ∨ i = 5 ∨ i = 6 ∨ i = 7 := by omega
    rcases this with rfl | rfl | rfl | rfl | rfl | rfl | rfl | rfl
    · exact fr0.trans (by first | rfl | (simp only [ex17, ex26, ex35, ex44, ex53, ex62, ex83, ex92, ex101, ex110, ex131, ex140]; rfl))
    · exact fr1.trans (by first | rfl | (simp only [ex17, ex26, ex35, ex44, ex53, ex62, ex83, ex92, ex101, ex110, ex131, ex140]; rfl))
    · exact fr2.trans (by first | rfl | (simp only [ex17, ex26, ex35, ex44, ex53, ex62, ex83, ex92, ex101, ex110, ex131, ex140]; rfl))
    · exact fr3.trans (by first | rfl | (simp only [ex17, ex26, ex35, ex44, ex53, ex62, ex83, ex92, ex101, ex110, ex131, ex140]; rfl))
    · exact fr4.trans (by first | rfl | (simp only [ex17, ex26, ex35, ex44, ex53, ex62, ex83, ex92, ex101, ex110, ex131, ex140]; rfl))
    · exact fr5.trans (by first | rfl | (simp only [ex17, ex26, ex35, ex44, ex53, ex62, ex83, ex92, ex101, ex110, ex131, ex140]; rfl))
    · exact fr6.trans (by first | rfl | (simp only [ex17, ex26, ex35, ex44, ex53, ex62, ex83, ex92, ex101, ex110, ex131, ex140]; rfl))
    · exact fr7.trans (by first | rfl | (simp only [ex17, ex26, ex35, ex44, ex53, ex62, ex83, ex92, ex101, ex110, ex131, ex140]; rfl))
  · have : i = 0 ∨ i = 1 ∨ i = 2 ∨ i = 3 ∨ i = 4 ∨ i = 5 ∨ i = 6 ∨ i = 7 := by omega
    rcases this with rfl | rfl | rfl | rfl | rfl | rfl | rfl | rfl
    · exact fq0.trans (by first | rfl | (simp only [ex17, ex26, ex35, ex44, ex53, ex62, ex83, ex92, ex101, ex110, ex131, ex140]; rfl))
    · exact fq1.trans (by first | rfl | (simp only [ex17, ex26, ex35, ex44, ex53, ex62, ex83, ex92, ex101, ex110, ex131, ex140]; rfl))
    · exact fq2.trans (by first | rfl | (simp only [ex17, ex26, ex35, ex44, ex53, ex62, ex83, ex92, ex101, ex110, ex131, ex140]; rfl))
    · exact fq3.trans (by first | rfl | (simp only [ex17, ex26, ex35, ex44, ex53, ex62, ex83, ex92, ex101, ex110, ex131, ex140]; rfl))
    · exact fq4.trans (by first | rfl | (simp only [ex17, ex26, ex35, ex44, ex53, ex62, ex83, ex92, ex101, ex110, ex131, ex140]; rfl))
    · exact fq5.trans (by first | rfl | (simp only [ex17, ex26, ex35, ex44, ex53, ex62, ex83, ex92, ex101, ex110, ex131, ex140]; rfl))
    · exact fq6.trans (by first | rfl | (simp only [ex17, ex26, ex35, ex44, ex53, ex62, ex83, ex92, ex101, ex110, ex131, ex140]; rfl))
    · exact fq7.trans (by first | rfl | (simp only [ex17, ex26, ex35, ex44, ex53, ex62, ex83, ex92, ex101, ex110, ex131, ex140]; rfl))
set_option maxHeartbeats 1000000 in
set_option maxRecDepth 100000 in
theorem mX2_isFlat2 {g : gX} (V : vM) {r : Nat} (sr : shp[r]? = some (.inl (0, 8))) (hl : V 26 3 = 2) (t : Int32) : MM g jX2_isFlat V [.ref (g.2.1 26), .ref (g.2.1 r), .int (4 * t)] (pI V (bP (flt 2 (V r) t))) := by
  refine MM.of plX2_isFlat (Nat.le_of_ble_eq_true rfl) ?_
  obtain ⟨Q, hQ⟩ : ∃ Q : Option Value → vM → Prop, Q = (pI V (bP (flt 2 (V r) t))) := ⟨_, rfl⟩
  rw [← hQ]
  show XX g jX2_isFlat Q V 0 [(0, .ref (g.2.1 26)), (1, .ref (g.2.1 r)), (2, .int (4 * t))] []
  refine x_iconst (v := 0) dX2_isFlat_0 (by decide) ?_
  refine x_istore_n 3 [(3, .int 0), (0, .ref (g.2.1 26)), (1, .ref (g.2.1 r)), (2, .int (4 * t))] dX2_isFlat_1 rfl (by decide) rfl ?_
  refine x_iload_n dX2_isFlat_2 0 rfl ?_
  refine x_iconst (v := 2) dX2_isFlat_3 (by decide) ?_
  refine x_iadd dX2_isFlat_4 ?_
  refine x_topi (y := 2) (by decide) ?_
  refine x_aload_n dX2_isFlat_5 1 rfl ?_
  refine x_getI fl_X2_24 rfl rfl dX2_isFlat_6 ?_
  refine x_topi (hl) ?_
  refine x_icmp_gt 86 dX2_isFlat_9 (by decide) (fun c1 => by exfalso; revert c1; decide) (fun c1 => ?_)
  refine x_iconst (v := 2) dX2_isFlat_12 (by decide) ?_
  refine x_iload_n dX2_isFlat_13 0 rfl ?_
  refine x_imul dX2_isFlat_14 ?_
  refine x_topi (y := 0) (by decide) ?_
  refine x_istore 4 [(4, .int 0), (3, .int 0), (0, .ref (g.2.1 26)), (1, .ref (g.2.1 r)), (2, .int (4 * t))] dX2_isFlat_15 (by decide) rfl ?_
  refine x_aload_n dX2_isFlat_17 3 rfl ?_
  refine x_iload dX2_isFlat_18 0 rfl ?_
  have q2 : (0 : Int32) = nI 0 := rfl
  refine YY.S (st' := [.int (nI 0), .ref (g.2.1 r)]) (by rw [q2]) ?_
  have b3 : vp_in (nI 0) 8 := by exact vp_in_nI (by omega) (by decide)
  refine x_iald sr b3 dX2_isFlat_20 ?_
  refine x_topi (y := V r 0) (by rw [nI_clamp (by omega)]) ?_
  refine x_iconst (v := 2) dX2_isFlat_21 (by decide) ?_
  refine x_aload_n dX2_isFlat_22 3 rfl ?_
  refine x_iload dX2_isFlat_23 0 rfl ?_
  refine x_iconst (v := 2) dX2_isFlat_25 (by decide) ?_
  refine x_iadd dX2_isFlat_26 ?_
  refine x_topi (y := 2) (by decide) ?_
  have q4 : (2 : Int32) = nI 2 := rfl
  refine YY.S (st' := [.int (nI 2), .ref (g.2.1 r), .int 2, .int (V r 0)]) (by rw [q4]) ?_
  have b5 : vp_in (nI 2) 8 := by exact vp_in_nI (by omega) (by decide)
  refine x_iald sr b5 dX2_isFlat_27 ?_
  refine x_topi (y := V r 2) (by rw [nI_clamp (by omega)]) ?_
  refine x_imul dX2_isFlat_28 ?_
  refine x_isub dX2_isFlat_29 ?_
  refine x_aload_n dX2_isFlat_30 3 rfl ?_
  refine x_iload dX2_isFlat_31 0 rfl ?_
  refine x_iconst (v := 4) dX2_isFlat_33 (by decide) ?_
  refine x_iadd dX2_isFlat_34 ?_
  refine x_topi (y := 4) (by decide) ?_
  have q6 : (4 : Int32) = nI 4 := rfl
  refine YY.S (st' := [.int (nI 4), .ref (g.2.1 r), .int ((V r 0) - (2 * (V r 2)))]) (by rw [q6]) ?_
  have b7 : vp_in (nI 4) 8 := by exact vp_in_nI (by omega) (by decide)
  refine x_iald sr b7 dX2_isFlat_35 ?_
  refine x_topi (y := V r 4) (by rw [nI_clamp (by omega)]) ?_
  refine x_iadd dX2_isFlat_36 ?_
  refine x_mabs pr_mabs_X2_45 pr_mabs_st pr_math pr_mabs_code (by decide) (Nat.le_of_ble_eq_true rfl) dX2_isFlat_37 ?_
  refine x_istore 5 [(5, .int (if 0 ≤ (((V r 0) - (2 * (V r 2))) + (V r 4)) then (((V r 0) - (2 * (V r 2))) + (V r 4)) else 0 - (((V r 0) - (2 * (V r 2))) + (V r 4)))), (4, .int 0), (3, .int 0), (0, .ref (g.2.1 26)), (1, .ref (g.2.1 r)), (2, .int (4 * t))] dX2_isFlat_40 (by decide) rfl ?_
  refine x_aload_n dX2_isFlat_42 4 rfl ?_
  refine x_iload dX2_isFlat_43 1 rfl ?_
  refine x_iconst (v := 1) dX2_isFlat_45 (by decide) ?_
  refine x_iadd dX2_isFlat_46 ?_
  refine x_topi (y := 1) (by decide) ?_
  have q8 : (1 : Int32) = nI 1 := rfl
  refine YY.S (st' := [.int (nI 1), .ref (g.2.1 r)]) (by rw [q8]) ?_
  have b9 : vp_in (nI 1) 8 := by exact vp_in_nI (by omega) (by decide)
  refine x_iald sr b9 dX2_isFlat_47 ?_
  refine x_topi (y := V r 1) (by rw [nI_clamp (by omega)]) ?_
  refine x_iconst (v := 2) dX2_isFlat_48 (by decide) ?_
  refine x_aload_n dX2_isFlat_49 4 rfl ?_
  refine x_iload dX2_isFlat_50 1 rfl ?_
  refine x_iconst (v := 3) dX2_isFlat_52 (by decide) ?_
  refine x_iadd dX2_isFlat_53 ?_
  refine x_topi (y := 3) (by decide) ?_
  have q10 : (3 : Int32) = nI 3 := rfl
  refine YY.S (st' := [.int (nI 3), .ref (g.2.1 r), .int 2, .int (V r 1)]) (by rw [q10]) ?_
  have b11 : vp_in (nI 3) 8 := by exact vp_in_nI (by omega) (by decide)
  refine x_iald sr b11 dX2_isFlat_54 ?_
  refine x_topi (y := V r 3) (by rw [nI_clamp (by omega)]) ?_
  refine x_imul dX2_isFlat_55 ?_
  refine x_isub dX2_isFlat_56 ?_
  refine x_aload_n dX2_isFlat_57 4 rfl ?_
  refine x_iload dX2_isFlat_58 1 rfl ?_
  refine x_iconst (v := 5) dX2_isFlat_60 (by decide) ?_
  refine x_iadd dX2_isFlat_61 ?_
  refine x_topi (y := 5) (by decide) ?_
  have q12 : (5 : Int32) = nI 5 := rfl
  refine YY.S (st' := [.int (nI 5), .ref (g.2.1 r), .int ((V r 1) - (2 * (V r 3)))]) (by rw [q12]) ?_
  have b13 : vp_in (nI 5) 8 := by exact vp_in_nI (by omega) (by decide)
  refine x_iald sr b13 dX2_isFlat_62 ?_
  refine x_topi (y := V r 5) (by rw [nI_clamp (by omega)]) ?_
  refine x_iadd dX2_isFlat_63 ?_
  refine x_mabs pr_mabs_X2_45 pr_mabs_st pr_math pr_mabs_code (by decide) (Nat.le_of_ble_eq_true rfl) dX2_isFlat_64 ?_
  refine x_istore 6 [(6, .int (if 0 ≤ (((V r 1) - (2 * (V r 3))) + (V r 5)) then (((V r 1) - (2 * (V r 3))) + (V r 5)) else 0 - (((V r 1) - (2 * (V r 3))) + (V r 5)))), (5, .int (if 0 ≤ (((V r 0) - (2 * (V r 2))) + (V r 4)) then (((V r 0) - (2 * (V r 2))) + (V r 4)) else 0 - (((V r 0) - (2 * (V r 2))) + (V r 4)))), (4, .int 0), (3, .int 0), (0, .ref (g.2.1 26)), (1, .ref (g.2.1 r)), (2, .int (4 * t))] dX2_isFlat_67 (by decide) rfl ?_
  refine x_iload dX2_isFlat_69 1 rfl ?_
  refine x_iload dX2_isFlat_71 0 rfl ?_
  refine x_iadd dX2_isFlat_73 ?_
  refine x_iload_n dX2_isFlat_74 6 rfl ?_
  refine x_icmp_le 80 dX2_isFlat_75 (by decide) (fun c14 => ?_) (fun c14 => ?_)
  · refine x_iinc 3 (v := 1) 3 [(3, .int 1), (6, .int (if 0 ≤ (((V r 1) - (2 * (V r 3))) + (V r 5)) then (((V r 1) - (2 * (V r 3))) + (V r 5)) else 0 - (((V r 1) - (2 * (V r 3))) + (V r 5)))), (5, .int (if 0 ≤ (((V r 0) - (2 * (V r 2))) + (V r 4)) then (((V r 0) - (2 * (V r 2))) + (V r 4)) else 0 - (((V r 0) - (2 * (V r 2))) + (V r 4)))), (4, .int 0), (0, .ref (g.2.1 26)), (1, .ref (g.2.1 r)), (2, .int (4 * t))] dX2_isFlat_80 rfl (by decide) (by decide) rfl ?_
    refine x_goto 2 dX2_isFlat_83 (by decide) ?_
    refine x_iload_n dX2_isFlat_2 0 rfl ?_
    refine x_iconst (v := 2) dX2_isFlat_3 (by decide) ?_
    refine x_iadd dX2_isFlat_4 ?_
    refine x_topi (y := 3) (by decide) ?_
    refine x_aload_n dX2_isFlat_5 4 rfl ?_
    refine x_getI fl_X2_24 rfl rfl dX2_isFlat_6 ?_
    refine x_topi (hl) ?_
    refine x_icmp_gt 86 dX2_isFlat_9 (by decide) (fun c15 => ?_) (fun c15 => by exfalso; revert c15; decide)
    refine x_iconst (v := 1) dX2_isFlat_86 (by decide) ?_
    refine x_zret dX2_isFlat_87 rfl (by exact nar01 (by first | exact Or.inl rfl | exact Or.inr rfl | grind)) ?_
    rw [hQ]
    refine ⟨rfl, ?_⟩
    unfold flt bnd iabs
    rw [if_pos rfl, bP_t (by assumption)]
  · refine x_iconst (v := 0) dX2_isFlat_78 (by decide) ?_
    refine x_zret dX2_isFlat_79 rfl (by exact nar01 (by first | exact Or.inl rfl | exact Or.inr rfl | grind)) ?_
    rw [hQ]
    refine ⟨rfl, ?_⟩
    unfold flt bnd iabs
    rw [if_pos rfl, bP_f (by assumption)]
set_option maxHeartbeats 1000000 in
set_option maxRecDepth 100000 in
theorem mX2_isFlat3 {g : gX} (V : vM) {r : Nat} (sr : shp[r]? = some (.inl (0, 8))) (hl : V 26 3 = 3) (t : Int32) : MM g jX2_isFlat V [.ref (g.2.1 26), .ref (g.2.1 r), .int (2 * t)] (pI V (bP (flt 3 (V r) t))) := by
  refine MM.of plX2_isFlat (Nat.le_of_ble_eq_true rfl) ?_
  obtain ⟨Q, hQ⟩ : ∃ Q : Option Value → vM → Prop, Q = (pI V (bP (flt 3 (V r) t))) := ⟨_, rfl⟩
  rw [← hQ]
  show XX g jX2_isFlat Q V 0 [(0, .ref (g.2.1 26)), (1, .ref (g.2.1 r)), (2, .int (2 * t))] []
  refine x_iconst (v := 0) dX2_isFlat_0 (by decide) ?_
  refine x_istore_n 3 [(3, .int 0), (0, .ref (g.2.1 26)), (1, .ref (g.2.1 r)), (2, .int (2 * t))] dX2_isFlat_1 rfl (by decide) rfl ?_
  refine x_iload_n dX2_isFlat_2 0 rfl ?_
  refine x_iconst (v := 2) dX2_isFlat_3 (by decide) ?_
  refine x_iadd dX2_isFlat_4 ?_
  refine x_topi (y := 2) (by decide) ?_
  refine x_aload_n dX2_isFlat_5 1 rfl ?_
  refine x_getI fl_X2_24 rfl rfl dX2_isFlat_6 ?_
  refine x_topi (hl) ?_
  refine x_icmp_gt 86 dX2_isFlat_9 (by decide) (fun c1 => by exfalso; revert c1; decide) (fun c1 => ?_)
  refine x_iconst (v := 2) dX2_isFlat_12 (by decide) ?_
  refine x_iload_n dX2_isFlat_13 0 rfl ?_
  refine x_imul dX2_isFlat_14 ?_
  refine x_topi (y := 0) (by decide) ?_
  refine x_istore 4 [(4, .int 0), (3, .int 0), (0, .ref (g.2.1 26)), (1, .ref (g.2.1 r)), (2, .int (2 * t))] dX2_isFlat_15 (by decide) rfl ?_
  refine x_aload_n dX2_isFlat_17 3 rfl ?_
  refine x_iload dX2_isFlat_18 0 rfl ?_
  have q2 : (0 : Int32) = nI 0 := rfl
  refine YY.S (st' := [.int (nI 0), .ref (g.2.1 r)]) (by rw [q2]) ?_
  have b3 : vp_in (nI 0) 8 := by exact vp_in_nI (by omega) (by decide)
  refine x_iald sr b3 dX2_isFlat_20 ?_
  refine x_topi (y := V r 0) (by rw [nI_clamp (by omega)]) ?_
  refine x_iconst (v := 2) dX2_isFlat_21 (by decide) ?_
  refine x_aload_n dX2_isFlat_22 3 rfl ?_
  refine x_iload dX2_isFlat_23 0 rfl ?_
  refine x_iconst (v := 2) dX2_isFlat_25 (by decide) ?_
  refine x_iadd dX2_isFlat_26 ?_
  refine x_topi (y := 2) (by decide) ?_
  have q4 : (2 : Int32) = nI 2 := rfl
  refine YY.S (st' := [.int (nI 2), .ref (g.2.1 r), .int 2, .int (V r 0)]) (by rw [q4]) ?_
  have b5 : vp_in (nI 2) 8 := by exact vp_in_nI (by omega) (by decide)
  refine x_iald sr b5 dX2_isFlat_27 ?_
  refine x_topi (y := V r 2) (by rw [nI_clamp (by omega)]) ?_
  refine x_imul dX2_isFlat_28 ?_
  refine x_isub dX2_isFlat_29 ?_
  refine x_aload_n dX2_isFlat_30 3 rfl ?_
  refine x_iload dX2_isFlat_31 0 rfl ?_
  refine x_iconst (v := 4) dX2_isFlat_33 (by decide) ?_
  refine x_iadd dX2_isFlat_34 ?_
  refine x_topi (y := 4) (by decide) ?_
  have q6 : (4 : Int32) = nI 4 := rfl
  refine YY.S (st' := [.int (nI 4), .ref (g.2.1 r), .int ((V r 0) - (2 * (V r 2)))]) (by rw [q6]) ?_
  have b7 : vp_in (nI 4) 8 := by exact vp_in_nI (by omega) (by decide)
  refine x_iald sr b7 dX2_isFlat_35 ?_
  refine x_topi (y := V r 4) (by rw [nI_clamp (by omega)]) ?_
  refine x_iadd dX2_isFlat_36 ?_
  refine x_mabs pr_mabs_X2_45 pr_mabs_st pr_math pr_mabs_code (by decide) (Nat.le_of_ble_eq_true rfl) dX2_isFlat_37 ?_
  refine x_istore 5 [(5, .int (if 0 ≤ (((V r 0) - (2 * (V r 2))) + (V r 4)) then (((V r 0) - (2 * (V r 2))) + (V r 4)) else 0 - (((V r 0) - (2 * (V r 2))) + (V r 4)))), (4, .int 0), (3, .int 0), (0, .ref (g.2.1 26)), (1, .ref (g.2.1 r)), (2, .int (2 * t))] dX2_isFlat_40 (by decide) rfl ?_
  refine x_aload_n dX2_isFlat_42 4 rfl ?_
  refine x_iload dX2_isFlat_43 1 rfl ?_
  refine x_iconst (v := 1) dX2_isFlat_45 (by decide) ?_
  refine x_iadd dX2_isFlat_46 ?_
  refine x_topi (y := 1) (by decide) ?_
  have q8 : (1 : Int32) = nI 1 := rfl
  refine YY.S (st' := [.int (nI 1), .ref (g.2.1 r)]) (by rw [q8]) ?_
  have b9 : vp_in (nI 1) 8 := by exact vp_in_nI (by omega) (by decide)
  refine x_iald sr b9 dX2_isFlat_47 ?_
  refine x_topi (y := V r 1) (by rw [nI_clamp (by omega)]) ?_
  refine x_iconst (v := 2) dX2_isFlat_48 (by decide) ?_
  refine x_aload_n dX2_isFlat_49 4 rfl ?_
  refine x_iload dX2_isFlat_50 1 rfl ?_
  refine x_iconst (v := 3) dX2_isFlat_52 (by decide) ?_
  refine x_iadd dX2_isFlat_53 ?_
  refine x_topi (y := 3) (by decide) ?_
  have q10 : (3 : Int32) = nI 3 := rfl
  refine YY.S (st' := [.int (nI 3), .ref (g.2.1 r), .int 2, .int (V r 1)]) (by rw [q10]) ?_
  have b11 : vp_in (nI 3) 8 := by exact vp_in_nI (by omega) (by decide)
  refine x_iald sr b11 dX2_isFlat_54 ?_
  refine x_topi (y := V r 3) (by rw [nI_clamp (by omega)]) ?_
  refine x_imul dX2_isFlat_55 ?_
  refine x_isub dX2_isFlat_56 ?_
  refine x_aload_n dX2_isFlat_57 4 rfl ?_
  refine x_iload dX2_isFlat_58 1 rfl ?_
  refine x_iconst (v := 5) dX2_isFlat_60 (by decide) ?_
  refine x_iadd dX2_isFlat_61 ?_
  refine x_topi (y := 5) (by decide) ?_
  have q12 : (5 : Int32) = nI 5 := rfl
  refine YY.S (st' := [.int (nI 5), .ref (g.2.1 r), .int ((V r 1) - (2 * (V r 3)))]) (by rw [q12]) ?_
  have b13 : vp_in (nI 5) 8 := by exact vp_in_nI (by omega) (by decide)
  refine x_iald sr b13 dX2_isFlat_62 ?_
  refine x_topi (y := V r 5) (by rw [nI_clamp (by omega)]) ?_
  refine x_iadd dX2_isFlat_63 ?_
  refine x_mabs pr_mabs_X2_45 pr_mabs_st pr_math pr_mabs_code (by decide) (Nat.le_of_ble_eq_true rfl) dX2_isFlat_64 ?_
  refine x_istore 6 [(6, .int (if 0 ≤ (((V r 1) - (2 * (V r 3))) + (V r 5)) then (((V r 1) - (2 * (V r 3))) + (V r 5)) else 0 - (((V r 1) - (2 * (V r 3))) + (V r 5)))), (5, .int (if 0 ≤ (((V r 0) - (2 * (V r 2))) + (V r 4)) then (((V r 0) - (2 * (V r 2))) + (V r 4)) else 0 - (((V r 0) - (2 * (V r 2))) + (V r 4)))), (4, .int 0), (3, .int 0), (0, .ref (g.2.1 26)), (1, .ref (g.2.1 r)), (2, .int (2 * t))] dX2_isFlat_67 (by decide) rfl ?_
  refine x_iload dX2_isFlat_69 1 rfl ?_
  refine x_iload dX2_isFlat_71 0 rfl ?_
  refine x_iadd dX2_isFlat_73 ?_
  refine x_iload_n dX2_isFlat_74 6 rfl ?_
  refine x_icmp_le 80 dX2_isFlat_75 (by decide) (fun c14 => ?_) (fun c14 => ?_)
  · refine x_iinc 3 (v := 1) 3 [(3, .int 1), (6, .int (if 0 ≤ (((V r 1) - (2 * (V r 3))) + (V r 5)) then (((V r 1) - (2 * (V r 3))) + (V r 5)) else 0 - (((V r 1) - (2 * (V r 3))) + (V r 5)))), (5, .int (if 0 ≤ (((V r 0) - (2 * (V r 2))) + (V r 4)) then (((V r 0) - (2 * (V r 2))) + (V r 4)) else 0 - (((V r 0) - (2 * (V r 2))) + (V r 4)))), (4, .int 0), (0, .ref (g.2.1 26)), (1, .ref (g.2.1 r)), (2, .int (2 * t))] dX2_isFlat_80 rfl (by decide) (by decide) rfl ?_
    refine x_goto 2 dX2_isFlat_83 (by decide) ?_
    refine x_iload_n dX2_isFlat_2 0 rfl ?_
    refine x_iconst (v := 2) dX2_isFlat_3 (by decide) ?_
    refine x_iadd dX2_isFlat_4 ?_
    refine x_topi (y := 3) (by decide) ?_
    refine x_aload_n dX2_isFlat_5 4 rfl ?_
    refine x_getI fl_X2_24 rfl rfl dX2_isFlat_6 ?_
    refine x_topi (hl) ?_
    refine x_icmp_gt 86 dX2_isFlat_9 (by decide) (fun c15 => by exfalso; revert c15; decide) (fun c15 => ?_)
    refine x_iconst (v := 2) dX2_isFlat_12 (by decide) ?_
    refine x_iload_n dX2_isFlat_13 0 rfl ?_
    refine x_imul dX2_isFlat_14 ?_
    refine x_topi (y := 2) (by decide) ?_
    refine x_istore 4 [(4, .int 2), (3, .int 1), (6, .int (if 0 ≤ (((V r 1) - (2 * (V r 3))) + (V r 5)) then (((V r 1) - (2 * (V r 3))) + (V r 5)) else 0 - (((V r 1) - (2 * (V r 3))) + (V r 5)))), (5, .int (if 0 ≤ (((V r 0) - (2 * (V r 2))) + (V r 4)) then (((V r 0) - (2 * (V r 2))) + (V r 4)) else 0 - (((V r 0) - (2 * (V r 2))) + (V r 4)))), (0, .ref (g.2.1 26)), (1, .ref (g.2.1 r)), (2, .int (2 * t))] dX2_isFlat_15 (by decide) rfl ?_
    refine x_aload_n dX2_isFlat_17 5 rfl ?_
    refine x_iload dX2_isFlat_18 0 rfl ?_
    have q16 : (2 : Int32) = nI 2 := rfl
    refine YY.S (st' := [.int (nI 2), .ref (g.2.1 r)]) (by rw [q16]) ?_
    have b17 : vp_in (nI 2) 8 := by exact vp_in_nI (by omega) (by decide)
    refine x_iald sr b17 dX2_isFlat_20 ?_
    refine x_topi (y := V r 2) (by rw [nI_clamp (by omega)]) ?_
    refine x_iconst (v := 2) dX2_isFlat_21 (by decide) ?_
    refine x_aload_n dX2_isFlat_22 5 rfl ?_
    refine x_iload dX2_isFlat_23 0 rfl ?_
    refine x_iconst (v := 2) dX2_isFlat_25 (by decide) ?_
    refine x_iadd dX2_isFlat_26 ?_
    refine x_topi (y := 4) (by decide) ?_
    have q18 : (4 : Int32) = nI 4 := rfl
    refine YY.S (st' := [.int (nI 4), .ref (g.2.1 r), .int 2, .int (V r 2)]) (by rw [q18]) ?_
    have b19 : vp_in (nI 4) 8 := by exact vp_in_nI (by omega) (by decide)
    refine x_iald sr b19 dX2_isFlat_27 ?_
    refine x_topi (y := V r 4) (by rw [nI_clamp (by omega)]) ?_
    refine x_imul dX2_isFlat_28 ?_
    refine x_isub dX2_isFlat_29 ?_
    refine x_aload_n dX2_isFlat_30 5 rfl ?_
    refine x_iload dX2_isFlat_31 0 rfl ?_
    refine x_iconst (v := 4) dX2_isFlat_33 (by decide) ?_
    refine x_iadd dX2_isFlat_34 ?_
    refine x_topi (y := 6) (by decide) ?_
    have q20 : (6 : Int32) = nI 6 := rfl
    refine YY.S (st' := [.int (nI 6), .ref (g.2.1 r), .int ((V r 2) - (2 * (V r 4)))]) (by rw [q20]) ?_
    have b21 : vp_in (nI 6) 8 := by exact vp_in_nI (by omega) (by decide)
    refine x_iald sr b21 dX2_isFlat_35 ?_
    refine x_topi (y := V r 6) (by rw [nI_clamp (by omega)]) ?_
    refine x_iadd dX2_isFlat_36 ?_
    refine x_mabs pr_mabs_X2_45 pr_mabs_st pr_math pr_mabs_code (by decide) (Nat.le_of_ble_eq_true rfl) dX2_isFlat_37 ?_
    refine x_istore 5 [(5, .int (if 0 ≤ (((V r 2) - (2 * (V r 4))) + (V r 6)) then (((V r 2) - (2 * (V r 4))) + (V r 6)) else 0 - (((V r 2) - (2 * (V r 4))) + (V r 6)))), (4, .int 2), (3, .int 1), (6, .int (if 0 ≤ (((V r 1) - (2 * (V r 3))) + (V r 5)) then (((V r 1) - (2 * (V r 3))) + (V r 5)) else 0 - (((V r 1) - (2 * (V r 3))) + (V r 5)))), (0, .ref (g.2.1 26)), (1, .ref (g.2.1 r)), (2, .int (2 * t))] dX2_isFlat_40 (by decide) rfl ?_
    refine x_aload_n dX2_isFlat_42 5 rfl ?_
    refine x_iload dX2_isFlat_43 1 rfl ?_
    refine x_iconst (v := 1) dX2_isFlat_45 (by decide) ?_
    refine x_iadd dX2_isFlat_46 ?_
    refine x_topi (y := 3) (by decide) ?_
    have q22 : (3 : Int32) = nI 3 := rfl
    refine YY.S (st' := [.int (nI 3), .ref (g.2.1 r)]) (by rw [q22]) ?_
    have b23 : vp_in (nI 3) 8 := by exact vp_in_nI (by omega) (by decide)
    refine x_iald sr b23 dX2_isFlat_47 ?_
    refine x_topi (y := V r 3) (by rw [nI_clamp (by omega)]) ?_
    refine x_iconst (v := 2) dX2_isFlat_48 (by decide) ?_
    refine x_aload_n dX2_isFlat_49 5 rfl ?_
    refine x_iload dX2_isFlat_50 1 rfl ?_
    refine x_iconst (v := 3) dX2_isFlat_52 (by decide) ?_
    refine x_iadd dX2_isFlat_53 ?_
    refine x_topi (y := 5) (by decide) ?_
    have q24 : (5 : Int32) = nI 5 := rfl
    refine YY.S (st' := [.int (nI 5), .ref (g.2.1 r), .int 2, .int (V r 3)]) (by rw [q24]) ?_
    have b25 : vp_in (nI 5) 8 := by exact vp_in_nI (by omega) (by decide)
    refine x_iald sr b25 dX2_isFlat_54 ?_
    refine x_topi (y := V r 5) (by rw [nI_clamp (by omega)]) ?_
    refine x_imul dX2_isFlat_55 ?_
    refine x_isub dX2_isFlat_56 ?_
    refine x_aload_n dX2_isFlat_57 5 rfl ?_
    refine x_iload dX2_isFlat_58 1 rfl ?_
    refine x_iconst (v := 5) dX2_isFlat_60 (by decide) ?_
    refine x_iadd dX2_isFlat_61 ?_
    refine x_topi (y := 7) (by decide) ?_
    have q26 : (7 : Int32) = nI 7 := rfl
    refine YY.S (st' := [.int (nI 7), .ref (g.2.1 r), .int ((V r 3) - (2 * (V r 5)))]) (by rw [q26]) ?_
    have b27 : vp_in (nI 7) 8 := by exact vp_in_nI (by omega) (by decide)
    refine x_iald sr b27 dX2_isFlat_62 ?_
    refine x_topi (y := V r 7) (by rw [nI_clamp (by omega)]) ?_
    refine x_iadd dX2_isFlat_63 ?_
    refine x_mabs pr_mabs_X2_45 pr_mabs_st pr_math pr_mabs_code (by decide) (Nat.le_of_ble_eq_true rfl) dX2_isFlat_64 ?_
    refine x_istore 6 [(6, .int (if 0 ≤ (((V r 3) - (2 * (V r 5))) + (V r 7)) then (((V r 3) - (2 * (V r 5))) + (V r 7)) else 0 - (((V r 3) - (2 * (V r 5))) + (V r 7)))), (5, .int (if 0 ≤ (((V r 2) - (2 * (V r 4))) + (V r 6)) then (((V r 2) - (2 * (V r 4))) + (V r 6)) else 0 - (((V r 2) - (2 * (V r 4))) + (V r 6)))), (4, .int 2), (3, .int 1), (0, .ref (g.2.1 26)), (1, .ref (g.2.1 r)), (2, .int (2 * t))] dX2_isFlat_67 (by decide) rfl ?_
    refine x_iload dX2_isFlat_69 1 rfl ?_
    refine x_iload dX2_isFlat_71 0 rfl ?_
    refine x_iadd dX2_isFlat_73 ?_
    refine x_iload_n dX2_isFlat_74 6 rfl ?_
    refine x_icmp_le 80 dX2_isFlat_75 (by decide) (fun c28 => ?_) (fun c28 => ?_)
    · refine x_iinc 3 (v := 2) 3 [(3, .int 2), (6, .int (if 0 ≤ (((V r 3) - (2 * (V r 5))) + (V r 7)) then (((V r 3) - (2 * (V r 5))) + (V r 7)) else 0 - (((V r 3) - (2 * (V r 5))) + (V r 7)))), (5, .int (if 0 ≤ (((V r 2) - (2 * (V r 4))) + (V r 6)) then (((V r 2) - (2 * (V r 4))) + (V r 6)) else 0 - (((V r 2) - (2 * (V r 4))) + (V r 6)))), (4, .int 2), (0, .ref (g.2.1 26)), (1, .ref (g.2.1 r)), (2, .int (2 * t))] dX2_isFlat_80 rfl (by decide) (by decide) rfl ?_
      refine x_goto 2 dX2_isFlat_83 (by decide) ?_
      refine x_iload_n dX2_isFlat_2 0 rfl ?_
      refine x_iconst (v := 2) dX2_isFlat_3 (by decide) ?_
      refine x_iadd dX2_isFlat_4 ?_
      refine x_topi (y := 4) (by decide) ?_
      refine x_aload_n dX2_isFlat_5 4 rfl ?_
      refine x_getI fl_X2_24 rfl rfl dX2_isFlat_6 ?_
      refine x_topi (hl) ?_
      refine x_icmp_gt 86 dX2_isFlat_9 (by decide) (fun c29 => ?_) (fun c29 => by exfalso; revert c29; decide)
      refine x_iconst (v := 1) dX2_isFlat_86 (by decide) ?_
      refine x_zret dX2_isFlat_87 rfl (by exact nar01 (by first | exact Or.inl rfl | exact Or.inr rfl | grind)) ?_
      rw [hQ]
      refine ⟨rfl, ?_⟩
      unfold flt bnd iabs
      rw [if_neg (by decide), bP_t ⟨by assumption, by assumption⟩]
    · refine x_iconst (v := 0) dX2_isFlat_78 (by decide) ?_
      refine x_zret dX2_isFlat_79 rfl (by exact nar01 (by first | exact Or.inl rfl | exact Or.inr rfl | grind)) ?_
      rw [hQ]
      refine ⟨rfl, ?_⟩
      unfold flt bnd iabs
      rw [if_neg (by decide)]
      first | rw [bP_f (fun q => absurd q.1 (by assumption))] | rw [bP_f (fun q => absurd q.2 (by assumption))]
  · refine x_iconst (v := 0) dX2_isFlat_78 (by decide) ?_
    refine x_zret dX2_isFlat_79 rfl (by exact nar01 (by first | exact Or.inl rfl | exact Or.inr rfl | grind)) ?_
    rw [hQ]
    refine ⟨rfl, ?_⟩
    unfold flt bnd iabs
    rw [if_neg (by decide)]
    first | rw [bP_f (fun q => absurd q.1 (by assumption))] | rw [bP_f (fun q => absurd q.2 (by assumption))]
theorem shRow (j : Nat) (h : j < 7) : shp[42 + j]? = some (.inl (0, 8)) := by
  have : ∀ j : Fin 7, shp[42 + j.val]? = some (.inl (0, 8)) := by decide +kernel
  exact this ⟨j, h⟩
/-- the pure state of a flattening: how many vertices, how many contours, the rows: 0 x, 1 y, 2 distance, 3 maker, 4 firsts, 5 length by command, 6 closed -/
abbrev FS : Type := Nat × Nat × vM
def fpsh (S : FS) (c : Nat) (x y d : Int32) : FS := (S.1 + 1, S.2.1, uM (uM (uM (uM (uM S.2.2 0 S.1 x) 1 S.1 y) 2 S.1 d) 3 S.1 (nI c)) 4 S.2.1 (nI (S.1 + 1)))
def flenS (S : FS) (x y : Int32) : Int32 := lenI (x - S.2.2 0 (S.1 - 1)) (y - S.2.2 1 (S.1 - 1))
def fadd (S : FS) (c : Nat) (x y : Int32) : FS := if x - S.2.2 0 (S.1 - 1) = 0 ∧ y - S.2.2 1 (S.1 - 1) = 0 then S else
  fpsh (S.1, S.2.1, uM S.2.2 5 c (S.2.2 5 c + flenS S x y)) c x y (S.2.2 2 (S.1 - 1) + flenS S x y)
noncomputable def fsub (l : Nat) (t : Int32) (c : Nat) : Nat → (Nat → Int32) → FS → FS
  | 0, p, S => fadd S c (p (2 * l)) (p (2 * l + 1))
  | k + 1, p, S => if bP (flt l p t) = 1 then fadd S c (p (2 * l)) (p (2 * l + 1)) else fsub l t c k (hB l p) (fsub l t c k (hA l p) S)
abbrev STK : Type := List (Nat × (Nat → Int32))
/-- the pieces that wait, the next one first -/
noncomputable def fstk (l : Nat) (t : Int32) (c : Nat) : STK → FS → FS
  | [], S => S
  | (h, p) :: r, S => fstk l t c r (fsub l t c (6 - h) p S)
def slv : STK → Nat
  | [] => 0
  | (h, _) :: r => 2 ^ (6 - h) + slv r
def okT : STK → Prop
  | [] => True
  | (h, _) :: r => r.length + 1 ≤ h ∧ h ≤ 6 ∧ okT r
def okL : STK → Prop
  | [] => True
  | (h, _) :: r => r.length ≤ h ∧ h ≤ 6 ∧ okT r
def rgS (l : Nat) : STK → Prop
  | [] => True
  | (_, p) :: r => (∀ i, i < 2 * l + 2 → inR (p i)) ∧ rgS l r
/-- the class's rows hold the pieces -/
def SRl (V : vM) (l : Nat) : STK → Prop
  | [] => True
  | (h, p) :: r => V 40 r.length = nI h ∧ (∀ i, i < 2 * l + 2 → V (42 + r.length) i = p i) ∧ SRl V l r
theorem SRl.kept {V U : vM} {l : Nat} : ∀ {r : STK}, SRl V l r → (∀ j, j < r.length → U 40 j = V 40 j ∧ ∀ i, U (42 + j) i = V (42 + j) i) → SRl U l r
  | [], _, _ => trivial
  | (h, p) :: r, hs, hk => by
    obtain ⟨h1, h2, h3⟩ := hs
    refine ⟨by rw [(hk r.length (by simp)).1]; exact h1, fun i hi => by rw [(hk r.length (by simp)).2]; exact h2 i hi, SRl.kept h3 (fun j hj => hk j (by simp; omega))⟩
theorem hmid_r {a b : Int32} (ha : inR a) (hb : inR b) : inR (hmid a b) := by
  unfold inR hmid at *
  have a1 := Int32.le_iff_toInt_le.mp ha.1
  have a2 := Int32.le_iff_toInt_le.mp ha.2
  have b1 := Int32.le_iff_toInt_le.mp hb.1
  have b2 := Int32.le_iff_toInt_le.mp hb.2
  rw [show (-4000 : Int32).toInt = -4000 from rfl] at a1 b1
  rw [show (4000 : Int32).toInt = 4000 from rfl] at a2 b2
  have e1 : (a + b).toInt = a.toInt + b.toInt := fb_addI (by omega) (by omega)
  have e : ((a + b) >>> 1).toInt = (a.toInt + b.toInt) >>> 1 := by rw [pk_shr (a + b) 1 1 (by decide), e1]
  rw [Int32.le_iff_toInt_le, Int32.le_iff_toInt_le, e, show (-4000 : Int32).toInt = -4000 from rfl, show (4000 : Int32).toInt = 4000 from rfl, Int.shiftRight_eq_div_pow]
  omega
theorem hA_r {l : Nat} (hl : l = 2 ∨ l = 3) {p : Nat → Int32} (hp : ∀ i, i < 2 * l + 2 → inR (p i)) : ∀ i, i < 2 * l + 2 → inR (hA l p i) := by
  intro i hi
  have hq : ∀ j, j ≤ l → inR (p (i % 2 + 2 * j)) := fun j hj => hp _ (by omega)
  unfold hA
  dsimp only
  rcases hl with rfl | rfl
  · have h0 := hq 0 (by omega); have h1 := hq 1 (by omega); have h2 := hq 2 (by omega)
    have : i / 2 = 0 ∨ i / 2 = 1 ∨ i / 2 = 2 := by omega
    rcases this with e | e | e <;> rw [e] <;> simp only [] <;> simp <;> first | exact h0 | exact hmid_r h0 h1 | exact hmid_r (hmid_r h0 h1) (hmid_r h1 h2)
  · have h0 := hq 0 (by omega); have h1 := hq 1 (by omega); have h2 := hq 2 (by omega); have h3 := hq 3 (by omega)
    have : i / 2 = 0 ∨ i / 2 = 1 ∨ i / 2 = 2 ∨ i / 2 = 3 := by omega
    rcases this with e | e | e | e <;> rw [e] <;> simp <;> first | exact h0 | exact hmid_r h0 h1 | exact hmid_r (hmid_r h0 h1) (hmid_r h1 h2) | exact hmid_r (hmid_r (hmid_r h0 h1) (hmid_r h1 h2)) (hmid_r (hmid_r h1 h2) (hmid_r h2 h3))
theorem hB_r {l : Nat} (hl : l = 2 ∨ l = 3) {p : Nat → Int32} (hp : ∀ i, i < 2 * l + 2 → inR (p i)) : ∀ i, i < 2 * l + 2 → inR (hB l p i) := by
  intro i hi
  have hq : ∀ j, j ≤ l → inR (p (i % 2 + 2 * j)) := fun j hj => hp _ (by omega)
  unfold hB
  dsimp only
  rcases hl with rfl | rfl
  · have h0 := hq 0 (by omega); have h1 := hq 1 (by omega); have h2 := hq 2 (by omega)
    have : i / 2 = 0 ∨ i / 2 = 1 ∨ i / 2 = 2 := by omega
    rcases this with e | e | e <;> rw [e] <;> simp <;> first | exact h2 | exact hmid_r h1 h2 | exact hmid_r (hmid_r h0 h1) (hmid_r h1 h2)
  · have h0 := hq 0 (by omega); have h1 := hq 1 (by omega); have h2 := hq 2 (by omega); have h3 := hq 3 (by omega)
    have : i / 2 = 0 ∨ i / 2 = 1 ∨ i / 2 = 2 ∨ i / 2 = 3 := by omega
    rcases this with e | e | e | e <;> rw [e] <;> simp <;> first | exact h3 | exact hmid_r h2 h3 | exact hmid_r (hmid_r h1 h2) (hmid_r h2 h3) | exact hmid_r (hmid_r (hmid_r h0 h1) (hmid_r h1 h2)) (hmid_r (hmid_r h1 h2) (hmid_r h2 h3))
/-- only the first 2 l + 2 numbers of a piece matter -/
theorem hA_cong {l : Nat} (hl : l = 2 ∨ l = 3) {p q : Nat → Int32} (h : ∀ i, i < 2 * l + 2 → p i = q i) : ∀ i, i < 2 * l + 2 → hA l p i = hA l q i := by
  intro i hi
  unfold hA
  dsimp only
  have h0 := h (i % 2 + 2 * 0) (by omega); have h1 := h (i % 2 + 2 * 1) (by omega); have h2 := h (i % 2 + 2 * 2) (by omega)
  rcases hl with rfl | rfl
  · rw [h0, h1, h2]; simp
  · have h3 := h (i % 2 + 2 * 3) (by omega)
    rw [h0, h1, h2, h3]
theorem hB_cong {l : Nat} (hl : l = 2 ∨ l = 3) {p q : Nat → Int32} (h : ∀ i, i < 2 * l + 2 → p i = q i) : ∀ i, i < 2 * l + 2 → hB l p i = hB l q i := by
  intro i hi
  unfold hB
  dsimp only
  have h0 := h (i % 2 + 2 * 0) (by omega); have h1 := h (i % 2 + 2 * 1) (by omega); have h2 := h (i % 2 + 2 * 2) (by omega)
  rcases hl with rfl | rfl
  · rw [h0, h1, h2]; simp
  · have h3 := h (i % 2 + 2 * 3) (by omega)
    rw [h0, h1, h2, h3]
theorem flt_cong {l : Nat} (hl : l = 2 ∨ l = 3) {p q : Nat → Int32} (h : ∀ i, i < 2 * l + 2 → p i = q i) (t : Int32) : flt l p t ↔ flt l q t := by
  unfold flt
  rcases hl with rfl | rfl
  · rw [h 0 (by omega), h 1 (by omega), h 2 (by omega), h 3 (by omega), h 4 (by omega), h 5 (by omega)]; simp
  · rw [h 0 (by omega), h 1 (by omega), h 2 (by omega), h 3 (by omega), h 4 (by omega), h 5 (by omega), h 6 (by omega), h 7 (by omega)]
theorem fsub_cong {l : Nat} (hl : l = 2 ∨ l = 3) (t : Int32) (c : Nat) : ∀ (k : Nat) {p q : Nat → Int32}, (∀ i, i < 2 * l + 2 → p i = q i) → ∀ S, fsub l t c k p S = fsub l t c k q S
  | 0, p, q, h, S => by unfold fsub; rw [h (2 * l) (by omega), h (2 * l + 1) (by omega)]
  | k + 1, p, q, h, S => by
    unfold fsub
    rw [h (2 * l) (by omega), h (2 * l + 1) (by omega), bP_iff (flt_cong hl h t), fsub_cong hl t c k (hA_cong hl h) S, fsub_cong hl t c k (hB_cong hl h) _]
