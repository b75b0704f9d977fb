/-! answers about laid letters -/
def plN (S : FS) (fb : Nat → Nat) (R : LRS) (i : Nat) (what : Int32) : Int32 := match (R i).1 with
  | none => -1000006
  | some h => if what = 0 then nI h else if what = 1 then (R i).2 else ptN S (sg S fb (R i).2 h) h (R i).2 (what - 2)
theorem plN_n {S : FS} {fb : Nat → Nat} {R : LRS} {i : Nat} {what : Int32} (h : (R i).1 = none) : plN S fb R i what = -1000006 := by
  unfold plN; rw [h]
theorem plN_s {S : FS} {fb : Nat → Nat} {R : LRS} {i h : Nat} {what : Int32} (e : (R i).1 = some h) : plN S fb R i what = if what = 0 then nI h else if what = 1 then (R i).2 else ptN S (sg S fb (R i).2 h) h (R i).2 (what - 2) := by
  unfold plN; rw [e]
def bk (S : FS) (i j : Nat) : Prop := (S.2.2 0 i - S.2.2 0 (i - 1)) * (S.2.2 0 j - S.2.2 0 (j - 1)) + (S.2.2 1 i - S.2.2 1 (i - 1)) * (S.2.2 1 j - S.2.2 1 (j - 1)) < 0
noncomputable def trn (S : FS) (fb : Nat → Nat) (R : LRS) : Nat → Nat × Option (Nat × Nat)
  | 0 => (0, none)
  | i + 1 => match (R i).1 with
    | none => trn S fb R i
    | some h => ((trn S fb R i).1 + (match (trn S fb R i).2 with
      | none => 0
      | some q => @ite _ (q.1 = h ∧ bk S (sg S fb (R i).2 h) q.2) (Classical.propDecidable _) 1 0), some (h, sg S fb (R i).2 h))
section
variable {S : FS} {fb : Nat → Nat} {R : LRS} {i h cn : Nat}
theorem trn_n {la : Option (Nat × Nat)} (e : (R i).1 = none) (t : trn S fb R i = (cn, la)) : trn S fb R (i + 1) = (cn, la) := by
  rw [trn, e]; exact t
theorem trn_0 (e : (R i).1 = some h) (t : trn S fb R i = (cn, none)) : trn S fb R (i + 1) = (cn, some (h, sg S fb (R i).2 h)) := by
  rw [trn, e, t]; rfl
theorem trn_f {q : Nat × Nat} (e : (R i).1 = some h) (t : trn S fb R i = (cn, some q)) (k : ¬ (q.1 = h ∧ bk S (sg S fb (R i).2 h) q.2)) : trn S fb R (i + 1) = (cn, some (h, sg S fb (R i).2 h)) := by
  rw [trn, e, t]
  show (cn + @ite _ _ (Classical.propDecidable _) 1 0, _) = _
  rw [if_neg k]
  rfl
theorem trn_t {q : Nat × Nat} (e : (R i).1 = some h) (t : trn S fb R i = (cn, some q)) (k : q.1 = h ∧ bk S (sg S fb (R i).2 h) q.2) : trn S fb R (i + 1) = (cn + 1, some (h, sg S fb (R i).2 h)) := by
  rw [trn, e, t]
  show (cn + @ite _ _ (Classical.propDecidable _) 1 0, _) = _
  rw [if_pos k]
end
theorem trn_le (S : FS) (fb : Nat → Nat) (R : LRS) : ∀ i, (trn S fb R i).1 ≤ i
  | 0 => Nat.le_refl _
  | i + 1 => by
    have := trn_le S fb R i
    rw [trn]
    split
    · omega
    · show _ + _ ≤ _
      split
      · omega
      · split <;> omega
def cpl (R : LRS) : Nat → Nat
  | 0 => 0
  | i + 1 => if (R i).1 = none then cpl R i else cpl R i + 1
theorem cpl_le (R : LRS) : ∀ i, cpl R i ≤ i
  | 0 => Nat.le_refl _
  | i + 1 => by
    have := cpl_le R i
    rw [cpl]
    split <;> omega
theorem hmC_n {x : Option Nat} (hx : ∀ h, x = some h → h < 2 ^ 31) : hmC x = -1 ↔ x = none := by
  cases x with
  | none => exact ⟨fun _ => rfl, fun _ => rfl⟩
  | some h => exact ⟨fun q => absurd q (nI_nm1 (hx h rfl)), fun q => by cases q⟩
theorem cpl_c {V : vM} {n : Nat} {R : LRS} (h : LRc V n R) (hx : ∀ i, i < n → ∀ k, (R i).1 = some k → k < 2 ^ 31) : ∀ i, i ≤ n → cntH V i = nI (cpl R i)
  | 0, _ => rfl
  | i + 1, hi => by
    have e := (h i (by omega)).2
    have q := hmC_n (hx i (by omega))
    rw [cntH, cpl, cpl_c h hx i (by omega), e]
    by_cases z : (R i).1 = none
    · rw [if_pos z, if_pos (q.mpr z)]; exact Int32.add_zero _
    · rw [if_neg z, if_neg (fun p => z (q.mp p)), show (1 : Int32) = nI 1 from rfl, nI_add]
def leZ (S : FS) (fb : Nat → Nat) (n : Nat) (W T : Nat → Int32) (o md c x what : Int32) : Int32 := if (0 ≤ c ∧ c < nI S.2.1) ∧ 0 ≤ x ∧ x < nI n then (if 0 ≤ what ∧ what ≤ 4 then plN S fb (ltRes S fb n W T o md c.toNatClampNeg) x.toNatClampNeg what else -1000002) else -1000001
noncomputable def pcZ (S : FS) (fb : Nat → Nat) (n : Nat) (W T : Nat → Int32) (o md c what : Int32) : Int32 := if 0 ≤ c ∧ c < nI S.2.1 then (if 0 ≤ what ∧ what ≤ 1 then (if what = 0 then nI (cpl (ltRes S fb n W T o md c.toNatClampNeg) n) else nI (trn S fb (ltRes S fb n W T o md c.toNatClampNeg) n).1) else -1000002) else -1000001
section
variable {S : FS} {fb : Nat → Nat} {n : Nat} {W T : Nat → Int32} {o md c x what : Int32}
theorem leZ_no (h : ¬ ((0 ≤ c ∧ c < nI S.2.1) ∧ 0 ≤ x ∧ x < nI n)) : leZ S fb n W T o md c x what = -1000001 := if_neg h
theorem leZ_w (h : (0 ≤ c ∧ c < nI S.2.1) ∧ 0 ≤ x ∧ x < nI n) (h2 : ¬ (0 ≤ what ∧ what ≤ 4)) : leZ S fb n W T o md c x what = -1000002 := by
  unfold leZ; rw [if_pos h, if_neg h2]
theorem leZ_k {k i : Nat} (h24 : S.2.1 ≤ 24) (hn : n ≤ 24) (hk : c = nI k) (hS : k < S.2.1) (hi : x = nI i) (hin : i < n) (h2 : 0 ≤ what ∧ what ≤ 4) : leZ S fb n W T o md c x what = plN S fb (ltRes S fb n W T o md k) i what := by
  unfold leZ
  rw [hk, hi, if_pos ⟨nI_bt (by omega) hS, nI_bt (by omega) hin⟩, if_pos h2, nI_clamp (by omega), nI_clamp (by omega)]
theorem pcZ_no (h : ¬ (0 ≤ c ∧ c < nI S.2.1)) : pcZ S fb n W T o md c what = -1000001 := if_neg h
theorem pcZ_w (h : 0 ≤ c ∧ c < nI S.2.1) (h2 : ¬ (0 ≤ what ∧ what ≤ 1)) : pcZ S fb n W T o md c what = -1000002 := by
  unfold pcZ; rw [if_pos h, if_neg h2]
theorem pcZ_k {k : Nat} (h24 : S.2.1 ≤ 24) (hk : c = nI k) (hS : k < S.2.1) (h2 : 0 ≤ what ∧ what ≤ 1) : pcZ S fb n W T o md c what = if what = 0 then nI (cpl (ltRes S fb n W T o md k) n) else nI (trn S fb (ltRes S fb n W T o md k) n).1 := by
  unfold pcZ
  rw [hk, if_pos (nI_bt (by omega) hS), if_pos h2, nI_clamp (by omega)]
end
set_option maxHeartbeats 1000000 in
set_option maxRecDepth 100000 in
theorem mX3_placeNumber {g : gX} {V : vM} {S : FS} {fb : Nat → Nat} (hF : FRC V S) (hG : GI S fb) (h24 : S.2.1 ≤ 24) (h15 : S.1 ≤ 1536) (hR : ∀ i, i < S.1 → inR (S.2.2 0 i) ∧ inR (S.2.2 1 i)) (n : Nat) (hn24 : n ≤ 24) (hn : V 9 5 = nI n) (R : LRS) (hLR : LRc V n R) (hOK : LOK S fb n R) (i : Nat) (hi : i < n) (what : Int32) : MM g jX3_placeNumber V [.ref (g.2.1 9), .ref (g.2.1 6), .int (nI i), .int what] (pI V (plN S fb R i what)) := by
  refine MM.of plX3_placeNumber (Nat.le_of_ble_eq_true rfl) ?_
  obtain ⟨Q, hQ⟩ : ∃ Q : Option Value → vM → Prop, Q = (pI V (plN S fb R i what)) := ⟨_, rfl⟩
  rw [← hQ]
  show XX g jX3_placeNumber Q V 0 [(0, .ref (g.2.1 9)), (1, .ref (g.2.1 6)), (2, .int (nI i)), (3, .int what)] []
  refine x_iload_n dX3_placeNumber_0 2 rfl ?_
  refine x_if_lt 22 dX3_placeNumber_1 (by decide) (fun c1 => by exfalso; exact absurd c1 (nI_pos (by omega))) (fun c1 => ?_)
  refine x_iload_n dX3_placeNumber_4 2 rfl ?_
  refine x_aload_n dX3_placeNumber_5 0 rfl ?_
  refine x_getI fl_X3_27 rfl rfl dX3_placeNumber_6 ?_
  refine x_topi (hn) ?_
  refine x_icmp_ge 22 dX3_placeNumber_9 (by decide) (fun c2 => by exfalso; exact absurd ((nl_le (a := n) (b := i) rfl rfl (by omega) (by omega)).mp c2) (by omega)) (fun c2 => ?_)
  rcases hRi : (R i).1 with _ | h
  · -- none
    refine x_aload_n dX3_placeNumber_12 0 rfl ?_
    refine x_getR fl_X3_24 rfl rfl dX3_placeNumber_13 ?_
    refine x_iload_n dX3_placeNumber_16 2 rfl ?_
    have b3 : vp_in (nI i) 24 := by exact vp_in_nI (by omega) (by decide)
    refine x_iald rfl b3 dX3_placeNumber_17 ?_
    refine x_topi (y := V 35 i) (by rw [nI_clamp (by omega)]) ?_
    refine x_topi (((hLR i (by omega)).2.trans (congrArg hmC hRi) : V 35 i = -1)) ?_
    refine x_iconst (v := -1) dX3_placeNumber_18 (by decide) ?_
    refine x_icmp_ne 25 dX3_placeNumber_19 (by decide) (fun c4 => by exfalso; revert c4; decide) (fun c4 => ?_)
    refine x_ldc ct_X3_106 dX3_placeNumber_22 ?_
    refine x_iret dX3_placeNumber_24 rfl ?_
    rw [hQ]
    refine ⟨rfl, ?_⟩
    rw [plN_n hRi]
  · -- some
    obtain ⟨hk1, hk2, hk3, hk4⟩ := hOK i (by omega) h hRi
    have hbh := hG.bd (j := h + 1) (by omega)
    refine x_aload_n dX3_placeNumber_12 0 rfl ?_
    refine x_getR fl_X3_24 rfl rfl dX3_placeNumber_13 ?_
    refine x_iload_n dX3_placeNumber_16 2 rfl ?_
    have b5 : vp_in (nI i) 24 := by exact vp_in_nI (by omega) (by decide)
    refine x_iald rfl b5 dX3_placeNumber_17 ?_
    refine x_topi (y := V 35 i) (by rw [nI_clamp (by omega)]) ?_
    refine x_topi (((hLR i (by omega)).2.trans (congrArg hmC hRi) : V 35 i = nI h)) ?_
    refine x_iconst (v := -1) dX3_placeNumber_18 (by decide) ?_
    refine x_icmp_ne 25 dX3_placeNumber_19 (by decide) (fun c6 => ?_) (fun c6 => by exfalso; exact nI_nm1 (k := h) (by omega) c6)
    refine x_iload_n dX3_placeNumber_25 3 rfl ?_
    by_cases c7 : what = 0
    · refine x_lookup (off := 26) 52 dX3_placeNumber_26 (by decide) (by rw [c7] <;> rfl) (by decide) ?_
      refine x_aload_n dX3_placeNumber_52 0 rfl ?_
      refine x_getR fl_X3_24 rfl rfl dX3_placeNumber_53 ?_
      refine x_iload_n dX3_placeNumber_56 2 rfl ?_
      have b8 : vp_in (nI i) 24 := by exact vp_in_nI (by omega) (by decide)
      refine x_iald rfl b8 dX3_placeNumber_57 ?_
      refine x_topi (y := V 35 i) (by rw [nI_clamp (by omega)]) ?_
      refine x_topi (((hLR i (by omega)).2.trans (congrArg hmC hRi) : V 35 i = nI h)) ?_
      refine x_iret dX3_placeNumber_58 rfl ?_
      rw [hQ]
      refine ⟨rfl, ?_⟩
      rw [plN_s hRi]
      first | rw [if_pos (by assumption)] | rw [if_neg (by assumption), if_pos (by assumption)] | rw [if_neg (by assumption), if_neg (by assumption)]
    by_cases c9 : what = 1
    · refine x_lookup (off := 33) 59 dX3_placeNumber_26 (by decide) (by rw [c9] <;> rfl) (by decide) ?_
      refine x_aload_n dX3_placeNumber_59 0 rfl ?_
      refine x_getR fl_X3_21 rfl rfl dX3_placeNumber_60 ?_
      refine x_iload_n dX3_placeNumber_63 2 rfl ?_
      have b10 : vp_in (nI i) 24 := by exact vp_in_nI (by omega) (by decide)
      refine x_iald rfl b10 dX3_placeNumber_64 ?_
      refine x_topi (y := V 34 i) (by rw [nI_clamp (by omega)]) ?_
      refine x_topi ((hLR i (by omega)).1) ?_
      refine x_iret dX3_placeNumber_65 rfl ?_
      rw [hQ]
      refine ⟨rfl, ?_⟩
      rw [plN_s hRi]
      first | rw [if_pos (by assumption)] | rw [if_neg (by assumption), if_pos (by assumption)] | rw [if_neg (by assumption), if_neg (by assumption)]
    refine x_lookup (off := 40) 66 dX3_placeNumber_26 (by decide) ((lv_osw c7 (by decide)).trans ((lv_osw c9 (by decide)).trans (rfl))) (by decide) ?_
    refine x_aload_n dX3_placeNumber_66 1 rfl ?_
    refine x_aload_n dX3_placeNumber_67 0 rfl ?_
    refine x_getR fl_X3_24 rfl rfl dX3_placeNumber_68 ?_
    refine x_iload_n dX3_placeNumber_71 2 rfl ?_
    have b11 : vp_in (nI i) 24 := by exact vp_in_nI (by omega) (by decide)
    refine x_iald rfl b11 dX3_placeNumber_72 ?_
    refine x_topi (y := V 35 i) (by rw [nI_clamp (by omega)]) ?_
    refine x_topi (((hLR i (by omega)).2.trans (congrArg hmC hRi) : V 35 i = nI h)) ?_
    refine x_aload_n dX3_placeNumber_73 0 rfl ?_
    refine x_getR fl_X3_21 rfl rfl dX3_placeNumber_74 ?_
    refine x_iload_n dX3_placeNumber_77 2 rfl ?_
    have b12 : vp_in (nI i) 24 := by exact vp_in_nI (by omega) (by decide)
    refine x_iald rfl b12 dX3_placeNumber_78 ?_
    refine x_topi (y := V 34 i) (by rw [nI_clamp (by omega)]) ?_
    refine x_topi ((hLR i (by omega)).1) ?_
    refine x_iload_n dX3_placeNumber_79 3 rfl ?_
    refine x_iconst (v := 2) dX3_placeNumber_80 (by decide) ?_
    refine x_isub dX3_placeNumber_81 ?_
    refine x_callV (K := jX1_pointNumber) [.int (nI h), .int ((R i).2), .int (what - 2)] lk_X3_107 ⟨⟨rfl, rfl⟩, Nat.le_of_ble_eq_true rfl, Nat.le_of_ble_eq_true rfl⟩ rfl rfl (mX1_pointNumber hF hG h24 h15 hR h (by omega) (by omega) ((R i).2) (what - 2)) rfl (Nat.le_of_ble_eq_true rfl) rfl dX3_placeNumber_82 (kpI ?_)
    refine x_iret dX3_placeNumber_85 rfl ?_
    rw [hQ]
    refine ⟨rfl, ?_⟩
    rw [plN_s hRi]
    first | rw [if_pos (by assumption)] | rw [if_neg (by assumption), if_pos (by assumption)] | rw [if_neg (by assumption), if_neg (by assumption)]
set_option maxHeartbeats 1000000 in
set_option maxRecDepth 100000 in
theorem mX1_isBackward {g : gX} {V : vM} {S : FS} {fb : Nat → Nat} (hF : FRC V S) (hG : GI S fb) (h24 : S.2.1 ≤ 24) (h15 : S.1 ≤ 1536) (i j : Nat) (h1 : 1 ≤ i) (hi : i < S.1) (h2 : 1 ≤ j) (hj : j < S.1) : MM g jX1_isBackward V [.ref (g.2.1 6), .int (nI i), .int (nI j)] (pI V (bP (bk S i j))) := by
  refine MM.of plX1_isBackward (Nat.le_of_ble_eq_true rfl) ?_
  obtain ⟨Q, hQ⟩ : ∃ Q : Option Value → vM → Prop, Q = (pI V (bP (bk S i j))) := ⟨_, rfl⟩
  rw [← hQ]
  show XX g jX1_isBackward Q V 0 [(0, .ref (g.2.1 6)), (1, .int (nI i)), (2, .int (nI j))] []
  refine x_aload_n dX1_isBackward_0 0 rfl ?_
  refine x_aload_n dX1_isBackward_1 0 rfl ?_
  refine x_getR fl_X1_9 rfl rfl dX1_isBackward_2 ?_
  refine x_iload_n dX1_isBackward_5 1 rfl ?_
  refine x_callV (K := jX1_difference) [.ref (g.2.1 20), .int (nI i)] lk_X1_132 ⟨⟨rfl, rfl⟩, Nat.le_of_ble_eq_true rfl, Nat.le_of_ble_eq_true rfl⟩ rfl rfl (by have := mX1_difference (g := g) hF hG h24 h15 20 i rfl (by omega) (by omega); rw [(hF.2.2.1 i (by omega)).1, (hF.2.2.1 (i - 1) (by omega)).1] at this; exact this) rfl (Nat.le_of_ble_eq_true rfl) rfl dX1_isBackward_6 (kpI ?_)
  refine x_aload_n dX1_isBackward_9 0 rfl ?_
  refine x_aload_n dX1_isBackward_10 0 rfl ?_
  refine x_getR fl_X1_9 rfl rfl dX1_isBackward_11 ?_
  refine x_iload_n dX1_isBackward_14 2 rfl ?_
  refine x_callV (K := jX1_difference) [.ref (g.2.1 20), .int (nI j)] lk_X1_132 ⟨⟨rfl, rfl⟩, Nat.le_of_ble_eq_true rfl, Nat.le_of_ble_eq_true rfl⟩ rfl rfl (by have := mX1_difference (g := g) hF hG h24 h15 20 j rfl (by omega) (by omega); rw [(hF.2.2.1 j (by omega)).1, (hF.2.2.1 (j - 1) (by omega)).1] at this; exact this) rfl (Nat.le_of_ble_eq_true rfl) rfl dX1_isBackward_15 (kpI ?_)
  refine x_imul dX1_isBackward_18 ?_
  refine x_aload_n dX1_isBackward_19 0 rfl ?_
  refine x_aload_n dX1_isBackward_20 0 rfl ?_
  refine x_getR fl_X1_15 rfl rfl dX1_isBackward_21 ?_
  refine x_iload_n dX1_isBackward_24 1 rfl ?_
  refine x_callV (K := jX1_difference) [.ref (g.2.1 21), .int (nI i)] lk_X1_132 ⟨⟨rfl, rfl⟩, Nat.le_of_ble_eq_true rfl, Nat.le_of_ble_eq_true rfl⟩ rfl rfl (by have := mX1_difference (g := g) hF hG h24 h15 21 i rfl (by omega) (by omega); rw [(hF.2.2.1 i (by omega)).2.1, (hF.2.2.1 (i - 1) (by omega)).2.1] at this; exact this) rfl (Nat.le_of_ble_eq_true rfl) rfl dX1_isBackward_25 (kpI ?_)
  refine x_aload_n dX1_isBackward_28 0 rfl ?_
  refine x_aload_n dX1_isBackward_29 0 rfl ?_
  refine x_getR fl_X1_15 rfl rfl dX1_isBackward_30 ?_
  refine x_iload_n dX1_isBackward_33 2 rfl ?_
  refine x_callV (K := jX1_difference) [.ref (g.2.1 21), .int (nI j)] lk_X1_132 ⟨⟨rfl, rfl⟩, Nat.le_of_ble_eq_true rfl, Nat.le_of_ble_eq_true rfl⟩ rfl rfl (by have := mX1_difference (g := g) hF hG h24 h15 21 j rfl (by omega) (by omega); rw [(hF.2.2.1 j (by omega)).2.1, (hF.2.2.1 (j - 1) (by omega)).2.1] at this; exact this) rfl (Nat.le_of_ble_eq_true rfl) rfl dX1_isBackward_34 (kpI ?_)
  refine x_imul dX1_isBackward_37 ?_
  refine x_iadd dX1_isBackward_38 ?_
  refine x_istore_n 3 [(3, .int (((S.2.2 0 i - S.2.2 0 (i - 1)) * (S.2.2 0 j - S.2.2 0 (j - 1))) + ((S.2.2 1 i - S.2.2 1 (i - 1)) * (S.2.2 1 j - S.2.2 1 (j - 1))))), (0, .ref (g.2.1 6)), (1, .int (nI i)), (2, .int (nI j))] dX1_isBackward_39 rfl (by decide) rfl ?_
  refine x_iload_n dX1_isBackward_40 0 rfl ?_
  refine x_if_ge 48 dX1_isBackward_41 (by decide) (fun c1 => ?_) (fun c1 => ?_)
  · refine x_iconst (v := 0) dX1_isBackward_48 (by decide) ?_
    refine x_zret dX1_isBackward_49 rfl (by exact nar01 (by first | exact Or.inl rfl | exact Or.inr rfl | grind)) ?_
    rw [hQ]
    refine ⟨rfl, ?_⟩
    first | rw [bP_t (show bk S i j from Int32.not_le.mp (by assumption))] | rw [bP_f (show ¬ bk S i j from Int32.not_lt.mpr (by assumption))]
  · refine x_iconst (v := 1) dX1_isBackward_44 (by decide) ?_
    refine x_goto 49 dX1_isBackward_45 (by decide) ?_
    refine x_zret dX1_isBackward_49 rfl (by exact nar01 (by first | exact Or.inl rfl | exact Or.inr rfl | grind)) ?_
    rw [hQ]
    refine ⟨rfl, ?_⟩
    first | rw [bP_t (show bk S i j from Int32.not_le.mp (by assumption))] | rw [bP_f (show ¬ bk S i j from Int32.not_lt.mpr (by assumption))]
def lhm : Option (Nat × Nat) → Int32
  | none => -1
  | some q => nI q.1
def lsg : Option (Nat × Nat) → Int32
  | none => 0
  | some q => nI q.2
set_option maxHeartbeats 1000000 in
set_option maxRecDepth 100000 in
theorem mX3_turnsBackward {g : gX} {V : vM} {S : FS} {fb : Nat → Nat} (hF : FRC V S) (hG : GI S fb) (h24 : S.2.1 ≤ 24) (h15 : S.1 ≤ 1536) (n : Nat) (hn24 : n ≤ 24) (hn : V 9 5 = nI n) (R : LRS) (hLR : LRc V n R) (hOK : LOK S fb n R) : MM g jX3_turnsBackward V [.ref (g.2.1 9), .ref (g.2.1 6)] (pI V (nI (trn S fb R n).1)) := by
  refine MM.of plX3_turnsBackward (Nat.le_of_ble_eq_true rfl) ?_
  obtain ⟨Q, hQ⟩ : ∃ Q : Option Value → vM → Prop, Q = (pI V (nI (trn S fb R n).1)) := ⟨_, rfl⟩
  rw [← hQ]
  show XX g jX3_turnsBackward Q V 0 [(0, .ref (g.2.1 9)), (1, .ref (g.2.1 6))] []
  refine x_iconst (v := 0) dX3_turnsBackward_0 (by decide) ?_
  refine x_istore_n 2 [(2, .int 0), (0, .ref (g.2.1 9)), (1, .ref (g.2.1 6))] dX3_turnsBackward_1 rfl (by decide) rfl ?_
  refine x_iconst (v := -1) dX3_turnsBackward_2 (by decide) ?_
  refine x_istore_n 3 [(3, .int (-1)), (2, .int 0), (0, .ref (g.2.1 9)), (1, .ref (g.2.1 6))] dX3_turnsBackward_3 rfl (by decide) rfl ?_
  refine x_iconst (v := 0) dX3_turnsBackward_4 (by decide) ?_
  refine x_istore 4 [(4, .int 0), (3, .int (-1)), (2, .int 0), (0, .ref (g.2.1 9)), (1, .ref (g.2.1 6))] dX3_turnsBackward_5 (by decide) rfl ?_
  refine x_iconst (v := 0) dX3_turnsBackward_7 (by decide) ?_
  refine x_istore 5 [(5, .int 0), (4, .int 0), (3, .int (-1)), (2, .int 0), (0, .ref (g.2.1 9)), (1, .ref (g.2.1 6))] dX3_turnsBackward_8 (by decide) rfl ?_
  have lp1 : ∀ (fu : Nat) (i : Nat) (cn : Nat) (la : Option (Nat × Nat)), (i ≤ n) → (trn S fb R i = (cn, la)) → (∀ q : Nat × Nat, la = some q → q.1 < 24 ∧ 1 ≤ q.2 ∧ q.2 < S.1) → (n - i) < fu → XX g jX3_turnsBackward Q V 10 [(5, .int (nI i)), (4, .int (lsg la)), (3, .int (lhm la)), (2, .int (nI cn)), (0, .ref (g.2.1 9)), (1, .ref (g.2.1 6))] [] := by
    intro fu
    induction fu with
    | zero => intro _ _ _ _ _ _ hmz; exact absurd hmz (Nat.not_lt_zero _)
    | succ fu ih =>
      intro i cn la hi hT hla hmz
      have hcnl := trn_le S fb R i
      rw [hT] at hcnl
      dsimp only at hcnl
      refine x_iload dX3_turnsBackward_10 0 rfl ?_
      refine x_aload_n dX3_turnsBackward_12 4 rfl ?_
      refine x_getI fl_X3_27 rfl rfl dX3_turnsBackward_13 ?_
      refine x_topi (hn) ?_
      refine x_icmp_ge 93 dX3_turnsBackward_16 (by decide) (fun c2 => ?_) (fun c2 => ?_)
      · have c2n : n ≤ i := (nl_le (a := n) (b := i) (rfl) (rfl) (by omega) (by omega)).mp c2
        refine x_iload_n dX3_turnsBackward_93 3 rfl ?_
        refine x_iret dX3_turnsBackward_94 rfl ?_
        rw [hQ]
        refine ⟨rfl, ?_⟩
        rw [show n = i by omega, hT]
      · have c2n : i < n := Nat.not_le.mp (fun q => c2 ((nl_le (a := n) (b := i) (rfl) (rfl) (by omega) (by omega)).mpr q))
        rcases hRi : (R i).1 with _ | h
        · -- none
          refine x_aload_n dX3_turnsBackward_19 4 rfl ?_
          refine x_getR fl_X3_24 rfl rfl dX3_turnsBackward_20 ?_
          refine x_iload dX3_turnsBackward_23 0 rfl ?_
          have b3 : vp_in (nI i) 24 := by exact vp_in_nI (by omega) (by decide)
          refine x_iald rfl b3 dX3_turnsBackward_25 ?_
          refine x_topi (y := V 35 i) (by rw [nI_clamp (by omega)]) ?_
          refine x_topi (((hLR i (by omega)).2.trans (congrArg hmC hRi) : V 35 i = -1)) ?_
          refine x_iconst (v := -1) dX3_turnsBackward_26 (by decide) ?_
          refine x_icmp_eq 87 dX3_turnsBackward_27 (by decide) (fun c4 => ?_) (fun c4 => by exfalso; revert c4; decide)
          refine x_iinc 5 (v := (nI i) + 1) 0 [(5, .int ((nI i) + 1)), (4, .int (lsg la)), (3, .int (lhm la)), (2, .int (nI cn)), (0, .ref (g.2.1 9)), (1, .ref (g.2.1 6))] dX3_turnsBackward_87 rfl (by rfl) (by decide) rfl ?_
          refine x_goto 10 dX3_turnsBackward_90 (by decide) ?_
          refine YY.L (lv' := [(5, .int (nI (i + 1))), (4, .int (lsg la)), (3, .int (lhm la)), (2, .int (nI cn)), (0, .ref (g.2.1 9)), (1, .ref (g.2.1 6))]) (by first | (rw [nI_1, nI_1] <;> rfl) | (rw [nI_1] <;> rfl)) ?_
          exact ih (i + 1) cn la (by omega) (by exact trn_n hRi hT) (by exact hla) (by omega)
        · -- some
          obtain ⟨hk1, hk2, hk3, hk4⟩ := hOK i (by omega) h hRi
          have hbh := hG.bd (j := h + 1) (by omega)
          refine x_aload_n dX3_turnsBackward_19 4 rfl ?_
          refine x_getR fl_X3_24 rfl rfl dX3_turnsBackward_20 ?_
          refine x_iload dX3_turnsBackward_23 0 rfl ?_
          have b5 : vp_in (nI i) 24 := by exact vp_in_nI (by omega) (by decide)
          refine x_iald rfl b5 dX3_turnsBackward_25 ?_
          refine x_topi (y := V 35 i) (by rw [nI_clamp (by omega)]) ?_
          refine x_topi (((hLR i (by omega)).2.trans (congrArg hmC hRi) : V 35 i = nI h)) ?_
          refine x_iconst (v := -1) dX3_turnsBackward_26 (by decide) ?_
          refine x_icmp_eq 87 dX3_turnsBackward_27 (by decide) (fun c6 => by exfalso; exact nI_nm1 (k := h) (by omega) c6) (fun c6 => ?_)
          refine x_aload_n dX3_turnsBackward_30 5 rfl ?_
          refine x_aload_n dX3_turnsBackward_31 4 rfl ?_
          refine x_getR fl_X3_24 rfl rfl dX3_turnsBackward_32 ?_
          refine x_iload dX3_turnsBackward_35 0 rfl ?_
          have b7 : vp_in (nI i) 24 := by exact vp_in_nI (by omega) (by decide)
          refine x_iald rfl b7 dX3_turnsBackward_37 ?_
          refine x_topi (y := V 35 i) (by rw [nI_clamp (by omega)]) ?_
          refine x_topi (((hLR i (by omega)).2.trans (congrArg hmC hRi) : V 35 i = nI h)) ?_
          refine x_aload_n dX3_turnsBackward_38 4 rfl ?_
          refine x_getR fl_X3_21 rfl rfl dX3_turnsBackward_39 ?_
          refine x_iload dX3_turnsBackward_42 0 rfl ?_
          have b8 : vp_in (nI i) 24 := by exact vp_in_nI (by omega) (by decide)
          refine x_iald rfl b8 dX3_turnsBackward_44 ?_
          refine x_topi (y := V 34 i) (by rw [nI_clamp (by omega)]) ?_
          refine x_topi ((hLR i (by omega)).1) ?_
          refine x_callV (K := jX1_segmentAt) [.int (nI h), .int ((R i).2)] lk_X3_110 ⟨⟨rfl, rfl⟩, Nat.le_of_ble_eq_true rfl, Nat.le_of_ble_eq_true rfl⟩ rfl rfl (mX1_segmentAt hF hG h24 h15 h (by omega) (by omega) ((R i).2)) rfl (Nat.le_of_ble_eq_true rfl) rfl dX3_turnsBackward_45 (kpI ?_)
          obtain ⟨sgi, esg⟩ : ∃ z : Nat, z = sg S fb ((R i).2) h := ⟨_, rfl⟩
          have hsb := sg_b (S := S) (fb := fb) (dist := ((R i).2)) (c := h) (by omega)
          rw [← esg] at hsb
          refine x_topi (y := nI sgi) (by rw [esg]) ?_
          refine x_istore 6 [(6, .int (nI sgi)), (5, .int (nI i)), (4, .int (lsg la)), (3, .int (lhm la)), (2, .int (nI cn)), (0, .ref (g.2.1 9)), (1, .ref (g.2.1 6))] dX3_turnsBackward_48 (by decide) rfl ?_
          rcases hla2 : la with _ | q2
          · -- last 0
            subst hla2
            refine YY.L (lv' := [(6, .int (nI sgi)), (5, .int (nI i)), (4, .int 0), (3, .int (-1)), (2, .int (nI cn)), (0, .ref (g.2.1 9)), (1, .ref (g.2.1 6))]) (by rfl) ?_
            refine x_aload_n dX3_turnsBackward_50 5 rfl ?_
            refine x_getR fl_X3_24 rfl rfl dX3_turnsBackward_51 ?_
            refine x_iload dX3_turnsBackward_54 1 rfl ?_
            have b9 : vp_in (nI i) 24 := by exact vp_in_nI (by omega) (by decide)
            refine x_iald rfl b9 dX3_turnsBackward_56 ?_
            refine x_topi (y := V 35 i) (by rw [nI_clamp (by omega)]) ?_
            refine x_topi (((hLR i (by omega)).2.trans (congrArg hmC hRi) : V 35 i = nI h)) ?_
            refine x_iload_n dX3_turnsBackward_57 3 rfl ?_
            refine x_icmp_ne 75 dX3_turnsBackward_58 (by decide) (fun c10 => ?_) (fun c10 => by exfalso; exact nI_nm1 (k := h) (by omega) c10)
            refine x_aload_n dX3_turnsBackward_75 5 rfl ?_
            refine x_getR fl_X3_24 rfl rfl dX3_turnsBackward_76 ?_
            refine x_iload dX3_turnsBackward_79 1 rfl ?_
            have b11 : vp_in (nI i) 24 := by exact vp_in_nI (by omega) (by decide)
            refine x_iald rfl b11 dX3_turnsBackward_81 ?_
            refine x_topi (y := V 35 i) (by rw [nI_clamp (by omega)]) ?_
            refine x_topi (((hLR i (by omega)).2.trans (congrArg hmC hRi) : V 35 i = nI h)) ?_
            refine x_istore_n 3 [(3, .int (nI h)), (6, .int (nI sgi)), (5, .int (nI i)), (4, .int 0), (2, .int (nI cn)), (0, .ref (g.2.1 9)), (1, .ref (g.2.1 6))] dX3_turnsBackward_82 rfl (by decide) rfl ?_
            refine x_iload dX3_turnsBackward_83 1 rfl ?_
            refine x_istore 4 [(4, .int (nI sgi)), (3, .int (nI h)), (6, .int (nI sgi)), (5, .int (nI i)), (2, .int (nI cn)), (0, .ref (g.2.1 9)), (1, .ref (g.2.1 6))] dX3_turnsBackward_85 (by decide) rfl ?_
            refine x_iinc 5 (v := (nI i) + 1) 3 [(5, .int ((nI i) + 1)), (4, .int (nI sgi)), (3, .int (nI h)), (6, .int (nI sgi)), (2, .int (nI cn)), (0, .ref (g.2.1 9)), (1, .ref (g.2.1 6))] dX3_turnsBackward_87 rfl (by rfl) (by decide) rfl ?_
            refine x_goto 10 dX3_turnsBackward_90 (by decide) ?_
            refine x_lv [0, 1, 2, 4, 5, 6] rfl ?_
            refine YY.L (lv' := [(5, .int (nI (i + 1))), (4, .int (lsg (some (h, sgi)))), (3, .int (lhm (some (h, sgi)))), (2, .int (nI cn)), (0, .ref (g.2.1 9)), (1, .ref (g.2.1 6))]) (by first | (rw [nI_1, nI_1] <;> rfl) | (rw [nI_1] <;> rfl)) ?_
            exact ih (i + 1) cn (some (h, sgi)) (by omega) (by rw [esg]; exact trn_0 hRi hT) (by intro q e; cases e; exact ⟨by omega, by omega, by omega⟩) (by omega)
          · -- last 1
            subst hla2
            obtain ⟨hq1, hq2, hq3⟩ := hla q2 rfl
            obtain ⟨h2, s2⟩ := q2
            dsimp only at hq1 hq2 hq3
            refine YY.L (lv' := [(6, .int (nI sgi)), (5, .int (nI i)), (4, .int (nI s2)), (3, .int (nI h2)), (2, .int (nI cn)), (0, .ref (g.2.1 9)), (1, .ref (g.2.1 6))]) (by rfl) ?_
            refine x_aload_n dX3_turnsBackward_50 5 rfl ?_
            refine x_getR fl_X3_24 rfl rfl dX3_turnsBackward_51 ?_
            refine x_iload dX3_turnsBackward_54 1 rfl ?_
            have b12 : vp_in (nI i) 24 := by exact vp_in_nI (by omega) (by decide)
            refine x_iald rfl b12 dX3_turnsBackward_56 ?_
            refine x_topi (y := V 35 i) (by rw [nI_clamp (by omega)]) ?_
            refine x_topi (((hLR i (by omega)).2.trans (congrArg hmC hRi) : V 35 i = nI h)) ?_
            refine x_iload_n dX3_turnsBackward_57 3 rfl ?_
            refine x_icmp_ne 75 dX3_turnsBackward_58 (by decide) (fun c13 => ?_) (fun c13 => ?_)
            · have c13n : ¬ h = h2 := fun q => c13 ((nl_eq (a := h) (b := h2) (rfl) (rfl) (by omega) (by omega)).mpr q)
              refine x_aload_n dX3_turnsBackward_75 5 rfl ?_
              refine x_getR fl_X3_24 rfl rfl dX3_turnsBackward_76 ?_
              refine x_iload dX3_turnsBackward_79 1 rfl ?_
              have b14 : vp_in (nI i) 24 := by exact vp_in_nI (by omega) (by decide)
              refine x_iald rfl b14 dX3_turnsBackward_81 ?_
              refine x_topi (y := V 35 i) (by rw [nI_clamp (by omega)]) ?_
              refine x_topi (((hLR i (by omega)).2.trans (congrArg hmC hRi) : V 35 i = nI h)) ?_
              refine x_istore_n 3 [(3, .int (nI h)), (6, .int (nI sgi)), (5, .int (nI i)), (4, .int (nI s2)), (2, .int (nI cn)), (0, .ref (g.2.1 9)), (1, .ref (g.2.1 6))] dX3_turnsBackward_82 rfl (by decide) rfl ?_
              refine x_iload dX3_turnsBackward_83 1 rfl ?_
              refine x_istore 4 [(4, .int (nI sgi)), (3, .int (nI h)), (6, .int (nI sgi)), (5, .int (nI i)), (2, .int (nI cn)), (0, .ref (g.2.1 9)), (1, .ref (g.2.1 6))] dX3_turnsBackward_85 (by decide) rfl ?_
              refine x_iinc 5 (v := (nI i) + 1) 3 [(5, .int ((nI i) + 1)), (4, .int (nI sgi)), (3, .int (nI h)), (6, .int (nI sgi)), (2, .int (nI cn)), (0, .ref (g.2.1 9)), (1, .ref (g.2.1 6))] dX3_turnsBackward_87 rfl (by rfl) (by decide) rfl ?_
              refine x_goto 10 dX3_turnsBackward_90 (by decide) ?_
              refine x_lv [0, 1, 2, 4, 5, 6] rfl ?_
              refine YY.L (lv' := [(5, .int (nI (i + 1))), (4, .int (lsg (some (h, sgi)))), (3, .int (lhm (some (h, sgi)))), (2, .int (nI cn)), (0, .ref (g.2.1 9)), (1, .ref (g.2.1 6))]) (by first | (rw [nI_1, nI_1] <;> rfl) | (rw [nI_1] <;> rfl)) ?_
              exact ih (i + 1) cn (some (h, sgi)) (by omega) (by rw [esg]; exact trn_f hRi hT (fun z => by have z1 := z.1; have z2 := z.2; rw [← esg] at z2; first | exact absurd z2 (by assumption) | (dsimp only at z1; omega))) (by intro q e; cases e; exact ⟨by omega, by omega, by omega⟩) (by omega)
            · have c13n : h = h2 := (nl_eq (a := h) (b := h2) (rfl) (rfl) (by omega) (by omega)).mp c13
              refine x_aload_n dX3_turnsBackward_61 6 rfl ?_
              refine x_iload dX3_turnsBackward_62 0 rfl ?_
              refine x_iload dX3_turnsBackward_64 2 rfl ?_
              refine x_callV (K := jX1_isBackward) [.int (nI sgi), .int (nI s2)] lk_X3_113 ⟨⟨rfl, rfl⟩, Nat.le_of_ble_eq_true rfl, Nat.le_of_ble_eq_true rfl⟩ rfl rfl (mX1_isBackward hF hG h24 h15 sgi s2 (by omega) (by omega) (by omega) (by omega)) rfl (Nat.le_of_ble_eq_true rfl) rfl dX3_turnsBackward_66 (kpI ?_)
              refine x_if_eq 75 dX3_turnsBackward_69 (by decide) (fun c15 => ?_) (fun c15 => ?_)
              · have c15n : ¬ (bk S sgi s2) := bP_0.mp c15
                refine x_aload_n dX3_turnsBackward_75 5 rfl ?_
                refine x_getR fl_X3_24 rfl rfl dX3_turnsBackward_76 ?_
                refine x_iload dX3_turnsBackward_79 1 rfl ?_
                have b16 : vp_in (nI i) 24 := by exact vp_in_nI (by omega) (by decide)
                refine x_iald rfl b16 dX3_turnsBackward_81 ?_
                refine x_topi (y := V 35 i) (by rw [nI_clamp (by omega)]) ?_
                refine x_topi (((hLR i (by omega)).2.trans (congrArg hmC hRi) : V 35 i = nI h)) ?_
                refine x_istore_n 3 [(3, .int (nI h)), (6, .int (nI sgi)), (5, .int (nI i)), (4, .int (nI s2)), (2, .int (nI cn)), (0, .ref (g.2.1 9)), (1, .ref (g.2.1 6))] dX3_turnsBackward_82 rfl (by decide) rfl ?_
                refine x_iload dX3_turnsBackward_83 1 rfl ?_
                refine x_istore 4 [(4, .int (nI sgi)), (3, .int (nI h)), (6, .int (nI sgi)), (5, .int (nI i)), (2, .int (nI cn)), (0, .ref (g.2.1 9)), (1, .ref (g.2.1 6))] dX3_turnsBackward_85 (by decide) rfl ?_
                refine x_iinc 5 (v := (nI i) + 1) 3 [(5, .int ((nI i) + 1)), (4, .int (nI sgi)), (3, .int (nI h)), (6, .int (nI sgi)), (2, .int (nI cn)), (0, .ref (g.2.1 9)), (1, .ref (g.2.1 6))] dX3_turnsBackward_87 rfl (by rfl) (by decide) rfl ?_
                refine x_goto 10 dX3_turnsBackward_90 (by decide) ?_
                refine x_lv [0, 1, 2, 4, 5, 6] rfl ?_
                refine YY.L (lv' := [(5, .int (nI (i + 1))), (4, .int (lsg (some (h, sgi)))), (3, .int (lhm (some (h, sgi)))), (2, .int (nI cn)), (0, .ref (g.2.1 9)), (1, .ref (g.2.1 6))]) (by first | (rw [nI_1, nI_1] <;> rfl) | (rw [nI_1] <;> rfl)) ?_
                exact ih (i + 1) cn (some (h, sgi)) (by omega) (by rw [esg]; exact trn_f hRi hT (fun z => by have z1 := z.1; have z2 := z.2; rw [← esg] at z2; first | exact absurd z2 (by assumption) | (dsimp only at z1; omega))) (by intro q e; cases e; exact ⟨by omega, by omega, by omega⟩) (by omega)
              · have c15n : (bk S sgi s2) := Classical.not_not.mp (fun q => c15 (bP_0.mpr q))
                refine x_iinc 2 (v := (nI cn) + 1) 4 [(2, .int ((nI cn) + 1)), (6, .int (nI sgi)), (5, .int (nI i)), (4, .int (nI s2)), (3, .int (nI h2)), (0, .ref (g.2.1 9)), (1, .ref (g.2.1 6))] dX3_turnsBackward_72 rfl (by rfl) (by decide) rfl ?_
                refine x_aload_n dX3_turnsBackward_75 5 rfl ?_
                refine x_getR fl_X3_24 rfl rfl dX3_turnsBackward_76 ?_
                refine x_iload dX3_turnsBackward_79 2 rfl ?_
                have b17 : vp_in (nI i) 24 := by exact vp_in_nI (by omega) (by decide)
                refine x_iald rfl b17 dX3_turnsBackward_81 ?_
                refine x_topi (y := V 35 i) (by rw [nI_clamp (by omega)]) ?_
                refine x_topi (((hLR i (by omega)).2.trans (congrArg hmC hRi) : V 35 i = nI h)) ?_
                refine x_istore_n 3 [(3, .int (nI h)), (2, .int ((nI cn) + 1)), (6, .int (nI sgi)), (5, .int (nI i)), (4, .int (nI s2)), (0, .ref (g.2.1 9)), (1, .ref (g.2.1 6))] dX3_turnsBackward_82 rfl (by decide) rfl ?_
                refine x_iload dX3_turnsBackward_83 2 rfl ?_
                refine x_istore 4 [(4, .int (nI sgi)), (3, .int (nI h)), (2, .int ((nI cn) + 1)), (6, .int (nI sgi)), (5, .int (nI i)), (0, .ref (g.2.1 9)), (1, .ref (g.2.1 6))] dX3_turnsBackward_85 (by decide) rfl ?_
                refine x_iinc 5 (v := (nI i) + 1) 4 [(5, .int ((nI i) + 1)), (4, .int (nI sgi)), (3, .int (nI h)), (2, .int ((nI cn) + 1)), (6, .int (nI sgi)), (0, .ref (g.2.1 9)), (1, .ref (g.2.1 6))] dX3_turnsBackward_87 rfl (by rfl) (by decide) rfl ?_
                refine x_goto 10 dX3_turnsBackward_90 (by decide) ?_
                refine x_lv [0, 1, 2, 3, 5, 6] rfl ?_
                refine YY.L (lv' := [(5, .int (nI (i + 1))), (4, .int (lsg (some (h, sgi)))), (3, .int (lhm (some (h, sgi)))), (2, .int (nI (cn + 1))), (0, .ref (g.2.1 9)), (1, .ref (g.2.1 6))]) (by first | (rw [nI_1, nI_1] <;> rfl) | (rw [nI_1] <;> rfl)) ?_
                exact ih (i + 1) (cn + 1) (some (h, sgi)) (by omega) (by rw [esg]; exact trn_t hRi hT ⟨by omega, by rw [← esg]; assumption⟩) (by intro q e; cases e; exact ⟨by omega, by omega, by omega⟩) (by omega)
  refine YY.L (lv' := [(5, .int (nI 0)), (4, .int (lsg none)), (3, .int (lhm none)), (2, .int (nI 0)), (0, .ref (g.2.1 9)), (1, .ref (g.2.1 6))]) (by rfl) ?_
  exact lp1 _ 0 0 none (by omega) (by rfl) (by intro q e; cases e) (Nat.lt_succ_self _)
