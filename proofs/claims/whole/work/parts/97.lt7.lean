theorem ptN_3 {S : FS} {i c : Nat} {d : Int32} : ptN S i c d 3 = S.2.2 0 i - S.2.2 0 (i - 1) := by
  unfold ptN; rw [if_neg (by decide), if_neg (by decide), if_neg (by decide), if_pos rfl]
theorem ptN_4 {S : FS} {i c : Nat} {d : Int32} : ptN S i c d 4 = S.2.2 1 i - S.2.2 1 (i - 1) := by
  unfold ptN; rw [if_neg (by decide), if_neg (by decide), if_neg (by decide), if_neg (by decide)]
theorem df_i {S : FS} {p i : Nat} (h1 : inR (S.2.2 p i)) (h0 : inR (S.2.2 p (i - 1))) : -8000 ≤ (S.2.2 p i - S.2.2 p (i - 1)).toInt ∧ (S.2.2 p i - S.2.2 p (i - 1)).toInt ≤ 8000 := by
  have a := inR_i h1
  have b := inR_i h0
  rw [fb_subI (by omega) (by omega)]
  omega
theorem bk64 {S : FS} (hR : ∀ i, i < S.1 → inR (S.2.2 0 i) ∧ inR (S.2.2 1 i)) {i j : Nat} (hi : i < S.1) (hj : j < S.1) : (S.2.2 0 i - S.2.2 0 (i - 1)).toInt64 * (S.2.2 0 j - S.2.2 0 (j - 1)).toInt64 + (S.2.2 1 i - S.2.2 1 (i - 1)).toInt64 * (S.2.2 1 j - S.2.2 1 (j - 1)).toInt64 < 0 ↔ bk S i j := by
  have a := df_i (hR i hi).1 (hR (i - 1) (by omega)).1
  have b := df_i (hR i hi).2 (hR (i - 1) (by omega)).2
  have c := df_i (hR j hj).1 (hR (j - 1) (by omega)).1
  have d := df_i (hR j hj).2 (hR (j - 1) (by omega)).2
  have m0 := mul_bd a c
  have m1 := mul_bd b d
  unfold bk
  rw [Int64.lt_iff_toInt_lt, Int32.lt_iff_toInt_lt, show (0 : Int64).toInt = 0 from rfl, show (0 : Int32).toInt = 0 from rfl]
  have e0 : ((S.2.2 0 i - S.2.2 0 (i - 1)).toInt64 * (S.2.2 0 j - S.2.2 0 (j - 1)).toInt64).toInt = (S.2.2 0 i - S.2.2 0 (i - 1)).toInt * (S.2.2 0 j - S.2.2 0 (j - 1)).toInt := by
    rw [fb_mulL] <;> rw [Int32.toInt_toInt64, Int32.toInt_toInt64] <;> omega
  have e1 : ((S.2.2 1 i - S.2.2 1 (i - 1)).toInt64 * (S.2.2 1 j - S.2.2 1 (j - 1)).toInt64).toInt = (S.2.2 1 i - S.2.2 1 (i - 1)).toInt * (S.2.2 1 j - S.2.2 1 (j - 1)).toInt := by
    rw [fb_mulL] <;> rw [Int32.toInt_toInt64, Int32.toInt_toInt64] <;> omega
  have f0 : ((S.2.2 0 i - S.2.2 0 (i - 1)) * (S.2.2 0 j - S.2.2 0 (j - 1))).toInt = (S.2.2 0 i - S.2.2 0 (i - 1)).toInt * (S.2.2 0 j - S.2.2 0 (j - 1)).toInt := fb_mulI (by omega) (by omega)
  have f1 : ((S.2.2 1 i - S.2.2 1 (i - 1)) * (S.2.2 1 j - S.2.2 1 (j - 1))).toInt = (S.2.2 1 i - S.2.2 1 (i - 1)).toInt * (S.2.2 1 j - S.2.2 1 (j - 1)).toInt := fb_mulI (by omega) (by omega)
  rw [fb_addL (by rw [e0, e1]; omega) (by rw [e0, e1]; omega), e0, e1, fb_addI (by rw [f0, f1]; omega) (by rw [f0, f1]; omega), f0, f1]
/-- the last placed letter -/
def lsp (R : LRS) : Nat → Option Nat
  | 0 => none
  | i + 1 => if (R i).1 = none then lsp R i else some i
def lpm : Option Nat → Int32
  | none => -1000006
  | some j => nI j
def lsq (S : FS) (fb : Nat → Nat) (R : LRS) : Option Nat → Option (Nat × Nat)
  | none => none
  | some j => (R j).1.map (fun h => (h, sg S fb (R j).2 h))
theorem trn_l (S : FS) (fb : Nat → Nat) (R : LRS) : ∀ i, (trn S fb R i).2 = lsq S fb R (lsp R i) ∧ ∀ j, lsp R i = some j → j < i ∧ ∃ h, (R j).1 = some h
  | 0 => ⟨rfl, fun j e => by cases e⟩
  | i + 1 => by
    obtain ⟨a, b⟩ := trn_l S fb R i
    rw [lsp]
    cases e : (R i).1 with
    | none =>
      rw [trn, e, if_pos rfl]
      exact ⟨a, fun j q => ⟨by have := (b j q).1; omega, (b j q).2⟩⟩
    | some h =>
      rw [trn, e, if_neg (fun q => by cases q)]
      refine ⟨?_, fun j q => ?_⟩
      · show some (h, sg S fb (R i).2 h) = (R i).1.map _
        rw [e]; rfl
      · cases q; exact ⟨by omega, h, e⟩
set_option maxHeartbeats 2000000 in
set_option maxRecDepth 100000 in
theorem mX10_turnsBack {g : gX} {V : vM} {S : FS} {fb : Nat → Nat} {kc : Nat} (hF : FRM V S kc) (hE : V 65 S.2.1 = nI S.1) (hG : GI S fb) (h24 : S.2.1 ≤ 24) (h15 : S.1 ≤ 1536) (hR : ∀ i, i < S.1 → inR (S.2.2 0 i) ∧ inR (S.2.2 1 i)) (n : Nat) (hn24 : n ≤ 24) (R : LRS) (hLR : LRm V n R) (i j h : Nat) (hi : i < n) (hj : j < n) (eRi : (R i).1 = some h) (hh : h < S.2.1) (h2 : 1 < fb (h + 1) - fb h) (hdi : (R i).2 ≤ lnC S fb h) (hdj : (R j).2 ≤ lnC S fb h) : MM g jX10_turnsBack V [.ref (g.2.1 49), .int (nI i), .int (nI j)] (pI V (bP (bk S (sg S fb (R i).2 h) (sg S fb (R j).2 h)))) := by
  refine MM.of plX10_turnsBack (Nat.le_of_ble_eq_true rfl) ?_
  obtain ⟨Q, hQ⟩ : ∃ Q : Option Value → vM → Prop, Q = (pI V (bP (bk S (sg S fb (R i).2 h) (sg S fb (R j).2 h)))) := ⟨_, rfl⟩
  rw [← hQ]
  show XX g jX10_turnsBack Q V 0 [(0, .ref (g.2.1 49)), (1, .int (nI i)), (2, .int (nI j))] []
  have hbh := hG.bd (j := h + 1) (by omega)
  obtain ⟨si, esi⟩ : ∃ z : Nat, z = sg S fb (R i).2 h := ⟨_, rfl⟩
  obtain ⟨sj, esj⟩ : ∃ z : Nat, z = sg S fb (R j).2 h := ⟨_, rfl⟩
  have b1 := sg_b (S := S) (fb := fb) (dist := (R i).2) (c := h) (by omega)
  have b2 := sg_b (S := S) (fb := fb) (dist := (R j).2) (c := h) (by omega)
  rw [← esi] at b1
  rw [← esj] at b2
  refine x_aload_n dX10_turnsBack_0 0 rfl ?_
  refine x_getR fl_X10_74 rfl rfl dX10_turnsBack_1 ?_
  refine x_iload_n dX10_turnsBack_4 1 rfl ?_
  have b1 : vp_in (nI i) 24 := by exact vp_in_nI (by omega) (by decide)
  refine x_iald rfl b1 dX10_turnsBack_5 ?_
  refine x_topi (y := V 71 i) (by rw [nI_clamp (by omega)]) ?_
  refine x_topi (((hLR i (by omega)).2.trans (congrArg hmM eRi) : V 71 i = nI h)) ?_
  refine x_istore_n 3 [(3, .int (nI h)), (0, .ref (g.2.1 49)), (1, .int (nI i)), (2, .int (nI j))] dX10_turnsBack_6 rfl (by decide) rfl ?_
  refine x_aload_n dX10_turnsBack_7 1 rfl ?_
  refine x_iload_n dX10_turnsBack_8 0 rfl ?_
  refine x_aload_n dX10_turnsBack_9 1 rfl ?_
  refine x_getR fl_X10_77 rfl rfl dX10_turnsBack_10 ?_
  refine x_iload_n dX10_turnsBack_13 2 rfl ?_
  have b2 : vp_in (nI i) 24 := by exact vp_in_nI (by omega) (by decide)
  refine x_iald rfl b2 dX10_turnsBack_14 ?_
  refine x_topi (y := V 72 i) (by rw [nI_clamp (by omega)]) ?_
  refine x_topi ((hLR i (by omega)).1) ?_
  refine x_iconst (v := 3) dX10_turnsBack_15 (by decide) ?_
  refine x_callV (K := jX10_placeAt) [.int (nI h), .int ((R i).2), .int 3] lk_X10_263 ⟨⟨rfl, rfl⟩, Nat.le_of_ble_eq_true rfl, Nat.le_of_ble_eq_true rfl⟩ rfl rfl (by have := mX10_placeAt (g := g) hF hE hG h24 h15 hR h (by omega) (by omega) ((R i).2) hdi 3; rw [ptN_3, ← esi] at this; exact this) rfl (Nat.le_of_ble_eq_true rfl) rfl dX10_turnsBack_16 (kpI ?_)
  refine x_i2l dX10_turnsBack_19 ?_
  refine x_lstore 4 [(4, .long ((S.2.2 0 si - S.2.2 0 (si - 1)).toInt64)), (3, .int (nI h)), (0, .ref (g.2.1 49)), (1, .int (nI i)), (2, .int (nI j))] dX10_turnsBack_20 (by decide) rfl ?_
  refine x_aload_n dX10_turnsBack_22 2 rfl ?_
  refine x_iload_n dX10_turnsBack_23 1 rfl ?_
  refine x_aload_n dX10_turnsBack_24 2 rfl ?_
  refine x_getR fl_X10_77 rfl rfl dX10_turnsBack_25 ?_
  refine x_iload_n dX10_turnsBack_28 3 rfl ?_
  have b3 : vp_in (nI i) 24 := by exact vp_in_nI (by omega) (by decide)
  refine x_iald rfl b3 dX10_turnsBack_29 ?_
  refine x_topi (y := V 72 i) (by rw [nI_clamp (by omega)]) ?_
  refine x_topi ((hLR i (by omega)).1) ?_
  refine x_iconst (v := 4) dX10_turnsBack_30 (by decide) ?_
  refine x_callV (K := jX10_placeAt) [.int (nI h), .int ((R i).2), .int 4] lk_X10_263 ⟨⟨rfl, rfl⟩, Nat.le_of_ble_eq_true rfl, Nat.le_of_ble_eq_true rfl⟩ rfl rfl (by have := mX10_placeAt (g := g) hF hE hG h24 h15 hR h (by omega) (by omega) ((R i).2) hdi 4; rw [ptN_4, ← esi] at this; exact this) rfl (Nat.le_of_ble_eq_true rfl) rfl dX10_turnsBack_31 (kpI ?_)
  refine x_i2l dX10_turnsBack_34 ?_
  refine x_lstore 6 [(6, .long ((S.2.2 1 si - S.2.2 1 (si - 1)).toInt64)), (4, .long ((S.2.2 0 si - S.2.2 0 (si - 1)).toInt64)), (3, .int (nI h)), (0, .ref (g.2.1 49)), (1, .int (nI i)), (2, .int (nI j))] dX10_turnsBack_35 (by decide) rfl ?_
  refine x_lload dX10_turnsBack_37 1 rfl ?_
  refine x_aload_n dX10_turnsBack_39 3 rfl ?_
  refine x_iload_n dX10_turnsBack_40 2 rfl ?_
  refine x_aload_n dX10_turnsBack_41 3 rfl ?_
  refine x_getR fl_X10_77 rfl rfl dX10_turnsBack_42 ?_
  refine x_iload_n dX10_turnsBack_45 5 rfl ?_
  have b4 : vp_in (nI j) 24 := by exact vp_in_nI (by omega) (by decide)
  refine x_iald rfl b4 dX10_turnsBack_46 ?_
  refine x_topi (y := V 72 j) (by rw [nI_clamp (by omega)]) ?_
  refine x_topi ((hLR j (by omega)).1) ?_
  refine x_iconst (v := 3) dX10_turnsBack_47 (by decide) ?_
  refine x_callV (K := jX10_placeAt) [.int (nI h), .int ((R j).2), .int 3] lk_X10_263 ⟨⟨rfl, rfl⟩, Nat.le_of_ble_eq_true rfl, Nat.le_of_ble_eq_true rfl⟩ rfl rfl (by have := mX10_placeAt (g := g) hF hE hG h24 h15 hR h (by omega) (by omega) ((R j).2) hdj 3; rw [ptN_3, ← esj] at this; exact this) rfl (Nat.le_of_ble_eq_true rfl) rfl dX10_turnsBack_48 (kpI ?_)
  refine x_i2l dX10_turnsBack_51 ?_
  refine x_lmul dX10_turnsBack_52 ?_
  refine x_lload dX10_turnsBack_53 0 rfl ?_
  refine x_aload_n dX10_turnsBack_55 3 rfl ?_
  refine x_iload_n dX10_turnsBack_56 2 rfl ?_
  refine x_aload_n dX10_turnsBack_57 3 rfl ?_
  refine x_getR fl_X10_77 rfl rfl dX10_turnsBack_58 ?_
  refine x_iload_n dX10_turnsBack_61 5 rfl ?_
  have b5 : vp_in (nI j) 24 := by exact vp_in_nI (by omega) (by decide)
  refine x_iald rfl b5 dX10_turnsBack_62 ?_
  refine x_topi (y := V 72 j) (by rw [nI_clamp (by omega)]) ?_
  refine x_topi ((hLR j (by omega)).1) ?_
  refine x_iconst (v := 4) dX10_turnsBack_63 (by decide) ?_
  refine x_callV (K := jX10_placeAt) [.int (nI h), .int ((R j).2), .int 4] lk_X10_263 ⟨⟨rfl, rfl⟩, Nat.le_of_ble_eq_true rfl, Nat.le_of_ble_eq_true rfl⟩ rfl rfl (by have := mX10_placeAt (g := g) hF hE hG h24 h15 hR h (by omega) (by omega) ((R j).2) hdj 4; rw [ptN_4, ← esj] at this; exact this) rfl (Nat.le_of_ble_eq_true rfl) rfl dX10_turnsBack_64 (kpI ?_)
  refine x_i2l dX10_turnsBack_67 ?_
  refine x_lmul dX10_turnsBack_68 ?_
  refine x_ladd dX10_turnsBack_69 ?_
  refine x_lconst (v := 0) dX10_turnsBack_70 (by decide) ?_
  refine x_lcmp dX10_turnsBack_71 ?_
  refine x_if_ge 79 dX10_turnsBack_72 (by decide) (fun c6 => ?_) (fun c6 => ?_)
  · have c6n : 0 ≤ ((((S.2.2 0 si - S.2.2 0 (si - 1)).toInt64) * ((S.2.2 0 sj - S.2.2 0 (sj - 1)).toInt64)) + (((S.2.2 1 si - S.2.2 1 (si - 1)).toInt64) * ((S.2.2 1 sj - S.2.2 1 (sj - 1)).toInt64))) := lgc_ge.mp c6
    refine x_iconst (v := 0) dX10_turnsBack_79 (by decide) ?_
    refine x_zret dX10_turnsBack_80 rfl (by exact nar01 (by first | exact Or.inl rfl | exact Or.inr rfl | grind)) ?_
    rw [hQ, ← esi, ← esj]
    have hb := bk64 hR (i := si) (j := sj) (by omega) (by omega)
    refine ⟨rfl, ?_⟩
    rw [bP_f (fun q => absurd (hb.mpr q) (Int64.not_lt.mpr c6n))]
  · have c6n : ¬ (0 ≤ ((((S.2.2 0 si - S.2.2 0 (si - 1)).toInt64) * ((S.2.2 0 sj - S.2.2 0 (sj - 1)).toInt64)) + (((S.2.2 1 si - S.2.2 1 (si - 1)).toInt64) * ((S.2.2 1 sj - S.2.2 1 (sj - 1)).toInt64)))) := fun q => c6 (lgc_ge.mpr q)
    refine x_iconst (v := 1) dX10_turnsBack_75 (by decide) ?_
    refine x_goto 80 dX10_turnsBack_76 (by decide) ?_
    refine x_zret dX10_turnsBack_80 rfl (by exact nar01 (by first | exact Or.inl rfl | exact Or.inr rfl | grind)) ?_
    rw [hQ, ← esi, ← esj]
    have hb := bk64 hR (i := si) (j := sj) (by omega) (by omega)
    refine ⟨rfl, ?_⟩
    rw [bP_t (hb.mp (Int64.not_le.mp c6n))]
theorem cl6 {m : Nat → Int32} {N : Nat} {t : Int32} {S : FS} (hw : WF m N) (hS : fall m t N = S) {c : Nat} (hc : c < cntM (kd7 m) N) : clZ m N c ↔ ¬ S.2.2 6 c = 0 := by
  have h6 := fall_six hw t N (Nat.le_refl _) c
  rw [← clo_clZ hw N (Nat.le_refl _) c hc, ← h6, hS]
set_option maxHeartbeats 1000000 in
set_option maxRecDepth 100000 in
theorem mX10_layLetters {g : gX} {V : vM} {m : Nat → Int32} {N : Nat} {t : Int32} {S : FS} {fb : Nat → Nat} (hMQ : MZ V m N t S fb) (n : Nat) (W T : Nat → Int32) (o md : Int32) (hLC : LCm V n W T o md) (k : Nat) (hkS : k < S.2.1) : MM g jX10_layLetters V [.ref (g.2.1 49), .int (nI k)] (eV (fun U => FRM U S N ∧ U 65 S.2.1 = nI S.1 ∧ MZ U m N t S fb ∧ frN V U ∧ LRm U n (ltRes S fb n W T o md k))) := by
  refine MM.of plX10_layLetters (Nat.le_of_ble_eq_true rfl) ?_
  obtain ⟨Q, hQ⟩ : ∃ Q : Option Value → vM → Prop, Q = (eV (fun U => FRM U S N ∧ U 65 S.2.1 = nI S.1 ∧ MZ U m N t S fb ∧ frN V U ∧ LRm U n (ltRes S fb n W T o md k))) := ⟨_, rfl⟩
  rw [← hQ]
  show XX g jX10_layLetters Q V 0 [(0, .ref (g.2.1 49)), (1, .int (nI k))] []
  obtain ⟨hw, hm50, hN8, ht9, hS, hG, h24, h15, hcn, hL⟩ := id hMQ
  have hN24 := hw.1
  have hcl := cntM_le (kd7 m) N
  have hkb := hG.bd (j := k + 1) (by omega)
  have hkl := (hG.2.2.2 k hkS).1
  refine x_aload_n dX10_layLetters_0 0 rfl ?_
  refine x_callV (K := jX10_flatten) [] lk_X10_111 ⟨⟨rfl, rfl⟩, Nat.le_of_ble_eq_true rfl, Nat.le_of_ble_eq_true rfl⟩ rfl rfl (mX10_flatten V hw hm50 hN8 t ht9) rfl (Nat.le_of_ble_eq_true rfl) rfl dX10_layLetters_1 (keV fun U1 hU2 => ?_)
  have hMQ2 := hMQ.aft hU2
  have hFr := hU2.2.2
  have hF : FRM U1 S N := by rw [← hS]; exact hU2.1
  have hE : U1 65 S.2.1 = nI S.1 := by rw [← hS]; exact hU2.2.1
  have hmU := hMQ2.2.1
  have hL2 := hLC.ag hFr.N
  refine x_aload_n dX10_layLetters_4 0 rfl ?_
  refine x_getI fl_X10_302 rfl rfl dX10_layLetters_5 ?_
  refine x_topi (hL2.2.2.1) ?_
  refine x_iconst (v := 3) dX10_layLetters_8 (by decide) ?_
  refine x_icmp_ne 20 dX10_layLetters_9 (by decide) (fun c3 => ?_) (fun c3 => ?_)
  · refine x_aload_n dX10_layLetters_20 0 rfl ?_
    refine x_iload_n dX10_layLetters_21 1 rfl ?_
    refine x_callV (K := jX10_layOne) [.int (nI k)] lk_X10_317 ⟨⟨rfl, rfl⟩, Nat.le_of_ble_eq_true rfl, Nat.le_of_ble_eq_true rfl⟩ rfl rfl (mX10_layOne hF hE hG h24 h15 n W T o md hL2 k (by omega) (len_b hL h15 (by omega)) hw hmU hN8 (by omega) (cl6 hw hS (by omega))) rfl (Nat.le_of_ble_eq_true rfl) rfl dX10_layLetters_22 (keV fun U4 hU5 => ?_)
    refine x_vret dX10_layLetters_25 rfl ?_
    rw [hQ]
    refine ⟨rfl, hF.ag (fun a i _ q => hU5.1 a i (by omega) (by omega)), by rw [hU5.1 65 S.2.1 (by omega) (by omega)]; exact hE, hMQ2.ag (fun i => hU5.1 50 i (by omega) (by omega)), hFr.N.trans hU5.1.N, ?_⟩
    unfold ltRes; rw [if_neg (by assumption)]; exact hU5.2
  · refine x_aload_n dX10_layLetters_12 0 rfl ?_
    refine x_iload_n dX10_layLetters_13 1 rfl ?_
    refine x_callV (K := jX10_layOn) [.int (nI k)] lk_X10_314 ⟨⟨rfl, rfl⟩, Nat.le_of_ble_eq_true rfl, Nat.le_of_ble_eq_true rfl⟩ rfl rfl (mX10_layOn hF hE hG h24 h15 n W T o md hL2 k (by omega)) rfl (Nat.le_of_ble_eq_true rfl) rfl dX10_layLetters_14 (keV fun U6 hU7 => ?_)
    refine x_goto 25 dX10_layLetters_17 (by decide) ?_
    refine x_vret dX10_layLetters_25 rfl ?_
    rw [hQ]
    refine ⟨rfl, hF.ag (fun a i _ q => hU7.1 a i (by omega) (by omega)), by rw [hU7.1 65 S.2.1 (by omega) (by omega)]; exact hE, hMQ2.ag (fun i => hU7.1 50 i (by omega) (by omega)), hFr.N.trans hU7.1.N, ?_⟩
    unfold ltRes; rw [if_pos (by assumption)]; exact hU7.2
