/-! the simplified polygon: deviations, the worst vertex between two -/
def dd (S : FS) (p a b : Nat) : Int64 := (S.2.2 p b - S.2.2 p a).toInt64
def scl (S : FS) (a b : Nat) : Int64 := if dd S 0 a b = 0 ∧ dd S 1 a b = 0 then 1 else dd S 0 a b * dd S 0 a b + dd S 1 a b * dd S 1 a b
def crx (S : FS) (a b v : Nat) : Int64 := dd S 0 a b * dd S 1 a v - dd S 1 a b * dd S 0 a v
def nrm (S : FS) (a b : Nat) : Int64 := dd S 0 a b * dd S 0 a b + dd S 1 a b * dd S 1 a b
def dev (S : FS) (a b v : Nat) : Int64 := if dd S 0 a b = 0 ∧ dd S 1 a b = 0 then dd S 0 a v * dd S 0 a v + dd S 1 a v * dd S 1 a v else crx S a b v * crx S a b v
theorem scl_0 {S : FS} {a b : Nat} (h : dd S 0 a b = 0) (h1 : dd S 1 a b = 0) : 1 = scl S a b := by
  unfold scl; rw [if_pos ⟨h, h1⟩]
theorem scl_1 {S : FS} {a b : Nat} (h : ¬ (dd S 0 a b = 0 ∧ dd S 1 a b = 0)) : dd S 0 a b * dd S 0 a b + dd S 1 a b * dd S 1 a b = scl S a b := by
  unfold scl; rw [if_neg h]
theorem dev_0 {S : FS} {a b v : Nat} (h : dd S 0 a b = 0 ∧ dd S 1 a b = 0) : dd S 0 a v * dd S 0 a v + dd S 1 a v * dd S 1 a v = dev S a b v := by
  unfold dev; rw [if_pos h]
theorem dev_1 {S : FS} {a b v : Nat} (h : ¬ (dd S 0 a b = 0 ∧ dd S 1 a b = 0)) : crx S a b v * crx S a b v = dev S a b v := by
  unfold dev; rw [if_neg h]
theorem dd_i {S : FS} {p a b : Nat} (ha : inR (S.2.2 p a)) (hb : inR (S.2.2 p b)) : -8000 ≤ (dd S p a b).toInt ∧ (dd S p a b).toInt ≤ 8000 := by
  have x := inR_i ha
  have y := inR_i hb
  unfold dd
  rw [Int32.toInt_toInt64, fb_subI (by omega) (by omega)]
  omega
theorem nrm_z {S : FS} {a b : Nat} (ha : inR (S.2.2 0 a) ∧ inR (S.2.2 1 a)) (hb : inR (S.2.2 0 b) ∧ inR (S.2.2 1 b)) : nrm S a b = 0 ↔ (dd S 0 a b = 0 ∧ dd S 1 a b = 0) := by
  have r0 := dd_i ha.1 hb.1
  have r1 := dd_i ha.2 hb.2
  have m0 := mul_bd r0 r0
  have m1 := mul_bd r1 r1
  have e : (nrm S a b).toInt = (dd S 0 a b).toInt * (dd S 0 a b).toInt + (dd S 1 a b).toInt * (dd S 1 a b).toInt := by
    unfold nrm
    rw [fb_addL, fb_mulL, fb_mulL] <;> try omega
    · rw [fb_mulL, fb_mulL] <;> omega
    · rw [fb_mulL, fb_mulL] <;> omega
  have z : (0 : Int64).toInt = 0 := rfl
  constructor
  · intro q
    have h0 : (nrm S a b).toInt = 0 := by rw [q]; rfl
    by_cases c : (dd S 0 a b).toInt = 0 ∧ (dd S 1 a b).toInt = 0
    · exact ⟨Int64.toInt_inj.mp (by rw [c.1]; rfl), Int64.toInt_inj.mp (by rw [c.2]; rfl)⟩
    · have := (sq_pos r0 r1 c).1
      omega
  · rintro ⟨q0, q1⟩
    apply Int64.toInt_inj.mp
    rw [e, q0, q1]
    rfl
/-- the worst vertex so far behind a, and its deviation -/
def wst (S : FS) (a b : Nat) (lim : Int32) : Nat → Int64 × Nat
  | 0 => (lim.toInt64 * lim.toInt64 * scl S a b, a)
  | k + 1 => if dev S a b (a + 1 + k) ≤ (wst S a b lim k).1 then wst S a b lim k else (dev S a b (a + 1 + k), a + 1 + k)
theorem wst_f {S : FS} {a b : Nat} {lim : Int32} {k : Nat} (h : dev S a b (a + 1 + k) ≤ (wst S a b lim k).1) : wst S a b lim (k + 1) = wst S a b lim k := by
  rw [wst, if_pos h]
theorem wst_t {S : FS} {a b : Nat} {lim : Int32} {k : Nat} (h : ¬ dev S a b (a + 1 + k) ≤ (wst S a b lim k).1) : wst S a b lim (k + 1) = (dev S a b (a + 1 + k), a + 1 + k) := by
  rw [wst, if_neg h]
theorem wst_b (S : FS) (a b : Nat) (lim : Int32) : ∀ k, a ≤ (wst S a b lim k).2 ∧ (wst S a b lim k).2 ≤ a + k
  | 0 => ⟨Nat.le_refl _, Nat.le_refl _⟩
  | k + 1 => by
    have := wst_b S a b lim k
    rw [wst]
    split
    · omega
    · show a ≤ a + 1 + k ∧ a + 1 + k ≤ a + (k + 1)
      omega
def wR (S : FS) (a b : Nat) (lim : Int32) : Nat := (wst S a b lim (b - a - 1)).2
theorem wR_b (S : FS) {a b : Nat} (lim : Int32) (h : a < b) : a ≤ wR S a b lim ∧ wR S a b lim < b := by
  have := wst_b S a b lim (b - a - 1)
  unfold wR
  omega
set_option maxHeartbeats 1000000 in
set_option maxRecDepth 100000 in
theorem mX1_deviationScale {g : gX} {V : vM} {S : FS} {fb : Nat → Nat} (hF : FRC V S) (hG : GI S fb) (h24 : S.2.1 ≤ 24) (h15 : S.1 ≤ 1536) (a b : Nat) (ha : a < S.1) (hb : b < S.1) : MM g jX1_deviationScale V [.ref (g.2.1 6), .int (nI a), .int (nI b)] (pL V (scl S a b)) := by
  refine MM.of plX1_deviationScale (Nat.le_of_ble_eq_true rfl) ?_
  obtain ⟨Q, hQ⟩ : ∃ Q : Option Value → vM → Prop, Q = (pL V (scl S a b)) := ⟨_, rfl⟩
  rw [← hQ]
  show XX g jX1_deviationScale Q V 0 [(0, .ref (g.2.1 6)), (1, .int (nI a)), (2, .int (nI b))] []
  refine x_aload_n dX1_deviationScale_0 0 rfl ?_
  refine x_iload_n dX1_deviationScale_1 1 rfl ?_
  refine x_callV (K := jX1_isVertex) [.int (nI a)] lk_X1_117 ⟨⟨rfl, rfl⟩, Nat.le_of_ble_eq_true rfl, Nat.le_of_ble_eq_true rfl⟩ rfl rfl (mX1_isVertex hF hG h24 h15 a (by omega)) rfl (Nat.le_of_ble_eq_true rfl) rfl dX1_deviationScale_2 (kpI ?_)
  refine x_if_eq 16 dX1_deviationScale_5 (by decide) (fun c1 => by exfalso; revert c1; decide) (fun c1 => ?_)
  refine x_aload_n dX1_deviationScale_8 0 rfl ?_
  refine x_iload_n dX1_deviationScale_9 2 rfl ?_
  refine x_callV (K := jX1_isVertex) [.int (nI b)] lk_X1_117 ⟨⟨rfl, rfl⟩, Nat.le_of_ble_eq_true rfl, Nat.le_of_ble_eq_true rfl⟩ rfl rfl (mX1_isVertex hF hG h24 h15 b (by omega)) rfl (Nat.le_of_ble_eq_true rfl) rfl dX1_deviationScale_10 (kpI ?_)
  refine x_if_ne 18 dX1_deviationScale_13 (by decide) (fun c2 => ?_) (fun c2 => by exfalso; revert c2; decide)
  refine x_aload_n dX1_deviationScale_18 0 rfl ?_
  refine x_getR fl_X1_9 rfl rfl dX1_deviationScale_19 ?_
  refine x_iload_n dX1_deviationScale_22 2 rfl ?_
  have b3 : vp_in (nI b) 1536 := by exact vp_in_nI (by omega) (by decide)
  refine x_iald rfl b3 dX1_deviationScale_23 ?_
  refine x_topi (y := V 20 b) (by rw [nI_clamp (by omega)]) ?_
  refine x_topi ((hF.2.2.1 b (by omega)).1) ?_
  refine x_aload_n dX1_deviationScale_24 0 rfl ?_
  refine x_getR fl_X1_9 rfl rfl dX1_deviationScale_25 ?_
  refine x_iload_n dX1_deviationScale_28 1 rfl ?_
  have b4 : vp_in (nI a) 1536 := by exact vp_in_nI (by omega) (by decide)
  refine x_iald rfl b4 dX1_deviationScale_29 ?_
  refine x_topi (y := V 20 a) (by rw [nI_clamp (by omega)]) ?_
  refine x_topi ((hF.2.2.1 a (by omega)).1) ?_
  refine x_isub dX1_deviationScale_30 ?_
  refine x_i2l dX1_deviationScale_31 ?_
  refine x_topl (y := dd S 0 a b) (rfl) ?_
  refine x_lstore_n 3 [(3, .long (dd S 0 a b)), (0, .ref (g.2.1 6)), (1, .int (nI a)), (2, .int (nI b))] dX1_deviationScale_32 rfl (by decide) rfl ?_
  refine x_aload_n dX1_deviationScale_33 1 rfl ?_
  refine x_getR fl_X1_15 rfl rfl dX1_deviationScale_34 ?_
  refine x_iload_n dX1_deviationScale_37 3 rfl ?_
  have b5 : vp_in (nI b) 1536 := by exact vp_in_nI (by omega) (by decide)
  refine x_iald rfl b5 dX1_deviationScale_38 ?_
  refine x_topi (y := V 21 b) (by rw [nI_clamp (by omega)]) ?_
  refine x_topi ((hF.2.2.1 b (by omega)).2.1) ?_
  refine x_aload_n dX1_deviationScale_39 1 rfl ?_
  refine x_getR fl_X1_15 rfl rfl dX1_deviationScale_40 ?_
  refine x_iload_n dX1_deviationScale_43 2 rfl ?_
  have b6 : vp_in (nI a) 1536 := by exact vp_in_nI (by omega) (by decide)
  refine x_iald rfl b6 dX1_deviationScale_44 ?_
  refine x_topi (y := V 21 a) (by rw [nI_clamp (by omega)]) ?_
  refine x_topi ((hF.2.2.1 a (by omega)).2.1) ?_
  refine x_isub dX1_deviationScale_45 ?_
  refine x_i2l dX1_deviationScale_46 ?_
  refine x_topl (y := dd S 1 a b) (rfl) ?_
  refine x_lstore 5 [(5, .long (dd S 1 a b)), (3, .long (dd S 0 a b)), (0, .ref (g.2.1 6)), (1, .int (nI a)), (2, .int (nI b))] dX1_deviationScale_47 (by decide) rfl ?_
  refine x_lload_n dX1_deviationScale_49 1 rfl ?_
  refine x_lconst (v := 0) dX1_deviationScale_50 (by decide) ?_
  refine x_lcmp dX1_deviationScale_51 ?_
  refine x_if_ne 66 dX1_deviationScale_52 (by decide) (fun c7 => ?_) (fun c7 => ?_)
  · have c7n : ¬ ((dd S 0 a b) = 0) := fun q => c7 (lgc_eq.mpr q)
    refine x_lload_n dX1_deviationScale_66 1 rfl ?_
    refine x_lload_n dX1_deviationScale_67 1 rfl ?_
    refine x_lmul dX1_deviationScale_68 ?_
    refine x_lload dX1_deviationScale_69 0 rfl ?_
    refine x_lload dX1_deviationScale_71 0 rfl ?_
    refine x_lmul dX1_deviationScale_73 ?_
    refine x_ladd dX1_deviationScale_74 ?_
    refine x_lret dX1_deviationScale_75 rfl ?_
    rw [hQ]
    refine ⟨rfl, ?_⟩
    rw [scl_1 (fun q => c7n q.1)]
  · have c7n : (dd S 0 a b) = 0 := lgc_eq.mp c7
    refine x_lload dX1_deviationScale_55 0 rfl ?_
    refine x_lconst (v := 0) dX1_deviationScale_57 (by decide) ?_
    refine x_lcmp dX1_deviationScale_58 ?_
    refine x_if_ne 66 dX1_deviationScale_59 (by decide) (fun c8 => ?_) (fun c8 => ?_)
    · have c8n : ¬ ((dd S 1 a b) = 0) := fun q => c8 (lgc_eq.mpr q)
      refine x_lload_n dX1_deviationScale_66 1 rfl ?_
      refine x_lload_n dX1_deviationScale_67 1 rfl ?_
      refine x_lmul dX1_deviationScale_68 ?_
      refine x_lload dX1_deviationScale_69 0 rfl ?_
      refine x_lload dX1_deviationScale_71 0 rfl ?_
      refine x_lmul dX1_deviationScale_73 ?_
      refine x_ladd dX1_deviationScale_74 ?_
      refine x_lret dX1_deviationScale_75 rfl ?_
      rw [hQ]
      refine ⟨rfl, ?_⟩
      rw [scl_1 (fun q => c8n q.2)]
    · have c8n : (dd S 1 a b) = 0 := lgc_eq.mp c8
      refine x_lconst (v := 1) dX1_deviationScale_62 (by decide) ?_
      refine x_goto 75 dX1_deviationScale_63 (by decide) ?_
      refine x_lret dX1_deviationScale_75 rfl ?_
      rw [hQ]
      refine ⟨rfl, ?_⟩
      rw [scl_0 c7n c8n]
set_option maxHeartbeats 1000000 in
set_option maxRecDepth 100000 in
theorem mX1_deviation {g : gX} {V : vM} {S : FS} {fb : Nat → Nat} (hF : FRC V S) (hG : GI S fb) (h24 : S.2.1 ≤ 24) (h15 : S.1 ≤ 1536) (a b : Nat) (ha : a < S.1) (hb : b < S.1) (v : Nat) (hv : v < S.1) : MM g jX1_deviation V [.ref (g.2.1 6), .int (nI a), .int (nI b), .int (nI v)] (pL V (dev S a b v)) := by
  refine MM.of plX1_deviation (Nat.le_of_ble_eq_true rfl) ?_
  obtain ⟨Q, hQ⟩ : ∃ Q : Option Value → vM → Prop, Q = (pL V (dev S a b v)) := ⟨_, rfl⟩
  rw [← hQ]
  show XX g jX1_deviation Q V 0 [(0, .ref (g.2.1 6)), (1, .int (nI a)), (2, .int (nI b)), (3, .int (nI v))] []
  refine x_aload_n dX1_deviation_0 0 rfl ?_
  refine x_iload_n dX1_deviation_1 1 rfl ?_
  refine x_callV (K := jX1_isVertex) [.int (nI a)] lk_X1_117 ⟨⟨rfl, rfl⟩, Nat.le_of_ble_eq_true rfl, Nat.le_of_ble_eq_true rfl⟩ rfl rfl (mX1_isVertex hF hG h24 h15 a (by omega)) rfl (Nat.le_of_ble_eq_true rfl) rfl dX1_deviation_2 (kpI ?_)
  refine x_if_eq 24 dX1_deviation_5 (by decide) (fun c1 => by exfalso; revert c1; decide) (fun c1 => ?_)
  refine x_aload_n dX1_deviation_8 0 rfl ?_
  refine x_iload_n dX1_deviation_9 2 rfl ?_
  refine x_callV (K := jX1_isVertex) [.int (nI b)] lk_X1_117 ⟨⟨rfl, rfl⟩, Nat.le_of_ble_eq_true rfl, Nat.le_of_ble_eq_true rfl⟩ rfl rfl (mX1_isVertex hF hG h24 h15 b (by omega)) rfl (Nat.le_of_ble_eq_true rfl) rfl dX1_deviation_10 (kpI ?_)
  refine x_if_eq 24 dX1_deviation_13 (by decide) (fun c2 => by exfalso; revert c2; decide) (fun c2 => ?_)
  refine x_aload_n dX1_deviation_16 0 rfl ?_
  refine x_iload_n dX1_deviation_17 3 rfl ?_
  refine x_callV (K := jX1_isVertex) [.int (nI v)] lk_X1_117 ⟨⟨rfl, rfl⟩, Nat.le_of_ble_eq_true rfl, Nat.le_of_ble_eq_true rfl⟩ rfl rfl (mX1_isVertex hF hG h24 h15 v (by omega)) rfl (Nat.le_of_ble_eq_true rfl) rfl dX1_deviation_18 (kpI ?_)
  refine x_if_ne 26 dX1_deviation_21 (by decide) (fun c3 => ?_) (fun c3 => by exfalso; revert c3; decide)
  refine x_aload_n dX1_deviation_26 0 rfl ?_
  refine x_getR fl_X1_9 rfl rfl dX1_deviation_27 ?_
  refine x_iload_n dX1_deviation_30 2 rfl ?_
  have b4 : vp_in (nI b) 1536 := by exact vp_in_nI (by omega) (by decide)
  refine x_iald rfl b4 dX1_deviation_31 ?_
  refine x_topi (y := V 20 b) (by rw [nI_clamp (by omega)]) ?_
  refine x_topi ((hF.2.2.1 b (by omega)).1) ?_
  refine x_aload_n dX1_deviation_32 0 rfl ?_
  refine x_getR fl_X1_9 rfl rfl dX1_deviation_33 ?_
  refine x_iload_n dX1_deviation_36 1 rfl ?_
  have b5 : vp_in (nI a) 1536 := by exact vp_in_nI (by omega) (by decide)
  refine x_iald rfl b5 dX1_deviation_37 ?_
  refine x_topi (y := V 20 a) (by rw [nI_clamp (by omega)]) ?_
  refine x_topi ((hF.2.2.1 a (by omega)).1) ?_
  refine x_isub dX1_deviation_38 ?_
  refine x_i2l dX1_deviation_39 ?_
  refine x_topl (y := dd S 0 a b) (rfl) ?_
  refine x_lstore 4 [(4, .long (dd S 0 a b)), (0, .ref (g.2.1 6)), (1, .int (nI a)), (2, .int (nI b)), (3, .int (nI v))] dX1_deviation_40 (by decide) rfl ?_
  refine x_aload_n dX1_deviation_42 1 rfl ?_
  refine x_getR fl_X1_15 rfl rfl dX1_deviation_43 ?_
  refine x_iload_n dX1_deviation_46 3 rfl ?_
  have b6 : vp_in (nI b) 1536 := by exact vp_in_nI (by omega) (by decide)
  refine x_iald rfl b6 dX1_deviation_47 ?_
  refine x_topi (y := V 21 b) (by rw [nI_clamp (by omega)]) ?_
  refine x_topi ((hF.2.2.1 b (by omega)).2.1) ?_
  refine x_aload_n dX1_deviation_48 1 rfl ?_
  refine x_getR fl_X1_15 rfl rfl dX1_deviation_49 ?_
  refine x_iload_n dX1_deviation_52 2 rfl ?_
  have b7 : vp_in (nI a) 1536 := by exact vp_in_nI (by omega) (by decide)
  refine x_iald rfl b7 dX1_deviation_53 ?_
  refine x_topi (y := V 21 a) (by rw [nI_clamp (by omega)]) ?_
  refine x_topi ((hF.2.2.1 a (by omega)).2.1) ?_
  refine x_isub dX1_deviation_54 ?_
  refine x_i2l dX1_deviation_55 ?_
  refine x_topl (y := dd S 1 a b) (rfl) ?_
  refine x_lstore 6 [(6, .long (dd S 1 a b)), (4, .long (dd S 0 a b)), (0, .ref (g.2.1 6)), (1, .int (nI a)), (2, .int (nI b)), (3, .int (nI v))] dX1_deviation_56 (by decide) rfl ?_
  refine x_aload_n dX1_deviation_58 2 rfl ?_
  refine x_getR fl_X1_9 rfl rfl dX1_deviation_59 ?_
  refine x_iload_n dX1_deviation_62 5 rfl ?_
  have b8 : vp_in (nI v) 1536 := by exact vp_in_nI (by omega) (by decide)
  refine x_iald rfl b8 dX1_deviation_63 ?_
  refine x_topi (y := V 20 v) (by rw [nI_clamp (by omega)]) ?_
  refine x_topi ((hF.2.2.1 v (by omega)).1) ?_
  refine x_aload_n dX1_deviation_64 2 rfl ?_
  refine x_getR fl_X1_9 rfl rfl dX1_deviation_65 ?_
  refine x_iload_n dX1_deviation_68 3 rfl ?_
  have b9 : vp_in (nI a) 1536 := by exact vp_in_nI (by omega) (by decide)
  refine x_iald rfl b9 dX1_deviation_69 ?_
  refine x_topi (y := V 20 a) (by rw [nI_clamp (by omega)]) ?_
  refine x_topi ((hF.2.2.1 a (by omega)).1) ?_
  refine x_isub dX1_deviation_70 ?_
  refine x_i2l dX1_deviation_71 ?_
  refine x_topl (y := dd S 0 a v) (rfl) ?_
  refine x_lstore 8 [(8, .long (dd S 0 a v)), (6, .long (dd S 1 a b)), (4, .long (dd S 0 a b)), (0, .ref (g.2.1 6)), (1, .int (nI a)), (2, .int (nI b)), (3, .int (nI v))] dX1_deviation_72 (by decide) rfl ?_
  refine x_aload_n dX1_deviation_74 3 rfl ?_
  refine x_getR fl_X1_15 rfl rfl dX1_deviation_75 ?_
  refine x_iload_n dX1_deviation_78 6 rfl ?_
  have b10 : vp_in (nI v) 1536 := by exact vp_in_nI (by omega) (by decide)
  refine x_iald rfl b10 dX1_deviation_79 ?_
  refine x_topi (y := V 21 v) (by rw [nI_clamp (by omega)]) ?_
  refine x_topi ((hF.2.2.1 v (by omega)).2.1) ?_
  refine x_aload_n dX1_deviation_80 3 rfl ?_
  refine x_getR fl_X1_15 rfl rfl dX1_deviation_81 ?_
  refine x_iload_n dX1_deviation_84 4 rfl ?_
  have b11 : vp_in (nI a) 1536 := by exact vp_in_nI (by omega) (by decide)
  refine x_iald rfl b11 dX1_deviation_85 ?_
  refine x_topi (y := V 21 a) (by rw [nI_clamp (by omega)]) ?_
  refine x_topi ((hF.2.2.1 a (by omega)).2.1) ?_
  refine x_isub dX1_deviation_86 ?_
  refine x_i2l dX1_deviation_87 ?_
  refine x_topl (y := dd S 1 a v) (rfl) ?_
  refine x_lstore 10 [(10, .long (dd S 1 a v)), (8, .long (dd S 0 a v)), (6, .long (dd S 1 a b)), (4, .long (dd S 0 a b)), (0, .ref (g.2.1 6)), (1, .int (nI a)), (2, .int (nI b)), (3, .int (nI v))] dX1_deviation_88 (by decide) rfl ?_
  refine x_lload dX1_deviation_90 3 rfl ?_
  refine x_lconst (v := 0) dX1_deviation_92 (by decide) ?_
  refine x_lcmp dX1_deviation_93 ?_
  refine x_if_ne 116 dX1_deviation_94 (by decide) (fun c12 => ?_) (fun c12 => ?_)
  · have c12n : ¬ ((dd S 0 a b) = 0) := fun q => c12 (lgc_eq.mpr q)
    refine x_lload dX1_deviation_116 3 rfl ?_
    refine x_lload dX1_deviation_118 0 rfl ?_
    refine x_lmul dX1_deviation_120 ?_
    refine x_lload dX1_deviation_121 2 rfl ?_
    refine x_lload dX1_deviation_123 1 rfl ?_
    refine x_lmul dX1_deviation_125 ?_
    refine x_lsub dX1_deviation_126 ?_
    refine x_topl (y := crx S a b v) (rfl) ?_
    refine x_lstore 12 [(12, .long (crx S a b v)), (10, .long (dd S 1 a v)), (8, .long (dd S 0 a v)), (6, .long (dd S 1 a b)), (4, .long (dd S 0 a b)), (0, .ref (g.2.1 6)), (1, .int (nI a)), (2, .int (nI b)), (3, .int (nI v))] dX1_deviation_127 (by decide) rfl ?_
    refine x_lload dX1_deviation_129 0 rfl ?_
    refine x_lload dX1_deviation_131 0 rfl ?_
    refine x_lmul dX1_deviation_133 ?_
    refine x_lret dX1_deviation_134 rfl ?_
    rw [hQ]
    refine ⟨rfl, ?_⟩
    rw [dev_1 (fun q => c12n q.1)]
  · have c12n : (dd S 0 a b) = 0 := lgc_eq.mp c12
    refine x_lload dX1_deviation_97 2 rfl ?_
    refine x_lconst (v := 0) dX1_deviation_99 (by decide) ?_
    refine x_lcmp dX1_deviation_100 ?_
    refine x_if_ne 116 dX1_deviation_101 (by decide) (fun c13 => ?_) (fun c13 => ?_)
    · have c13n : ¬ ((dd S 1 a b) = 0) := fun q => c13 (lgc_eq.mpr q)
      refine x_lload dX1_deviation_116 3 rfl ?_
      refine x_lload dX1_deviation_118 0 rfl ?_
      refine x_lmul dX1_deviation_120 ?_
      refine x_lload dX1_deviation_121 2 rfl ?_
      refine x_lload dX1_deviation_123 1 rfl ?_
      refine x_lmul dX1_deviation_125 ?_
      refine x_lsub dX1_deviation_126 ?_
      refine x_topl (y := crx S a b v) (rfl) ?_
      refine x_lstore 12 [(12, .long (crx S a b v)), (10, .long (dd S 1 a v)), (8, .long (dd S 0 a v)), (6, .long (dd S 1 a b)), (4, .long (dd S 0 a b)), (0, .ref (g.2.1 6)), (1, .int (nI a)), (2, .int (nI b)), (3, .int (nI v))] dX1_deviation_127 (by decide) rfl ?_
      refine x_lload dX1_deviation_129 0 rfl ?_
      refine x_lload dX1_deviation_131 0 rfl ?_
      refine x_lmul dX1_deviation_133 ?_
      refine x_lret dX1_deviation_134 rfl ?_
      rw [hQ]
      refine ⟨rfl, ?_⟩
      rw [dev_1 (fun q => c13n q.2)]
    · have c13n : (dd S 1 a b) = 0 := lgc_eq.mp c13
      refine x_lload dX1_deviation_104 1 rfl ?_
      refine x_lload dX1_deviation_106 1 rfl ?_
      refine x_lmul dX1_deviation_108 ?_
      refine x_lload dX1_deviation_109 0 rfl ?_
      refine x_lload dX1_deviation_111 0 rfl ?_
      refine x_lmul dX1_deviation_113 ?_
      refine x_ladd dX1_deviation_114 ?_
      refine x_lret dX1_deviation_115 rfl ?_
      rw [hQ]
      refine ⟨rfl, ?_⟩
      rw [dev_0 ⟨c12n, c13n⟩]
set_option maxHeartbeats 1000000 in
set_option maxRecDepth 100000 in
theorem mX7_worstBetween {g : gX} {V : vM} {S : FS} {fb : Nat → Nat} (hF : FRC V S) (hG : GI S fb) (h24 : S.2.1 ≤ 24) (h15 : S.1 ≤ 1536) (p n : Nat) (hp : V 7 1 = nI p) (hpn : p + n ≤ S.1) (f t : Nat) (hft : f < t) (ht : t < n) (lim : Int32) : MM g jX7_worstBetween V [.ref (g.2.1 7), .ref (g.2.1 6), .int (nI f), .int (nI t), .int lim] (pI V (nI (wR S (p + f) (p + t) lim - p))) := by
  refine MM.of plX7_worstBetween (Nat.le_of_ble_eq_true rfl) ?_
  obtain ⟨Q, hQ⟩ : ∃ Q : Option Value → vM → Prop, Q = (pI V (nI (wR S (p + f) (p + t) lim - p))) := ⟨_, rfl⟩
  rw [← hQ]
  show XX g jX7_worstBetween Q V 0 [(0, .ref (g.2.1 7)), (1, .ref (g.2.1 6)), (2, .int (nI f)), (3, .int (nI t)), (4, .int lim)] []
  refine x_iload dX7_worstBetween_0 4 rfl ?_
  refine x_i2l dX7_worstBetween_2 ?_
  refine x_iload dX7_worstBetween_3 4 rfl ?_
  refine x_i2l dX7_worstBetween_5 ?_
  refine x_lmul dX7_worstBetween_6 ?_
  refine x_aload_n dX7_worstBetween_7 1 rfl ?_
  refine x_aload_n dX7_worstBetween_8 0 rfl ?_
  refine x_getI fl_X7_15 rfl rfl dX7_worstBetween_9 ?_
  refine x_topi (hp) ?_
  refine x_iload_n dX7_worstBetween_12 2 rfl ?_
  refine x_iadd dX7_worstBetween_13 ?_
  refine x_aload_n dX7_worstBetween_14 0 rfl ?_
  refine x_getI fl_X7_15 rfl rfl dX7_worstBetween_15 ?_
  refine x_topi (hp) ?_
  refine x_iload_n dX7_worstBetween_18 3 rfl ?_
  refine x_iadd dX7_worstBetween_19 ?_
  have q1 : ((nI p) + (nI t) : Int32) = nI (p + t) := nadd (rfl) (rfl)
  refine YY.S (st' := [.int (nI (p + t)), .int ((nI p) + (nI f)), .ref (g.2.1 6), .long (lim.toInt64 * lim.toInt64)]) (by rw [q1]) ?_
  have q2 : ((nI p) + (nI f) : Int32) = nI (p + f) := nadd (rfl) (rfl)
  refine YY.S (st' := [.int (nI (p + t)), .int (nI (p + f)), .ref (g.2.1 6), .long (lim.toInt64 * lim.toInt64)]) (by rw [q2]) ?_
  refine x_callV (K := jX1_deviationScale) [.int (nI (p + f)), .int (nI (p + t))] lk_X7_39 ⟨⟨rfl, rfl⟩, Nat.le_of_ble_eq_true rfl, Nat.le_of_ble_eq_true rfl⟩ rfl rfl (mX1_deviationScale hF hG h24 h15 (p + f) (p + t) (by omega) (by omega)) rfl (Nat.le_of_ble_eq_true rfl) rfl dX7_worstBetween_20 (kpL ?_)
  refine x_lmul dX7_worstBetween_23 ?_
  refine x_lstore 5 [(5, .long ((lim.toInt64 * lim.toInt64) * (scl S (p + f) (p + t)))), (0, .ref (g.2.1 7)), (1, .ref (g.2.1 6)), (2, .int (nI f)), (3, .int (nI t)), (4, .int lim)] dX7_worstBetween_24 (by decide) rfl ?_
  refine x_iload_n dX7_worstBetween_26 3 rfl ?_
  refine x_istore 7 [(7, .int (nI f)), (5, .long ((lim.toInt64 * lim.toInt64) * (scl S (p + f) (p + t)))), (0, .ref (g.2.1 7)), (1, .ref (g.2.1 6)), (2, .int (nI f)), (3, .int (nI t)), (4, .int lim)] dX7_worstBetween_27 (by decide) rfl ?_
  refine x_iload_n dX7_worstBetween_29 4 rfl ?_
  refine x_iconst (v := 1) dX7_worstBetween_30 (by decide) ?_
  refine x_iadd dX7_worstBetween_31 ?_
  refine x_istore 8 [(8, .int ((nI f) + 1)), (7, .int (nI f)), (5, .long ((lim.toInt64 * lim.toInt64) * (scl S (p + f) (p + t)))), (0, .ref (g.2.1 7)), (1, .ref (g.2.1 6)), (2, .int (nI f)), (3, .int (nI t)), (4, .int lim)] dX7_worstBetween_32 (by decide) rfl ?_
  have lp3 : ∀ (fu : Nat) (k : Nat), (f + 1 + k ≤ t) → (t - (f + 1 + k)) < fu → XX g jX7_worstBetween Q V 34 [(8, .int (nI (f + 1 + k))), (7, .int (nI ((wst S (p + f) (p + t) lim k).2 - p))), (5, .long ((wst S (p + f) (p + t) lim k).1)), (0, .ref (g.2.1 7)), (1, .ref (g.2.1 6)), (2, .int (nI f)), (3, .int (nI t)), (4, .int lim)] [] := by
    intro fu
    induction fu with
    | zero => intro _ _ hmz; exact absurd hmz (Nat.not_lt_zero _)
    | succ fu ih =>
      intro k hk hmz
      refine x_iload dX7_worstBetween_34 0 rfl ?_
      refine x_iload_n dX7_worstBetween_36 6 rfl ?_
      refine x_icmp_ge 87 dX7_worstBetween_37 (by decide) (fun c4 => ?_) (fun c4 => ?_)
      · have c4n : t ≤ f + 1 + k := (nl_le (a := t) (b := f + 1 + k) (rfl) (rfl) (by omega) (by omega)).mp c4
        refine x_iload dX7_worstBetween_87 1 rfl ?_
        refine x_iret dX7_worstBetween_89 rfl ?_
        rw [hQ]
        refine ⟨rfl, ?_⟩
        unfold wR
        rw [show p + t - (p + f) - 1 = k by omega]
      · have c4n : f + 1 + k < t := Nat.not_le.mp (fun q => c4 ((nl_le (a := t) (b := f + 1 + k) (rfl) (rfl) (by omega) (by omega)).mpr q))
        refine x_aload_n dX7_worstBetween_40 4 rfl ?_
        refine x_aload_n dX7_worstBetween_41 3 rfl ?_
        refine x_getI fl_X7_15 rfl rfl dX7_worstBetween_42 ?_
        refine x_topi (hp) ?_
        refine x_iload_n dX7_worstBetween_45 5 rfl ?_
        refine x_iadd dX7_worstBetween_46 ?_
        refine x_aload_n dX7_worstBetween_47 3 rfl ?_
        refine x_getI fl_X7_15 rfl rfl dX7_worstBetween_48 ?_
        refine x_topi (hp) ?_
        refine x_iload_n dX7_worstBetween_51 6 rfl ?_
        refine x_iadd dX7_worstBetween_52 ?_
        refine x_aload_n dX7_worstBetween_53 3 rfl ?_
        refine x_getI fl_X7_15 rfl rfl dX7_worstBetween_54 ?_
        refine x_topi (hp) ?_
        refine x_iload dX7_worstBetween_57 0 rfl ?_
        refine x_iadd dX7_worstBetween_59 ?_
        have q5 : ((nI p) + (nI (f + 1 + k)) : Int32) = nI (p + (f + 1 + k)) := nadd (rfl) (rfl)
        refine YY.S (st' := [.int (nI (p + (f + 1 + k))), .int ((nI p) + (nI t)), .int ((nI p) + (nI f)), .ref (g.2.1 6)]) (by rw [q5]) ?_
        have q6 : ((nI p) + (nI t) : Int32) = nI (p + t) := nadd (rfl) (rfl)
        refine YY.S (st' := [.int (nI (p + (f + 1 + k))), .int (nI (p + t)), .int ((nI p) + (nI f)), .ref (g.2.1 6)]) (by rw [q6]) ?_
        have q7 : ((nI p) + (nI f) : Int32) = nI (p + f) := nadd (rfl) (rfl)
        refine YY.S (st' := [.int (nI (p + (f + 1 + k))), .int (nI (p + t)), .int (nI (p + f)), .ref (g.2.1 6)]) (by rw [q7]) ?_
        refine x_callV (K := jX1_deviation) [.int (nI (p + f)), .int (nI (p + t)), .int (nI (p + (f + 1 + k)))] lk_X7_43 ⟨⟨rfl, rfl⟩, Nat.le_of_ble_eq_true rfl, Nat.le_of_ble_eq_true rfl⟩ rfl rfl (by have := mX1_deviation (g := g) hF hG h24 h15 (p + f) (p + t) (by omega) (by omega) (p + (f + 1 + k)) (by omega); exact this) rfl (Nat.le_of_ble_eq_true rfl) rfl dX7_worstBetween_60 (kpL ?_)
        refine x_topl (y := dev S (p + f) (p + t) (p + f + 1 + k)) (by rw [show p + (f + 1 + k) = p + f + 1 + k by omega]) ?_
        refine x_lstore 9 [(9, .long (dev S (p + f) (p + t) (p + f + 1 + k))), (8, .int (nI (f + 1 + k))), (7, .int (nI ((wst S (p + f) (p + t) lim k).2 - p))), (5, .long ((wst S (p + f) (p + t) lim k).1)), (0, .ref (g.2.1 7)), (1, .ref (g.2.1 6)), (2, .int (nI f)), (3, .int (nI t)), (4, .int lim)] dX7_worstBetween_63 (by decide) rfl ?_
        refine x_lload dX7_worstBetween_65 0 rfl ?_
        refine x_lload dX7_worstBetween_67 3 rfl ?_
        refine x_lcmp dX7_worstBetween_69 ?_
        refine x_if_le 81 dX7_worstBetween_70 (by decide) (fun c8 => ?_) (fun c8 => ?_)
        · have c8n : (dev S (p + f) (p + t) (p + f + 1 + k)) ≤ ((wst S (p + f) (p + t) lim k).1) := lgc_le.mp c8
          refine x_iinc 8 (v := (nI (f + 1 + k)) + 1) 1 [(8, .int ((nI (f + 1 + k)) + 1)), (9, .long (dev S (p + f) (p + t) (p + f + 1 + k))), (7, .int (nI ((wst S (p + f) (p + t) lim k).2 - p))), (5, .long ((wst S (p + f) (p + t) lim k).1)), (0, .ref (g.2.1 7)), (1, .ref (g.2.1 6)), (2, .int (nI f)), (3, .int (nI t)), (4, .int lim)] dX7_worstBetween_81 rfl (by rfl) (by decide) rfl ?_
          refine x_goto 34 dX7_worstBetween_84 (by decide) ?_
          refine x_lv [0, 2, 3, 4, 5, 6, 7, 8] rfl ?_
          refine YY.L (lv' := [(8, .int (nI (f + 1 + (k + 1)))), (7, .int (nI ((wst S (p + f) (p + t) lim (k + 1)).2 - p))), (5, .long ((wst S (p + f) (p + t) lim (k + 1)).1)), (0, .ref (g.2.1 7)), (1, .ref (g.2.1 6)), (2, .int (nI f)), (3, .int (nI t)), (4, .int lim)]) (by rw [wst_f (by assumption), nI_1]; rfl) ?_
          exact ih (k + 1) (by omega) (by omega)
        · have c8n : ¬ ((dev S (p + f) (p + t) (p + f + 1 + k)) ≤ ((wst S (p + f) (p + t) lim k).1)) := fun q => c8 (lgc_le.mpr q)
          refine x_lload dX7_worstBetween_73 0 rfl ?_
          refine x_lstore 5 [(5, .long (dev S (p + f) (p + t) (p + f + 1 + k))), (9, .long (dev S (p + f) (p + t) (p + f + 1 + k))), (8, .int (nI (f + 1 + k))), (7, .int (nI ((wst S (p + f) (p + t) lim k).2 - p))), (0, .ref (g.2.1 7)), (1, .ref (g.2.1 6)), (2, .int (nI f)), (3, .int (nI t)), (4, .int lim)] dX7_worstBetween_75 (by decide) rfl ?_
          refine x_iload dX7_worstBetween_77 2 rfl ?_
          refine x_istore 7 [(7, .int (nI (f + 1 + k))), (5, .long (dev S (p + f) (p + t) (p + f + 1 + k))), (9, .long (dev S (p + f) (p + t) (p + f + 1 + k))), (8, .int (nI (f + 1 + k))), (0, .ref (g.2.1 7)), (1, .ref (g.2.1 6)), (2, .int (nI f)), (3, .int (nI t)), (4, .int lim)] dX7_worstBetween_79 (by decide) rfl ?_
          refine x_iinc 8 (v := (nI (f + 1 + k)) + 1) 3 [(8, .int ((nI (f + 1 + k)) + 1)), (7, .int (nI (f + 1 + k))), (5, .long (dev S (p + f) (p + t) (p + f + 1 + k))), (9, .long (dev S (p + f) (p + t) (p + f + 1 + k))), (0, .ref (g.2.1 7)), (1, .ref (g.2.1 6)), (2, .int (nI f)), (3, .int (nI t)), (4, .int lim)] dX7_worstBetween_81 rfl (by rfl) (by decide) rfl ?_
          refine x_goto 34 dX7_worstBetween_84 (by decide) ?_
          refine x_lv [0, 1, 2, 4, 5, 6, 7, 8] rfl ?_
          refine YY.L (lv' := [(8, .int (nI (f + 1 + (k + 1)))), (7, .int (nI ((wst S (p + f) (p + t) lim (k + 1)).2 - p))), (5, .long ((wst S (p + f) (p + t) lim (k + 1)).1)), (0, .ref (g.2.1 7)), (1, .ref (g.2.1 6)), (2, .int (nI f)), (3, .int (nI t)), (4, .int lim)]) (by rw [wst_t (by assumption), nI_1, show p + f + 1 + k - p = f + 1 + k by omega]; rfl) ?_
          exact ih (k + 1) (by omega) (by omega)
  refine YY.L (lv' := [(8, .int (nI (f + 1 + 0))), (7, .int (nI ((wst S (p + f) (p + t) lim 0).2 - p))), (5, .long ((wst S (p + f) (p + t) lim 0).1)), (0, .ref (g.2.1 7)), (1, .ref (g.2.1 6)), (2, .int (nI f)), (3, .int (nI t)), (4, .int lim)]) (by rw [nI_1, show (wst S (p + f) (p + t) lim 0).2 - p = f from by show p + f - p = f; omega]; rfl) ?_
  exact lp3 _ 0 (by omega) (Nat.lt_succ_self _)
def fnd (a w : Nat) : Int32 := if w = a then -1000006 else nI w
theorem fnd_v {a w : Nat} (h : a < w) : fnd a w = nI w := if_neg (by omega)
set_option maxHeartbeats 1000000 in
set_option maxRecDepth 100000 in
theorem mX10_farthest {g : gX} {V : vM} {S : FS} {fb : Nat → Nat} {kc : Nat} (hF : FRM V S kc) (hE : V 65 S.2.1 = nI S.1) (hG : GI S fb) (h24 : S.2.1 ≤ 24) (h15 : S.1 ≤ 1536) (hR : ∀ i, i < S.1 → inR (S.2.2 0 i) ∧ inR (S.2.2 1 i)) (a b : Nat) (hab : a < b) (hb : b < S.1) (lim : Int32) : MM g jX10_farthest V [.ref (g.2.1 49), .int (nI a), .int (nI b), .int lim] (pI V (fnd a (wR S a b lim))) := by
  refine MM.of plX10_farthest (Nat.le_of_ble_eq_true rfl) ?_
  obtain ⟨Q, hQ⟩ : ∃ Q : Option Value → vM → Prop, Q = (pI V (fnd a (wR S a b lim))) := ⟨_, rfl⟩
  rw [← hQ]
  show XX g jX10_farthest Q V 0 [(0, .ref (g.2.1 49)), (1, .int (nI a)), (2, .int (nI b)), (3, .int lim)] []
  have hIa := hR a (by omega)
  have hIb := hR b hb
  refine x_aload_n dX10_farthest_0 0 rfl ?_
  refine x_getR fl_X10_47 rfl rfl dX10_farthest_1 ?_
  refine x_iload_n dX10_farthest_4 2 rfl ?_
  have b1 : vp_in (nI b) 1700 := by exact vp_in_nI (by omega) (by decide)
  refine x_iald rfl b1 dX10_farthest_5 ?_
  refine x_topi (y := V 62 b) (by rw [nI_clamp (by omega)]) ?_
  refine x_topi ((hF.2.2.1 b (by omega)).1) ?_
  refine x_aload_n dX10_farthest_6 0 rfl ?_
  refine x_getR fl_X10_47 rfl rfl dX10_farthest_7 ?_
  refine x_iload_n dX10_farthest_10 1 rfl ?_
  have b2 : vp_in (nI a) 1700 := by exact vp_in_nI (by omega) (by decide)
  refine x_iald rfl b2 dX10_farthest_11 ?_
  refine x_topi (y := V 62 a) (by rw [nI_clamp (by omega)]) ?_
  refine x_topi ((hF.2.2.1 a (by omega)).1) ?_
  refine x_isub dX10_farthest_12 ?_
  refine x_i2l dX10_farthest_13 ?_
  refine x_topl (y := dd S 0 a b) (rfl) ?_
  refine x_lstore 4 [(4, .long (dd S 0 a b)), (0, .ref (g.2.1 49)), (1, .int (nI a)), (2, .int (nI b)), (3, .int lim)] dX10_farthest_14 (by decide) rfl ?_
  refine x_aload_n dX10_farthest_16 1 rfl ?_
  refine x_getR fl_X10_50 rfl rfl dX10_farthest_17 ?_
  refine x_iload_n dX10_farthest_20 3 rfl ?_
  have b3 : vp_in (nI b) 1700 := by exact vp_in_nI (by omega) (by decide)
  refine x_iald rfl b3 dX10_farthest_21 ?_
  refine x_topi (y := V 63 b) (by rw [nI_clamp (by omega)]) ?_
  refine x_topi ((hF.2.2.1 b (by omega)).2.1) ?_
  refine x_aload_n dX10_farthest_22 1 rfl ?_
  refine x_getR fl_X10_50 rfl rfl dX10_farthest_23 ?_
  refine x_iload_n dX10_farthest_26 2 rfl ?_
  have b4 : vp_in (nI a) 1700 := by exact vp_in_nI (by omega) (by decide)
  refine x_iald rfl b4 dX10_farthest_27 ?_
  refine x_topi (y := V 63 a) (by rw [nI_clamp (by omega)]) ?_
  refine x_topi ((hF.2.2.1 a (by omega)).2.1) ?_
  refine x_isub dX10_farthest_28 ?_
  refine x_i2l dX10_farthest_29 ?_
  refine x_topl (y := dd S 1 a b) (rfl) ?_
  refine x_lstore 6 [(6, .long (dd S 1 a b)), (4, .long (dd S 0 a b)), (0, .ref (g.2.1 49)), (1, .int (nI a)), (2, .int (nI b)), (3, .int lim)] dX10_farthest_30 (by decide) rfl ?_
  refine x_lload dX10_farthest_32 1 rfl ?_
  refine x_lload dX10_farthest_34 1 rfl ?_
  refine x_lmul dX10_farthest_36 ?_
  refine x_lload dX10_farthest_37 0 rfl ?_
  refine x_lload dX10_farthest_39 0 rfl ?_
  refine x_lmul dX10_farthest_41 ?_
  refine x_ladd dX10_farthest_42 ?_
  refine x_topl (y := nrm S a b) (rfl) ?_
  refine x_lstore 8 [(8, .long (nrm S a b)), (6, .long (dd S 1 a b)), (4, .long (dd S 0 a b)), (0, .ref (g.2.1 49)), (1, .int (nI a)), (2, .int (nI b)), (3, .int lim)] dX10_farthest_43 (by decide) rfl ?_
  refine x_iload_n dX10_farthest_45 6 rfl ?_
  refine x_i2l dX10_farthest_46 ?_
  refine x_iload_n dX10_farthest_47 6 rfl ?_
  refine x_i2l dX10_farthest_48 ?_
  refine x_lmul dX10_farthest_49 ?_
  refine x_lload dX10_farthest_50 0 rfl ?_
  refine x_lconst (v := 0) dX10_farthest_52 (by decide) ?_
  refine x_lcmp dX10_farthest_53 ?_
  refine x_if_ne 61 dX10_farthest_54 (by decide) (fun c5 => ?_) (fun c5 => ?_)
  · have c5n : ¬ ((nrm S a b) = 0) := fun q => c5 (lgc_eq.mpr q)
    refine x_lload dX10_farthest_61 0 rfl ?_
    refine x_topl (y := scl S a b) (scl_1 (fun q => absurd ((nrm_z hIa hIb).mpr q) (by assumption))) ?_
    refine x_lmul dX10_farthest_63 ?_
    refine x_lstore 10 [(10, .long ((lim.toInt64 * lim.toInt64) * (scl S a b))), (8, .long (nrm S a b)), (6, .long (dd S 1 a b)), (4, .long (dd S 0 a b)), (0, .ref (g.2.1 49)), (1, .int (nI a)), (2, .int (nI b)), (3, .int lim)] dX10_farthest_64 (by decide) rfl ?_
    refine x_ldc ct_X10_103 dX10_farthest_66 ?_
    refine x_istore 12 [(12, .int (-1000006)), (10, .long ((lim.toInt64 * lim.toInt64) * (scl S a b))), (8, .long (nrm S a b)), (6, .long (dd S 1 a b)), (4, .long (dd S 0 a b)), (0, .ref (g.2.1 49)), (1, .int (nI a)), (2, .int (nI b)), (3, .int lim)] dX10_farthest_68 (by decide) rfl ?_
    refine x_iload_n dX10_farthest_70 6 rfl ?_
    refine x_iconst (v := 1) dX10_farthest_71 (by decide) ?_
    refine x_iadd dX10_farthest_72 ?_
    refine x_istore 13 [(13, .int ((nI a) + 1)), (12, .int (-1000006)), (10, .long ((lim.toInt64 * lim.toInt64) * (scl S a b))), (8, .long (nrm S a b)), (6, .long (dd S 1 a b)), (4, .long (dd S 0 a b)), (0, .ref (g.2.1 49)), (1, .int (nI a)), (2, .int (nI b)), (3, .int lim)] dX10_farthest_73 (by decide) rfl ?_
    have lp6 : ∀ (fu : Nat) (k : Nat), (a + 1 + k ≤ b) → (b - (a + 1 + k)) < fu → XX g jX10_farthest Q V 75 [(13, .int (nI (a + 1 + k))), (12, .int (fnd a (wst S a b lim k).2)), (10, .long ((wst S a b lim k).1)), (8, .long (nrm S a b)), (6, .long (dd S 1 a b)), (4, .long (dd S 0 a b)), (0, .ref (g.2.1 49)), (1, .int (nI a)), (2, .int (nI b)), (3, .int lim)] [] := by
      intro fu
      induction fu with
      | zero => intro _ _ hmz; exact absurd hmz (Nat.not_lt_zero _)
      | succ fu ih =>
        intro k hk hmz
        refine x_iload dX10_farthest_75 0 rfl ?_
        refine x_iload_n dX10_farthest_77 8 rfl ?_
        refine x_icmp_ge 178 dX10_farthest_78 (by decide) (fun c7 => ?_) (fun c7 => ?_)
        · have c7n : b ≤ a + 1 + k := (nl_le (a := b) (b := a + 1 + k) (rfl) (rfl) (by omega) (by omega)).mp c7
          refine x_iload dX10_farthest_178 1 rfl ?_
          refine x_iret dX10_farthest_180 rfl ?_
          rw [hQ]
          refine ⟨rfl, ?_⟩
          unfold wR
          rw [show b - a - 1 = k by omega]
        · have c7n : a + 1 + k < b := Nat.not_le.mp (fun q => c7 ((nl_le (a := b) (b := a + 1 + k) (rfl) (rfl) (by omega) (by omega)).mpr q))
          refine x_aload_n dX10_farthest_81 6 rfl ?_
          refine x_getR fl_X10_47 rfl rfl dX10_farthest_82 ?_
          refine x_iload dX10_farthest_85 0 rfl ?_
          have b8 : vp_in (nI (a + 1 + k)) 1700 := by exact vp_in_nI (by omega) (by decide)
          refine x_iald rfl b8 dX10_farthest_87 ?_
          refine x_topi (y := V 62 (a + 1 + k)) (by rw [nI_clamp (by omega)]) ?_
          refine x_topi ((hF.2.2.1 (a + 1 + k) (by omega)).1) ?_
          refine x_aload_n dX10_farthest_88 6 rfl ?_
          refine x_getR fl_X10_47 rfl rfl dX10_farthest_89 ?_
          refine x_iload_n dX10_farthest_92 7 rfl ?_
          have b9 : vp_in (nI a) 1700 := by exact vp_in_nI (by omega) (by decide)
          refine x_iald rfl b9 dX10_farthest_93 ?_
          refine x_topi (y := V 62 a) (by rw [nI_clamp (by omega)]) ?_
          refine x_topi ((hF.2.2.1 a (by omega)).1) ?_
          refine x_isub dX10_farthest_94 ?_
          refine x_i2l dX10_farthest_95 ?_
          refine x_topl (y := dd S 0 a (a + 1 + k)) (rfl) ?_
          refine x_lstore 14 [(14, .long (dd S 0 a (a + 1 + k))), (13, .int (nI (a + 1 + k))), (12, .int (fnd a (wst S a b lim k).2)), (10, .long ((wst S a b lim k).1)), (8, .long (nrm S a b)), (6, .long (dd S 1 a b)), (4, .long (dd S 0 a b)), (0, .ref (g.2.1 49)), (1, .int (nI a)), (2, .int (nI b)), (3, .int lim)] dX10_farthest_96 (by decide) rfl ?_
          refine x_aload_n dX10_farthest_98 7 rfl ?_
          refine x_getR fl_X10_50 rfl rfl dX10_farthest_99 ?_
          refine x_iload dX10_farthest_102 1 rfl ?_
          have b10 : vp_in (nI (a + 1 + k)) 1700 := by exact vp_in_nI (by omega) (by decide)
          refine x_iald rfl b10 dX10_farthest_104 ?_
          refine x_topi (y := V 63 (a + 1 + k)) (by rw [nI_clamp (by omega)]) ?_
          refine x_topi ((hF.2.2.1 (a + 1 + k) (by omega)).2.1) ?_
          refine x_aload_n dX10_farthest_105 7 rfl ?_
          refine x_getR fl_X10_50 rfl rfl dX10_farthest_106 ?_
          refine x_iload_n dX10_farthest_109 8 rfl ?_
          have b11 : vp_in (nI a) 1700 := by exact vp_in_nI (by omega) (by decide)
          refine x_iald rfl b11 dX10_farthest_110 ?_
          refine x_topi (y := V 63 a) (by rw [nI_clamp (by omega)]) ?_
          refine x_topi ((hF.2.2.1 a (by omega)).2.1) ?_
          refine x_isub dX10_farthest_111 ?_
          refine x_i2l dX10_farthest_112 ?_
          refine x_topl (y := dd S 1 a (a + 1 + k)) (rfl) ?_
          refine x_lstore 16 [(16, .long (dd S 1 a (a + 1 + k))), (14, .long (dd S 0 a (a + 1 + k))), (13, .int (nI (a + 1 + k))), (12, .int (fnd a (wst S a b lim k).2)), (10, .long ((wst S a b lim k).1)), (8, .long (nrm S a b)), (6, .long (dd S 1 a b)), (4, .long (dd S 0 a b)), (0, .ref (g.2.1 49)), (1, .int (nI a)), (2, .int (nI b)), (3, .int lim)] dX10_farthest_113 (by decide) rfl ?_
          refine x_lload dX10_farthest_115 7 rfl ?_
          refine x_lload dX10_farthest_117 0 rfl ?_
          refine x_lmul dX10_farthest_119 ?_
          refine x_lload dX10_farthest_120 6 rfl ?_
          refine x_lload dX10_farthest_122 1 rfl ?_
          refine x_lmul dX10_farthest_124 ?_
          refine x_lsub dX10_farthest_125 ?_
          refine x_topl (y := crx S a b (a + 1 + k)) (rfl) ?_
          refine x_lstore 18 [(18, .long (crx S a b (a + 1 + k))), (16, .long (dd S 1 a (a + 1 + k))), (14, .long (dd S 0 a (a + 1 + k))), (13, .int (nI (a + 1 + k))), (12, .int (fnd a (wst S a b lim k).2)), (10, .long ((wst S a b lim k).1)), (8, .long (nrm S a b)), (6, .long (dd S 1 a b)), (4, .long (dd S 0 a b)), (0, .ref (g.2.1 49)), (1, .int (nI a)), (2, .int (nI b)), (3, .int lim)] dX10_farthest_126 (by decide) rfl ?_
          refine x_lload dX10_farthest_128 6 rfl ?_
          refine x_lconst (v := 0) dX10_farthest_130 (by decide) ?_
          refine x_lcmp dX10_farthest_131 ?_
          refine x_if_ne 149 dX10_farthest_132 (by decide) (fun c12 => ?_) (fun c12 => ?_)
          · have c12n : ¬ ((nrm S a b) = 0) := fun q => c12 (lgc_eq.mpr q)
            refine x_lload dX10_farthest_149 0 rfl ?_
            refine x_lload dX10_farthest_151 0 rfl ?_
            refine x_lmul dX10_farthest_153 ?_
            refine x_topl (y := dev S a b (a + 1 + k)) (dev_1 (fun q => absurd ((nrm_z hIa hIb).mpr q) (by assumption))) ?_
            refine x_lstore 20 [(20, .long (dev S a b (a + 1 + k))), (18, .long (crx S a b (a + 1 + k))), (16, .long (dd S 1 a (a + 1 + k))), (14, .long (dd S 0 a (a + 1 + k))), (13, .int (nI (a + 1 + k))), (12, .int (fnd a (wst S a b lim k).2)), (10, .long ((wst S a b lim k).1)), (8, .long (nrm S a b)), (6, .long (dd S 1 a b)), (4, .long (dd S 0 a b)), (0, .ref (g.2.1 49)), (1, .int (nI a)), (2, .int (nI b)), (3, .int lim)] dX10_farthest_154 (by decide) rfl ?_
            refine x_lload dX10_farthest_156 0 rfl ?_
            refine x_lload dX10_farthest_158 6 rfl ?_
            refine x_lcmp dX10_farthest_160 ?_
            refine x_if_le 172 dX10_farthest_161 (by decide) (fun c13 => ?_) (fun c13 => ?_)
            · have c13n : (dev S a b (a + 1 + k)) ≤ ((wst S a b lim k).1) := lgc_le.mp c13
              refine x_iinc 13 (v := (nI (a + 1 + k)) + 1) 4 [(13, .int ((nI (a + 1 + k)) + 1)), (20, .long (dev S a b (a + 1 + k))), (18, .long (crx S a b (a + 1 + k))), (16, .long (dd S 1 a (a + 1 + k))), (14, .long (dd S 0 a (a + 1 + k))), (12, .int (fnd a (wst S a b lim k).2)), (10, .long ((wst S a b lim k).1)), (8, .long (nrm S a b)), (6, .long (dd S 1 a b)), (4, .long (dd S 0 a b)), (0, .ref (g.2.1 49)), (1, .int (nI a)), (2, .int (nI b)), (3, .int lim)] dX10_farthest_172 rfl (by rfl) (by decide) rfl ?_
              refine x_goto 75 dX10_farthest_175 (by decide) ?_
              refine x_lv [0, 5, 6, 7, 8, 9, 10, 11, 12, 13] rfl ?_
              refine YY.L (lv' := [(13, .int (nI (a + 1 + (k + 1)))), (12, .int (fnd a (wst S a b lim (k + 1)).2)), (10, .long ((wst S a b lim (k + 1)).1)), (8, .long (nrm S a b)), (6, .long (dd S 1 a b)), (4, .long (dd S 0 a b)), (0, .ref (g.2.1 49)), (1, .int (nI a)), (2, .int (nI b)), (3, .int lim)]) (by rw [wst_f (by assumption), nI_1]; rfl) ?_
              exact ih (k + 1) (by omega) (by omega)
            · have c13n : ¬ ((dev S a b (a + 1 + k)) ≤ ((wst S a b lim k).1)) := fun q => c13 (lgc_le.mpr q)
              refine x_lload dX10_farthest_164 0 rfl ?_
              refine x_lstore 10 [(10, .long (dev S a b (a + 1 + k))), (20, .long (dev S a b (a + 1 + k))), (18, .long (crx S a b (a + 1 + k))), (16, .long (dd S 1 a (a + 1 + k))), (14, .long (dd S 0 a (a + 1 + k))), (13, .int (nI (a + 1 + k))), (12, .int (fnd a (wst S a b lim k).2)), (8, .long (nrm S a b)), (6, .long (dd S 1 a b)), (4, .long (dd S 0 a b)), (0, .ref (g.2.1 49)), (1, .int (nI a)), (2, .int (nI b)), (3, .int lim)] dX10_farthest_166 (by decide) rfl ?_
              refine x_iload dX10_farthest_168 5 rfl ?_
              refine x_istore 12 [(12, .int (nI (a + 1 + k))), (10, .long (dev S a b (a + 1 + k))), (20, .long (dev S a b (a + 1 + k))), (18, .long (crx S a b (a + 1 + k))), (16, .long (dd S 1 a (a + 1 + k))), (14, .long (dd S 0 a (a + 1 + k))), (13, .int (nI (a + 1 + k))), (8, .long (nrm S a b)), (6, .long (dd S 1 a b)), (4, .long (dd S 0 a b)), (0, .ref (g.2.1 49)), (1, .int (nI a)), (2, .int (nI b)), (3, .int lim)] dX10_farthest_170 (by decide) rfl ?_
              refine x_iinc 13 (v := (nI (a + 1 + k)) + 1) 6 [(13, .int ((nI (a + 1 + k)) + 1)), (12, .int (nI (a + 1 + k))), (10, .long (dev S a b (a + 1 + k))), (20, .long (dev S a b (a + 1 + k))), (18, .long (crx S a b (a + 1 + k))), (16, .long (dd S 1 a (a + 1 + k))), (14, .long (dd S 0 a (a + 1 + k))), (8, .long (nrm S a b)), (6, .long (dd S 1 a b)), (4, .long (dd S 0 a b)), (0, .ref (g.2.1 49)), (1, .int (nI a)), (2, .int (nI b)), (3, .int lim)] dX10_farthest_172 rfl (by rfl) (by decide) rfl ?_
              refine x_goto 75 dX10_farthest_175 (by decide) ?_
              refine x_lv [0, 1, 2, 7, 8, 9, 10, 11, 12, 13] rfl ?_
              refine YY.L (lv' := [(13, .int (nI (a + 1 + (k + 1)))), (12, .int (fnd a (wst S a b lim (k + 1)).2)), (10, .long ((wst S a b lim (k + 1)).1)), (8, .long (nrm S a b)), (6, .long (dd S 1 a b)), (4, .long (dd S 0 a b)), (0, .ref (g.2.1 49)), (1, .int (nI a)), (2, .int (nI b)), (3, .int lim)]) (by rw [wst_t (by assumption), nI_1]; rw [fnd_v (by omega)]; rfl) ?_
              exact ih (k + 1) (by omega) (by omega)
          · have c12n : (nrm S a b) = 0 := lgc_eq.mp c12
            refine x_lload dX10_farthest_135 2 rfl ?_
            refine x_lload dX10_farthest_137 2 rfl ?_
            refine x_lmul dX10_farthest_139 ?_
            refine x_lload dX10_farthest_140 1 rfl ?_
            refine x_lload dX10_farthest_142 1 rfl ?_
            refine x_lmul dX10_farthest_144 ?_
            refine x_ladd dX10_farthest_145 ?_
            refine x_goto 154 dX10_farthest_146 (by decide) ?_
            refine x_topl (y := dev S a b (a + 1 + k)) (dev_0 ((nrm_z hIa hIb).mp (by assumption))) ?_
            refine x_lstore 20 [(20, .long (dev S a b (a + 1 + k))), (18, .long (crx S a b (a + 1 + k))), (16, .long (dd S 1 a (a + 1 + k))), (14, .long (dd S 0 a (a + 1 + k))), (13, .int (nI (a + 1 + k))), (12, .int (fnd a (wst S a b lim k).2)), (10, .long ((wst S a b lim k).1)), (8, .long (nrm S a b)), (6, .long (dd S 1 a b)), (4, .long (dd S 0 a b)), (0, .ref (g.2.1 49)), (1, .int (nI a)), (2, .int (nI b)), (3, .int lim)] dX10_farthest_154 (by decide) rfl ?_
            refine x_lload dX10_farthest_156 0 rfl ?_
            refine x_lload dX10_farthest_158 6 rfl ?_
            refine x_lcmp dX10_farthest_160 ?_
            refine x_if_le 172 dX10_farthest_161 (by decide) (fun c14 => ?_) (fun c14 => ?_)
            · have c14n : (dev S a b (a + 1 + k)) ≤ ((wst S a b lim k).1) := lgc_le.mp c14
              refine x_iinc 13 (v := (nI (a + 1 + k)) + 1) 4 [(13, .int ((nI (a + 1 + k)) + 1)), (20, .long (dev S a b (a + 1 + k))), (18, .long (crx S a b (a + 1 + k))), (16, .long (dd S 1 a (a + 1 + k))), (14, .long (dd S 0 a (a + 1 + k))), (12, .int (fnd a (wst S a b lim k).2)), (10, .long ((wst S a b lim k).1)), (8, .long (nrm S a b)), (6, .long (dd S 1 a b)), (4, .long (dd S 0 a b)), (0, .ref (g.2.1 49)), (1, .int (nI a)), (2, .int (nI b)), (3, .int lim)] dX10_farthest_172 rfl (by rfl) (by decide) rfl ?_
              refine x_goto 75 dX10_farthest_175 (by decide) ?_
              refine x_lv [0, 5, 6, 7, 8, 9, 10, 11, 12, 13] rfl ?_
              refine YY.L (lv' := [(13, .int (nI (a + 1 + (k + 1)))), (12, .int (fnd a (wst S a b lim (k + 1)).2)), (10, .long ((wst S a b lim (k + 1)).1)), (8, .long (nrm S a b)), (6, .long (dd S 1 a b)), (4, .long (dd S 0 a b)), (0, .ref (g.2.1 49)), (1, .int (nI a)), (2, .int (nI b)), (3, .int lim)]) (by rw [wst_f (by assumption), nI_1]; rfl) ?_
              exact ih (k + 1) (by omega) (by omega)
            · have c14n : ¬ ((dev S a b (a + 1 + k)) ≤ ((wst S a b lim k).1)) := fun q => c14 (lgc_le.mpr q)
              refine x_lload dX10_farthest_164 0 rfl ?_
              refine x_lstore 10 [(10, .long (dev S a b (a + 1 + k))), (20, .long (dev S a b (a + 1 + k))), (18, .long (crx S a b (a + 1 + k))), (16, .long (dd S 1 a (a + 1 + k))), (14, .long (dd S 0 a (a + 1 + k))), (13, .int (nI (a + 1 + k))), (12, .int (fnd a (wst S a b lim k).2)), (8, .long (nrm S a b)), (6, .long (dd S 1 a b)), (4, .long (dd S 0 a b)), (0, .ref (g.2.1 49)), (1, .int (nI a)), (2, .int (nI b)), (3, .int lim)] dX10_farthest_166 (by decide) rfl ?_
              refine x_iload dX10_farthest_168 5 rfl ?_
              refine x_istore 12 [(12, .int (nI (a + 1 + k))), (10, .long (dev S a b (a + 1 + k))), (20, .long (dev S a b (a + 1 + k))), (18, .long (crx S a b (a + 1 + k))), (16, .long (dd S 1 a (a + 1 + k))), (14, .long (dd S 0 a (a + 1 + k))), (13, .int (nI (a + 1 + k))), (8, .long (nrm S a b)), (6, .long (dd S 1 a b)), (4, .long (dd S 0 a b)), (0, .ref (g.2.1 49)), (1, .int (nI a)), (2, .int (nI b)), (3, .int lim)] dX10_farthest_170 (by decide) rfl ?_
              refine x_iinc 13 (v := (nI (a + 1 + k)) + 1) 6 [(13, .int ((nI (a + 1 + k)) + 1)), (12, .int (nI (a + 1 + k))), (10, .long (dev S a b (a + 1 + k))), (20, .long (dev S a b (a + 1 + k))), (18, .long (crx S a b (a + 1 + k))), (16, .long (dd S 1 a (a + 1 + k))), (14, .long (dd S 0 a (a + 1 + k))), (8, .long (nrm S a b)), (6, .long (dd S 1 a b)), (4, .long (dd S 0 a b)), (0, .ref (g.2.1 49)), (1, .int (nI a)), (2, .int (nI b)), (3, .int lim)] dX10_farthest_172 rfl (by rfl) (by decide) rfl ?_
              refine x_goto 75 dX10_farthest_175 (by decide) ?_
              refine x_lv [0, 1, 2, 7, 8, 9, 10, 11, 12, 13] rfl ?_
              refine YY.L (lv' := [(13, .int (nI (a + 1 + (k + 1)))), (12, .int (fnd a (wst S a b lim (k + 1)).2)), (10, .long ((wst S a b lim (k + 1)).1)), (8, .long (nrm S a b)), (6, .long (dd S 1 a b)), (4, .long (dd S 0 a b)), (0, .ref (g.2.1 49)), (1, .int (nI a)), (2, .int (nI b)), (3, .int lim)]) (by rw [wst_t (by assumption), nI_1]; rw [fnd_v (by omega)]; rfl) ?_
              exact ih (k + 1) (by omega) (by omega)
    refine YY.L (lv' := [(13, .int (nI (a + 1 + 0))), (12, .int (fnd a (wst S a b lim 0).2)), (10, .long ((wst S a b lim 0).1)), (8, .long (nrm S a b)), (6, .long (dd S 1 a b)), (4, .long (dd S 0 a b)), (0, .ref (g.2.1 49)), (1, .int (nI a)), (2, .int (nI b)), (3, .int lim)]) (by rw [nI_1, show fnd a (wst S a b lim 0).2 = -1000006 from if_pos rfl]; rfl) ?_
    exact lp6 _ 0 (by omega) (Nat.lt_succ_self _)
  · have c5n : (nrm S a b) = 0 := lgc_eq.mp c5
    refine x_lconst (v := 1) dX10_farthest_57 (by decide) ?_
    refine x_goto 63 dX10_farthest_58 (by decide) ?_
    refine x_topl (y := scl S a b) (by have q := (nrm_z hIa hIb).mp (by assumption); exact scl_0 q.1 q.2) ?_
    refine x_lmul dX10_farthest_63 ?_
    refine x_lstore 10 [(10, .long ((lim.toInt64 * lim.toInt64) * (scl S a b))), (8, .long (nrm S a b)), (6, .long (dd S 1 a b)), (4, .long (dd S 0 a b)), (0, .ref (g.2.1 49)), (1, .int (nI a)), (2, .int (nI b)), (3, .int lim)] dX10_farthest_64 (by decide) rfl ?_
    refine x_ldc ct_X10_103 dX10_farthest_66 ?_
    refine x_istore 12 [(12, .int (-1000006)), (10, .long ((lim.toInt64 * lim.toInt64) * (scl S a b))), (8, .long (nrm S a b)), (6, .long (dd S 1 a b)), (4, .long (dd S 0 a b)), (0, .ref (g.2.1 49)), (1, .int (nI a)), (2, .int (nI b)), (3, .int lim)] dX10_farthest_68 (by decide) rfl ?_
    refine x_iload_n dX10_farthest_70 6 rfl ?_
    refine x_iconst (v := 1) dX10_farthest_71 (by decide) ?_
    refine x_iadd dX10_farthest_72 ?_
    refine x_istore 13 [(13, .int ((nI a) + 1)), (12, .int (-1000006)), (10, .long ((lim.toInt64 * lim.toInt64) * (scl S a b))), (8, .long (nrm S a b)), (6, .long (dd S 1 a b)), (4, .long (dd S 0 a b)), (0, .ref (g.2.1 49)), (1, .int (nI a)), (2, .int (nI b)), (3, .int lim)] dX10_farthest_73 (by decide) rfl ?_
    have lp15 : ∀ (fu : Nat) (k : Nat), (a + 1 + k ≤ b) → (b - (a + 1 + k)) < fu → XX g jX10_farthest Q V 75 [(13, .int (nI (a + 1 + k))), (12, .int (fnd a (wst S a b lim k).2)), (10, .long ((wst S a b lim k).1)), (8, .long (nrm S a b)), (6, .long (dd S 1 a b)), (4, .long (dd S 0 a b)), (0, .ref (g.2.1 49)), (1, .int (nI a)), (2, .int (nI b)), (3, .int lim)] [] := by
      intro fu
      induction fu with
      | zero => intro _ _ hmz; exact absurd hmz (Nat.not_lt_zero _)
      | succ fu ih =>
        intro k hk hmz
        refine x_iload dX10_farthest_75 0 rfl ?_
        refine x_iload_n dX10_farthest_77 8 rfl ?_
        refine x_icmp_ge 178 dX10_farthest_78 (by decide) (fun c16 => ?_) (fun c16 => ?_)
        · have c16n : b ≤ a + 1 + k := (nl_le (a := b) (b := a + 1 + k) (rfl) (rfl) (by omega) (by omega)).mp c16
          refine x_iload dX10_farthest_178 1 rfl ?_
          refine x_iret dX10_farthest_180 rfl ?_
          rw [hQ]
          refine ⟨rfl, ?_⟩
          unfold wR
          rw [show b - a - 1 = k by omega]
        · have c16n : a + 1 + k < b := Nat.not_le.mp (fun q => c16 ((nl_le (a := b) (b := a + 1 + k) (rfl) (rfl) (by omega) (by omega)).mpr q))
          refine x_aload_n dX10_farthest_81 6 rfl ?_
          refine x_getR fl_X10_47 rfl rfl dX10_farthest_82 ?_
          refine x_iload dX10_farthest_85 0 rfl ?_
          have b17 : vp_in (nI (a + 1 + k)) 1700 := by exact vp_in_nI (by omega) (by decide)
          refine x_iald rfl b17 dX10_farthest_87 ?_
          refine x_topi (y := V 62 (a + 1 + k)) (by rw [nI_clamp (by omega)]) ?_
          refine x_topi ((hF.2.2.1 (a + 1 + k) (by omega)).1) ?_
          refine x_aload_n dX10_farthest_88 6 rfl ?_
          refine x_getR fl_X10_47 rfl rfl dX10_farthest_89 ?_
          refine x_iload_n dX10_farthest_92 7 rfl ?_
          have b18 : vp_in (nI a) 1700 := by exact vp_in_nI (by omega) (by decide)
          refine x_iald rfl b18 dX10_farthest_93 ?_
          refine x_topi (y := V 62 a) (by rw [nI_clamp (by omega)]) ?_
          refine x_topi ((hF.2.2.1 a (by omega)).1) ?_
          refine x_isub dX10_farthest_94 ?_
          refine x_i2l dX10_farthest_95 ?_
          refine x_topl (y := dd S 0 a (a + 1 + k)) (rfl) ?_
          refine x_lstore 14 [(14, .long (dd S 0 a (a + 1 + k))), (13, .int (nI (a + 1 + k))), (12, .int (fnd a (wst S a b lim k).2)), (10, .long ((wst S a b lim k).1)), (8, .long (nrm S a b)), (6, .long (dd S 1 a b)), (4, .long (dd S 0 a b)), (0, .ref (g.2.1 49)), (1, .int (nI a)), (2, .int (nI b)), (3, .int lim)] dX10_farthest_96 (by decide) rfl ?_
          refine x_aload_n dX10_farthest_98 7 rfl ?_
          refine x_getR fl_X10_50 rfl rfl dX10_farthest_99 ?_
          refine x_iload dX10_farthest_102 1 rfl ?_
          have b19 : vp_in (nI (a + 1 + k)) 1700 := by exact vp_in_nI (by omega) (by decide)
          refine x_iald rfl b19 dX10_farthest_104 ?_
          refine x_topi (y := V 63 (a + 1 + k)) (by rw [nI_clamp (by omega)]) ?_
          refine x_topi ((hF.2.2.1 (a + 1 + k) (by omega)).2.1) ?_
          refine x_aload_n dX10_farthest_105 7 rfl ?_
          refine x_getR fl_X10_50 rfl rfl dX10_farthest_106 ?_
          refine x_iload_n dX10_farthest_109 8 rfl ?_
          have b20 : vp_in (nI a) 1700 := by exact vp_in_nI (by omega) (by decide)
          refine x_iald rfl b20 dX10_farthest_110 ?_
          refine x_topi (y := V 63 a) (by rw [nI_clamp (by omega)]) ?_
          refine x_topi ((hF.2.2.1 a (by omega)).2.1) ?_
          refine x_isub dX10_farthest_111 ?_
          refine x_i2l dX10_farthest_112 ?_
          refine x_topl (y := dd S 1 a (a + 1 + k)) (rfl) ?_
          refine x_lstore 16 [(16, .long (dd S 1 a (a + 1 + k))), (14, .long (dd S 0 a (a + 1 + k))), (13, .int (nI (a + 1 + k))), (12, .int (fnd a (wst S a b lim k).2)), (10, .long ((wst S a b lim k).1)), (8, .long (nrm S a b)), (6, .long (dd S 1 a b)), (4, .long (dd S 0 a b)), (0, .ref (g.2.1 49)), (1, .int (nI a)), (2, .int (nI b)), (3, .int lim)] dX10_farthest_113 (by decide) rfl ?_
          refine x_lload dX10_farthest_115 7 rfl ?_
          refine x_lload dX10_farthest_117 0 rfl ?_
          refine x_lmul dX10_farthest_119 ?_
          refine x_lload dX10_farthest_120 6 rfl ?_
          refine x_lload dX10_farthest_122 1 rfl ?_
          refine x_lmul dX10_farthest_124 ?_
          refine x_lsub dX10_farthest_125 ?_
          refine x_topl (y := crx S a b (a + 1 + k)) (rfl) ?_
          refine x_lstore 18 [(18, .long (crx S a b (a + 1 + k))), (16, .long (dd S 1 a (a + 1 + k))), (14, .long (dd S 0 a (a + 1 + k))), (13, .int (nI (a + 1 + k))), (12, .int (fnd a (wst S a b lim k).2)), (10, .long ((wst S a b lim k).1)), (8, .long (nrm S a b)), (6, .long (dd S 1 a b)), (4, .long (dd S 0 a b)), (0, .ref (g.2.1 49)), (1, .int (nI a)), (2, .int (nI b)), (3, .int lim)] dX10_farthest_126 (by decide) rfl ?_
          refine x_lload dX10_farthest_128 6 rfl ?_
          refine x_lconst (v := 0) dX10_farthest_130 (by decide) ?_
          refine x_lcmp dX10_farthest_131 ?_
          refine x_if_ne 149 dX10_farthest_132 (by decide) (fun c21 => ?_) (fun c21 => ?_)
          · have c21n : ¬ ((nrm S a b) = 0) := fun q => c21 (lgc_eq.mpr q)
            refine x_lload dX10_farthest_149 0 rfl ?_
            refine x_lload dX10_farthest_151 0 rfl ?_
            refine x_lmul dX10_farthest_153 ?_
            refine x_topl (y := dev S a b (a + 1 + k)) (dev_1 (fun q => absurd ((nrm_z hIa hIb).mpr q) (by assumption))) ?_
            refine x_lstore 20 [(20, .long (dev S a b (a + 1 + k))), (18, .long (crx S a b (a + 1 + k))), (16, .long (dd S 1 a (a + 1 + k))), (14, .long (dd S 0 a (a + 1 + k))), (13, .int (nI (a + 1 + k))), (12, .int (fnd a (wst S a b lim k).2)), (10, .long ((wst S a b lim k).1)), (8, .long (nrm S a b)), (6, .long (dd S 1 a b)), (4, .long (dd S 0 a b)), (0, .ref (g.2.1 49)), (1, .int (nI a)), (2, .int (nI b)), (3, .int lim)] dX10_farthest_154 (by decide) rfl ?_
            refine x_lload dX10_farthest_156 0 rfl ?_
            refine x_lload dX10_farthest_158 6 rfl ?_
            refine x_lcmp dX10_farthest_160 ?_
            refine x_if_le 172 dX10_farthest_161 (by decide) (fun c22 => ?_) (fun c22 => ?_)
            · have c22n : (dev S a b (a + 1 + k)) ≤ ((wst S a b lim k).1) := lgc_le.mp c22
              refine x_iinc 13 (v := (nI (a + 1 + k)) + 1) 4 [(13, .int ((nI (a + 1 + k)) + 1)), (20, .long (dev S a b (a + 1 + k))), (18, .long (crx S a b (a + 1 + k))), (16, .long (dd S 1 a (a + 1 + k))), (14, .long (dd S 0 a (a + 1 + k))), (12, .int (fnd a (wst S a b lim k).2)), (10, .long ((wst S a b lim k).1)), (8, .long (nrm S a b)), (6, .long (dd S 1 a b)), (4, .long (dd S 0 a b)), (0, .ref (g.2.1 49)), (1, .int (nI a)), (2, .int (nI b)), (3, .int lim)] dX10_farthest_172 rfl (by rfl) (by decide) rfl ?_
              refine x_goto 75 dX10_farthest_175 (by decide) ?_
              refine x_lv [0, 5, 6, 7, 8, 9, 10, 11, 12, 13] rfl ?_
              refine YY.L (lv' := [(13, .int (nI (a + 1 + (k + 1)))), (12, .int (fnd a (wst S a b lim (k + 1)).2)), (10, .long ((wst S a b lim (k + 1)).1)), (8, .long (nrm S a b)), (6, .long (dd S 1 a b)), (4, .long (dd S 0 a b)), (0, .ref (g.2.1 49)), (1, .int (nI a)), (2, .int (nI b)), (3, .int lim)]) (by rw [wst_f (by assumption), nI_1]; rfl) ?_
              exact ih (k + 1) (by omega) (by omega)
            · have c22n : ¬ ((dev S a b (a + 1 + k)) ≤ ((wst S a b lim k).1)) := fun q => c22 (lgc_le.mpr q)
              refine x_lload dX10_farthest_164 0 rfl ?_
              refine x_lstore 10 [(10, .long (dev S a b (a + 1 + k))), (20, .long (dev S a b (a + 1 + k))), (18, .long (crx S a b (a + 1 + k))), (16, .long (dd S 1 a (a + 1 + k))), (14, .long (dd S 0 a (a + 1 + k))), (13, .int (nI (a + 1 + k))), (12, .int (fnd a (wst S a b lim k).2)), (8, .long (nrm S a b)), (6, .long (dd S 1 a b)), (4, .long (dd S 0 a b)), (0, .ref (g.2.1 49)), (1, .int (nI a)), (2, .int (nI b)), (3, .int lim)] dX10_farthest_166 (by decide) rfl ?_
              refine x_iload dX10_farthest_168 5 rfl ?_
              refine x_istore 12 [(12, .int (nI (a + 1 + k))), (10, .long (dev S a b (a + 1 + k))), (20, .long (dev S a b (a + 1 + k))), (18, .long (crx S a b (a + 1 + k))), (16, .long (dd S 1 a (a + 1 + k))), (14, .long (dd S 0 a (a + 1 + k))), (13, .int (nI (a + 1 + k))), (8, .long (nrm S a b)), (6, .long (dd S 1 a b)), (4, .long (dd S 0 a b)), (0, .ref (g.2.1 49)), (1, .int (nI a)), (2, .int (nI b)), (3, .int lim)] dX10_farthest_170 (by decide) rfl ?_
              refine x_iinc 13 (v := (nI (a + 1 + k)) + 1) 6 [(13, .int ((nI (a + 1 + k)) + 1)), (12, .int (nI (a + 1 + k))), (10, .long (dev S a b (a + 1 + k))), (20, .long (dev S a b (a + 1 + k))), (18, .long (crx S a b (a + 1 + k))), (16, .long (dd S 1 a (a + 1 + k))), (14, .long (dd S 0 a (a + 1 + k))), (8, .long (nrm S a b)), (6, .long (dd S 1 a b)), (4, .long (dd S 0 a b)), (0, .ref (g.2.1 49)), (1, .int (nI a)), (2, .int (nI b)), (3, .int lim)] dX10_farthest_172 rfl (by rfl) (by decide) rfl ?_
              refine x_goto 75 dX10_farthest_175 (by decide) ?_
              refine x_lv [0, 1, 2, 7, 8, 9, 10, 11, 12, 13] rfl ?_
              refine YY.L (lv' := [(13, .int (nI (a + 1 + (k + 1)))), (12, .int (fnd a (wst S a b lim (k + 1)).2)), (10, .long ((wst S a b lim (k + 1)).1)), (8, .long (nrm S a b)), (6, .long (dd S 1 a b)), (4, .long (dd S 0 a b)), (0, .ref (g.2.1 49)), (1, .int (nI a)), (2, .int (nI b)), (3, .int lim)]) (by rw [wst_t (by assumption), nI_1]; rw [fnd_v (by omega)]; rfl) ?_
              exact ih (k + 1) (by omega) (by omega)
          · have c21n : (nrm S a b) = 0 := lgc_eq.mp c21
            refine x_lload dX10_farthest_135 2 rfl ?_
            refine x_lload dX10_farthest_137 2 rfl ?_
            refine x_lmul dX10_farthest_139 ?_
            refine x_lload dX10_farthest_140 1 rfl ?_
            refine x_lload dX10_farthest_142 1 rfl ?_
            refine x_lmul dX10_farthest_144 ?_
            refine x_ladd dX10_farthest_145 ?_
            refine x_goto 154 dX10_farthest_146 (by decide) ?_
            refine x_topl (y := dev S a b (a + 1 + k)) (dev_0 ((nrm_z hIa hIb).mp (by assumption))) ?_
            refine x_lstore 20 [(20, .long (dev S a b (a + 1 + k))), (18, .long (crx S a b (a + 1 + k))), (16, .long (dd S 1 a (a + 1 + k))), (14, .long (dd S 0 a (a + 1 + k))), (13, .int (nI (a + 1 + k))), (12, .int (fnd a (wst S a b lim k).2)), (10, .long ((wst S a b lim k).1)), (8, .long (nrm S a b)), (6, .long (dd S 1 a b)), (4, .long (dd S 0 a b)), (0, .ref (g.2.1 49)), (1, .int (nI a)), (2, .int (nI b)), (3, .int lim)] dX10_farthest_154 (by decide) rfl ?_
            refine x_lload dX10_farthest_156 0 rfl ?_
            refine x_lload dX10_farthest_158 6 rfl ?_
            refine x_lcmp dX10_farthest_160 ?_
            refine x_if_le 172 dX10_farthest_161 (by decide) (fun c23 => ?_) (fun c23 => ?_)
            · have c23n : (dev S a b (a + 1 + k)) ≤ ((wst S a b lim k).1) := lgc_le.mp c23
              refine x_iinc 13 (v := (nI (a + 1 + k)) + 1) 4 [(13, .int ((nI (a + 1 + k)) + 1)), (20, .long (dev S a b (a + 1 + k))), (18, .long (crx S a b (a + 1 + k))), (16, .long (dd S 1 a (a + 1 + k))), (14, .long (dd S 0 a (a + 1 + k))), (12, .int (fnd a (wst S a b lim k).2)), (10, .long ((wst S a b lim k).1)), (8, .long (nrm S a b)), (6, .long (dd S 1 a b)), (4, .long (dd S 0 a b)), (0, .ref (g.2.1 49)), (1, .int (nI a)), (2, .int (nI b)), (3, .int lim)] dX10_farthest_172 rfl (by rfl) (by decide) rfl ?_
              refine x_goto 75 dX10_farthest_175 (by decide) ?_
              refine x_lv [0, 5, 6, 7, 8, 9, 10, 11, 12, 13] rfl ?_
              refine YY.L (lv' := [(13, .int (nI (a + 1 + (k + 1)))), (12, .int (fnd a (wst S a b lim (k + 1)).2)), (10, .long ((wst S a b lim (k + 1)).1)), (8, .long (nrm S a b)), (6, .long (dd S 1 a b)), (4, .long (dd S 0 a b)), (0, .ref (g.2.1 49)), (1, .int (nI a)), (2, .int (nI b)), (3, .int lim)]) (by rw [wst_f (by assumption), nI_1]; rfl) ?_
              exact ih (k + 1) (by omega) (by omega)
            · have c23n : ¬ ((dev S a b (a + 1 + k)) ≤ ((wst S a b lim k).1)) := fun q => c23 (lgc_le.mpr q)
              refine x_lload dX10_farthest_164 0 rfl ?_
              refine x_lstore 10 [(10, .long (dev S a b (a + 1 + k))), (20, .long (dev S a b (a + 1 + k))), (18, .long (crx S a b (a + 1 + k))), (16, .long (dd S 1 a (a + 1 + k))), (14, .long (dd S 0 a (a + 1 + k))), (13, .int (nI (a + 1 + k))), (12, .int (fnd a (wst S a b lim k).2)), (8, .long (nrm S a b)), (6, .long (dd S 1 a b)), (4, .long (dd S 0 a b)), (0, .ref (g.2.1 49)), (1, .int (nI a)), (2, .int (nI b)), (3, .int lim)] dX10_farthest_166 (by decide) rfl ?_
              refine x_iload dX10_farthest_168 5 rfl ?_
              refine x_istore 12 [(12, .int (nI (a + 1 + k))), (10, .long (dev S a b (a + 1 + k))), (20, .long (dev S a b (a + 1 + k))), (18, .long (crx S a b (a + 1 + k))), (16, .long (dd S 1 a (a + 1 + k))), (14, .long (dd S 0 a (a + 1 + k))), (13, .int (nI (a + 1 + k))), (8, .long (nrm S a b)), (6, .long (dd S 1 a b)), (4, .long (dd S 0 a b)), (0, .ref (g.2.1 49)), (1, .int (nI a)), (2, .int (nI b)), (3, .int lim)] dX10_farthest_170 (by decide) rfl ?_
              refine x_iinc 13 (v := (nI (a + 1 + k)) + 1) 6 [(13, .int ((nI (a + 1 + k)) + 1)), (12, .int (nI (a + 1 + k))), (10, .long (dev S a b (a + 1 + k))), (20, .long (dev S a b (a + 1 + k))), (18, .long (crx S a b (a + 1 + k))), (16, .long (dd S 1 a (a + 1 + k))), (14, .long (dd S 0 a (a + 1 + k))), (8, .long (nrm S a b)), (6, .long (dd S 1 a b)), (4, .long (dd S 0 a b)), (0, .ref (g.2.1 49)), (1, .int (nI a)), (2, .int (nI b)), (3, .int lim)] dX10_farthest_172 rfl (by rfl) (by decide) rfl ?_
              refine x_goto 75 dX10_farthest_175 (by decide) ?_
              refine x_lv [0, 1, 2, 7, 8, 9, 10, 11, 12, 13] rfl ?_
              refine YY.L (lv' := [(13, .int (nI (a + 1 + (k + 1)))), (12, .int (fnd a (wst S a b lim (k + 1)).2)), (10, .long ((wst S a b lim (k + 1)).1)), (8, .long (nrm S a b)), (6, .long (dd S 1 a b)), (4, .long (dd S 0 a b)), (0, .ref (g.2.1 49)), (1, .int (nI a)), (2, .int (nI b)), (3, .int lim)]) (by rw [wst_t (by assumption), nI_1]; rw [fnd_v (by omega)]; rfl) ?_
              exact ih (k + 1) (by omega) (by omega)
    refine YY.L (lv' := [(13, .int (nI (a + 1 + 0))), (12, .int (fnd a (wst S a b lim 0).2)), (10, .long ((wst S a b lim 0).1)), (8, .long (nrm S a b)), (6, .long (dd S 1 a b)), (4, .long (dd S 0 a b)), (0, .ref (g.2.1 49)), (1, .int (nI a)), (2, .int (nI b)), (3, .int lim)]) (by rw [nI_1, show fnd a (wst S a b lim 0).2 = -1000006 from if_pos rfl]; rfl) ?_
    exact lp15 _ 0 (by omega) (Nat.lt_succ_self _)
