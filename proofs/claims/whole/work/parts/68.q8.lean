def sdI (x0 y0 x1 y1 x y : Int32) : Int := (x1.toInt - x0.toInt) * (y.toInt - y0.toInt) - (x.toInt - x0.toInt) * (y1.toInt - y0.toInt)
theorem side32 {x0 y0 x1 y1 x y : Int32} (a0 : inR x0) (b0 : inR y0) (a1 : inR x1) (b1 : inR y1) (a : inR x) (b : inR y) : ((x1 - x0) * (y - y0) - (x - x0) * (y1 - y0)).toInt = sdI x0 y0 x1 y1 x y := by
  have a0 := inR_i a0
  have b0 := inR_i b0
  have a1 := inR_i a1
  have b1 := inR_i b1
  have a := inR_i a
  have b := inR_i b
  have e1 : (x1 - x0).toInt = x1.toInt - x0.toInt := fb_subI (by omega) (by omega)
  have e2 : (y - y0).toInt = y.toInt - y0.toInt := fb_subI (by omega) (by omega)
  have e3 : (x - x0).toInt = x.toInt - x0.toInt := fb_subI (by omega) (by omega)
  have e4 : (y1 - y0).toInt = y1.toInt - y0.toInt := fb_subI (by omega) (by omega)
  have m1 := mul_bd (a := x1.toInt - x0.toInt) (b := y.toInt - y0.toInt) (by omega) (by omega)
  have m2 := mul_bd (a := x.toInt - x0.toInt) (b := y1.toInt - y0.toInt) (by omega) (by omega)
  have f1 : ((x1 - x0) * (y - y0)).toInt = (x1.toInt - x0.toInt) * (y.toInt - y0.toInt) := by rw [fb_mulI] <;> rw [e1, e2] <;> omega
  have f2 : ((x - x0) * (y1 - y0)).toInt = (x.toInt - x0.toInt) * (y1.toInt - y0.toInt) := by rw [fb_mulI] <;> rw [e3, e4] <;> omega
  unfold sdI
  rw [fb_subI] <;> rw [f1, f2] <;> omega
theorem side64 {x0 y0 x1 y1 x y : Int32} (a0 : inR x0) (b0 : inR y0) (a1 : inR x1) (b1 : inR y1) (a : inR x) (b : inR y) : ((x1.toInt64 - x0.toInt64) * (y.toInt64 - y0.toInt64) - (x.toInt64 - x0.toInt64) * (y1.toInt64 - y0.toInt64)).toInt = sdI x0 y0 x1 y1 x y := by
  have a0 := inR_i a0
  have b0 := inR_i b0
  have a1 := inR_i a1
  have b1 := inR_i b1
  have a := inR_i a
  have b := inR_i b
  have e1 : (x1.toInt64 - x0.toInt64).toInt = x1.toInt - x0.toInt := by rw [fb_subL] <;> rw [Int32.toInt_toInt64, Int32.toInt_toInt64] <;> omega
  have e2 : (y.toInt64 - y0.toInt64).toInt = y.toInt - y0.toInt := by rw [fb_subL] <;> rw [Int32.toInt_toInt64, Int32.toInt_toInt64] <;> omega
  have e3 : (x.toInt64 - x0.toInt64).toInt = x.toInt - x0.toInt := by rw [fb_subL] <;> rw [Int32.toInt_toInt64, Int32.toInt_toInt64] <;> omega
  have e4 : (y1.toInt64 - y0.toInt64).toInt = y1.toInt - y0.toInt := by rw [fb_subL] <;> rw [Int32.toInt_toInt64, Int32.toInt_toInt64] <;> omega
  have m1 := mul_bd (a := x1.toInt - x0.toInt) (b := y.toInt - y0.toInt) (by omega) (by omega)
  have m2 := mul_bd (a := x.toInt - x0.toInt) (b := y1.toInt - y0.toInt) (by omega) (by omega)
  have f1 : ((x1.toInt64 - x0.toInt64) * (y.toInt64 - y0.toInt64)).toInt = (x1.toInt - x0.toInt) * (y.toInt - y0.toInt) := by rw [fb_mulL] <;> rw [e1, e2] <;> omega
  have f2 : ((x.toInt64 - x0.toInt64) * (y1.toInt64 - y0.toInt64)).toInt = (x.toInt - x0.toInt) * (y1.toInt - y0.toInt) := by rw [fb_mulL] <;> rw [e3, e4] <;> omega
  unfold sdI
  rw [fb_subL] <;> rw [f1, f2] <;> omega
theorem i64lt {a b : Int32} : a.toInt64 < b.toInt64 ↔ a < b := by rw [Int64.lt_iff_toInt_lt, Int32.lt_iff_toInt_lt, Int32.toInt_toInt64, Int32.toInt_toInt64]
theorem i64le {a b : Int32} : a.toInt64 ≤ b.toInt64 ↔ a ≤ b := by rw [Int64.le_iff_toInt_le, Int32.le_iff_toInt_le, Int32.toInt_toInt64, Int32.toInt_toInt64]
theorem sg32 {z : Int32} {s : Int} (h : z.toInt = s) : (z ≤ 0 ↔ s ≤ 0) ∧ (0 ≤ z ↔ 0 ≤ s) ∧ (0 < z ↔ 0 < s) ∧ (z < 0 ↔ s < 0) := by
  rw [Int32.le_iff_toInt_le, Int32.le_iff_toInt_le, Int32.lt_iff_toInt_lt, Int32.lt_iff_toInt_lt, h]
  exact ⟨Iff.rfl, Iff.rfl, Iff.rfl, Iff.rfl⟩
theorem sg64 {z : Int64} {s : Int} (h : z.toInt = s) : (z ≤ 0 ↔ s ≤ 0) ∧ (0 ≤ z ↔ 0 ≤ s) ∧ (0 < z ↔ 0 < s) ∧ (z < 0 ↔ s < 0) := by
  rw [Int64.le_iff_toInt_le, Int64.le_iff_toInt_le, Int64.lt_iff_toInt_lt, Int64.lt_iff_toInt_lt, h]
  exact ⟨Iff.rfl, Iff.rfl, Iff.rfl, Iff.rfl⟩
def crs (x0 y0 x1 y1 x y : Int32) : Int32 := if y0 ≤ y ∧ y < y1 then (if 0 < sdI x0 y0 x1 y1 x y then 1 else 0) else if y1 ≤ y ∧ y < y0 then (if sdI x0 y0 x1 y1 x y < 0 then -1 else 0) else 0
def crh (S : FS) (x y : Int32) (a b : Nat) : Int32 := crs (S.2.2 0 a) (S.2.2 1 a) (S.2.2 0 b) (S.2.2 1 b) x y
theorem crs_n {x0 y0 x1 y1 x y : Int32} : (y0 ≤ y ∧ y < y1 → 0 < sdI x0 y0 x1 y1 x y → crs x0 y0 x1 y1 x y = 1) ∧ (y0 ≤ y ∧ y < y1 → ¬ 0 < sdI x0 y0 x1 y1 x y → crs x0 y0 x1 y1 x y = 0) ∧ (¬ (y0 ≤ y ∧ y < y1) → y1 ≤ y ∧ y < y0 → sdI x0 y0 x1 y1 x y < 0 → crs x0 y0 x1 y1 x y = -1) ∧ (¬ (y0 ≤ y ∧ y < y1) → y1 ≤ y ∧ y < y0 → ¬ sdI x0 y0 x1 y1 x y < 0 → crs x0 y0 x1 y1 x y = 0) ∧ (¬ (y0 ≤ y ∧ y < y1) → ¬ (y1 ≤ y ∧ y < y0) → crs x0 y0 x1 y1 x y = 0) := by
  unfold crs
  exact ⟨fun a b => by rw [if_pos a, if_pos b], fun a b => by rw [if_pos a, if_neg b], fun a b c => by rw [if_neg a, if_pos b, if_pos c], fun a b c => by rw [if_neg a, if_pos b, if_neg c], fun a b => by rw [if_neg a, if_neg b]⟩
/-- the winding of the first k contours -/
def wnd (S : FS) (fb : Nat → Nat) (x y : Int32) : Nat → Int32
  | 0 => 0
  | k + 1 => ccy (wnd S fb x y k) (crh S x y) (fb k) (fb (k + 1)) (fb (k + 1) - fb k)
set_option maxHeartbeats 8000000 in
set_option maxRecDepth 100000 in
theorem mX1_crossing {g : gX} {V : vM} {S : FS} {fb : Nat → Nat} (hF : FRC V S) (hG : GI S fb) (h24 : S.2.1 ≤ 24) (h15 : S.1 ≤ 1536) (a b : Nat) (ha : a < S.1) (hb : b < S.1) (hR : ∀ i, i < S.1 → inR (S.2.2 0 i) ∧ inR (S.2.2 1 i)) (x y : Int32) (hx : inR x) (hy : inR y) : MM g jX1_crossing V [.ref (g.2.1 6), .int (nI a), .int (nI b), .int x, .int y] (pI V (crh S x y a b)) := by
  refine MM.of plX1_crossing (Nat.le_of_ble_eq_true rfl) ?_
  obtain ⟨Q, hQ⟩ : ∃ Q : Option Value → vM → Prop, Q = (pI V (crh S x y a b)) := ⟨_, rfl⟩
  rw [← hQ]
  show XX g jX1_crossing Q V 0 [(0, .ref (g.2.1 6)), (1, .int (nI a)), (2, .int (nI b)), (3, .int x), (4, .int y)] []
  refine x_aload_n dX1_crossing_0 0 rfl ?_
  refine x_iload_n dX1_crossing_1 1 rfl ?_
  refine x_callV (K := jX1_isVertex) [.int (nI a)] lk_X1_117 ⟨⟨rfl, rfl⟩, Nat.le_of_ble_eq_true rfl, Nat.le_of_ble_eq_true rfl⟩ rfl rfl (mX1_isVertex hF hG h24 h15 a (by omega)) rfl (Nat.le_of_ble_eq_true rfl) rfl dX1_crossing_2 (kpI ?_)
  refine x_if_eq 16 dX1_crossing_5 (by decide) (fun c1 => by exfalso; revert c1; decide) (fun c1 => ?_)
  refine x_aload_n dX1_crossing_8 0 rfl ?_
  refine x_iload_n dX1_crossing_9 2 rfl ?_
  refine x_callV (K := jX1_isVertex) [.int (nI b)] lk_X1_117 ⟨⟨rfl, rfl⟩, Nat.le_of_ble_eq_true rfl, Nat.le_of_ble_eq_true rfl⟩ rfl rfl (mX1_isVertex hF hG h24 h15 b (by omega)) rfl (Nat.le_of_ble_eq_true rfl) rfl dX1_crossing_10 (kpI ?_)
  refine x_if_ne 18 dX1_crossing_13 (by decide) (fun c2 => ?_) (fun c2 => by exfalso; revert c2; decide)
  refine x_aload_n dX1_crossing_18 0 rfl ?_
  refine x_getR fl_X1_15 rfl rfl dX1_crossing_19 ?_
  refine x_iload_n dX1_crossing_22 1 rfl ?_
  have b3 : vp_in (nI a) 1536 := by exact vp_in_nI (by omega) (by decide)
  refine x_iald rfl b3 dX1_crossing_23 ?_
  refine x_topi (y := V 21 a) (by rw [nI_clamp (by omega)]) ?_
  refine x_topi ((hF.2.2.1 a (by omega)).2.1) ?_
  refine x_iload dX1_crossing_24 4 rfl ?_
  refine x_icmp_gt 44 dX1_crossing_26 (by decide) (fun c4 => ?_) (fun c4 => ?_)
  · refine x_iconst (v := 0) dX1_crossing_44 (by decide) ?_
    refine x_istore 5 [(5, .int 0), (0, .ref (g.2.1 6)), (1, .int (nI a)), (2, .int (nI b)), (3, .int x), (4, .int y)] dX1_crossing_45 (by decide) rfl ?_
    refine x_aload_n dX1_crossing_47 1 rfl ?_
    refine x_getR fl_X1_15 rfl rfl dX1_crossing_48 ?_
    refine x_iload_n dX1_crossing_51 3 rfl ?_
    have b5 : vp_in (nI b) 1536 := by exact vp_in_nI (by omega) (by decide)
    refine x_iald rfl b5 dX1_crossing_52 ?_
    refine x_topi (y := V 21 b) (by rw [nI_clamp (by omega)]) ?_
    refine x_topi ((hF.2.2.1 b (by omega)).2.1) ?_
    refine x_iload dX1_crossing_53 5 rfl ?_
    refine x_icmp_gt 73 dX1_crossing_55 (by decide) (fun c6 => ?_) (fun c6 => ?_)
    · refine x_iconst (v := 0) dX1_crossing_73 (by decide) ?_
      refine x_istore 6 [(6, .int 0), (5, .int 0), (0, .ref (g.2.1 6)), (1, .int (nI a)), (2, .int (nI b)), (3, .int x), (4, .int y)] dX1_crossing_74 (by decide) rfl ?_
      refine x_aload_n dX1_crossing_76 2 rfl ?_
      refine x_getR fl_X1_9 rfl rfl dX1_crossing_77 ?_
      refine x_iload_n dX1_crossing_80 4 rfl ?_
      have b7 : vp_in (nI b) 1536 := by exact vp_in_nI (by omega) (by decide)
      refine x_iald rfl b7 dX1_crossing_81 ?_
      refine x_topi (y := V 20 b) (by rw [nI_clamp (by omega)]) ?_
      refine x_topi ((hF.2.2.1 b (by omega)).1) ?_
      refine x_aload_n dX1_crossing_82 2 rfl ?_
      refine x_getR fl_X1_9 rfl rfl dX1_crossing_83 ?_
      refine x_iload_n dX1_crossing_86 3 rfl ?_
      have b8 : vp_in (nI a) 1536 := by exact vp_in_nI (by omega) (by decide)
      refine x_iald rfl b8 dX1_crossing_87 ?_
      refine x_topi (y := V 20 a) (by rw [nI_clamp (by omega)]) ?_
      refine x_topi ((hF.2.2.1 a (by omega)).1) ?_
      refine x_isub dX1_crossing_88 ?_
      refine x_iload dX1_crossing_89 6 rfl ?_
      refine x_aload_n dX1_crossing_91 2 rfl ?_
      refine x_getR fl_X1_15 rfl rfl dX1_crossing_92 ?_
      refine x_iload_n dX1_crossing_95 3 rfl ?_
      have b9 : vp_in (nI a) 1536 := by exact vp_in_nI (by omega) (by decide)
      refine x_iald rfl b9 dX1_crossing_96 ?_
      refine x_topi (y := V 21 a) (by rw [nI_clamp (by omega)]) ?_
      refine x_topi ((hF.2.2.1 a (by omega)).2.1) ?_
      refine x_isub dX1_crossing_97 ?_
      refine x_imul dX1_crossing_98 ?_
      refine x_iload_n dX1_crossing_99 5 rfl ?_
      refine x_aload_n dX1_crossing_100 2 rfl ?_
      refine x_getR fl_X1_9 rfl rfl dX1_crossing_101 ?_
      refine x_iload_n dX1_crossing_104 3 rfl ?_
      have b10 : vp_in (nI a) 1536 := by exact vp_in_nI (by omega) (by decide)
      refine x_iald rfl b10 dX1_crossing_105 ?_
      refine x_topi (y := V 20 a) (by rw [nI_clamp (by omega)]) ?_
      refine x_topi ((hF.2.2.1 a (by omega)).1) ?_
      refine x_isub dX1_crossing_106 ?_
      refine x_aload_n dX1_crossing_107 2 rfl ?_
      refine x_getR fl_X1_15 rfl rfl dX1_crossing_108 ?_
      refine x_iload_n dX1_crossing_111 4 rfl ?_
      have b11 : vp_in (nI b) 1536 := by exact vp_in_nI (by omega) (by decide)
      refine x_iald rfl b11 dX1_crossing_112 ?_
      refine x_topi (y := V 21 b) (by rw [nI_clamp (by omega)]) ?_
      refine x_topi ((hF.2.2.1 b (by omega)).2.1) ?_
      refine x_aload_n dX1_crossing_113 2 rfl ?_
      refine x_getR fl_X1_15 rfl rfl dX1_crossing_114 ?_
      refine x_iload_n dX1_crossing_117 3 rfl ?_
      have b12 : vp_in (nI a) 1536 := by exact vp_in_nI (by omega) (by decide)
      refine x_iald rfl b12 dX1_crossing_118 ?_
      refine x_topi (y := V 21 a) (by rw [nI_clamp (by omega)]) ?_
      refine x_topi ((hF.2.2.1 a (by omega)).2.1) ?_
      refine x_isub dX1_crossing_119 ?_
      refine x_imul dX1_crossing_120 ?_
      refine x_isub dX1_crossing_121 ?_
      obtain ⟨sz, esz⟩ : ∃ v_v : Int32, v_v = (((S.2.2 0 b) - (S.2.2 0 a)) * (y - (S.2.2 1 a))) - ((x - (S.2.2 0 a)) * ((S.2.2 1 b) - (S.2.2 1 a))) := ⟨_, rfl⟩
      refine x_topi esz.symm ?_
      have hsz : sz.toInt = sdI (S.2.2 0 a) (S.2.2 1 a) (S.2.2 0 b) (S.2.2 1 b) x y := by rw [esz]; exact side32 (hR a ha).1 (hR a ha).2 (hR b hb).1 (hR b hb).2 hx hy
      obtain ⟨z1, z2, z3, z4⟩ := sg32 hsz
      refine x_istore 7 [(7, .int sz), (6, .int 0), (5, .int 0), (0, .ref (g.2.1 6)), (1, .int (nI a)), (2, .int (nI b)), (3, .int x), (4, .int y)] dX1_crossing_122 (by decide) rfl ?_
      refine x_iload dX1_crossing_124 2 rfl ?_
      refine x_if_eq 136 dX1_crossing_126 (by decide) (fun c13 => ?_) (fun c13 => by exfalso; revert c13; decide)
      refine x_iload dX1_crossing_136 1 rfl ?_
      refine x_if_eq 150 dX1_crossing_138 (by decide) (fun c14 => ?_) (fun c14 => by exfalso; revert c14; decide)
      refine x_iconst (v := 0) dX1_crossing_150 (by decide) ?_
      refine x_iret dX1_crossing_151 rfl ?_
      rw [hQ]
      refine ⟨rfl, ?_⟩
      congr 2
      obtain ⟨n1, n2, n3, n4, n5⟩ := crs_n (x0 := S.2.2 0 a) (y0 := S.2.2 1 a) (x1 := S.2.2 0 b) (y1 := S.2.2 1 b) (x := x) (y := y)
      symm
      unfold crh
      first
        | exact n1 (by grind) (by grind)
        | exact n2 (by grind) (by grind)
        | exact n3 (by grind) (by grind) (by grind)
        | exact n4 (by grind) (by grind) (by grind)
        | exact n5 (by grind) (by grind)
        | (exfalso; grind)
    · refine x_aload_n dX1_crossing_58 1 rfl ?_
      refine x_getR fl_X1_15 rfl rfl dX1_crossing_59 ?_
      refine x_iload_n dX1_crossing_62 2 rfl ?_
      have b15 : vp_in (nI a) 1536 := by exact vp_in_nI (by omega) (by decide)
      refine x_iald rfl b15 dX1_crossing_63 ?_
      refine x_topi (y := V 21 a) (by rw [nI_clamp (by omega)]) ?_
      refine x_topi ((hF.2.2.1 a (by omega)).2.1) ?_
      refine x_iload dX1_crossing_64 5 rfl ?_
      refine x_icmp_le 73 dX1_crossing_66 (by decide) (fun c16 => ?_) (fun c16 => ?_)
      · refine x_iconst (v := 0) dX1_crossing_73 (by decide) ?_
        refine x_istore 6 [(6, .int 0), (5, .int 0), (0, .ref (g.2.1 6)), (1, .int (nI a)), (2, .int (nI b)), (3, .int x), (4, .int y)] dX1_crossing_74 (by decide) rfl ?_
        refine x_aload_n dX1_crossing_76 2 rfl ?_
        refine x_getR fl_X1_9 rfl rfl dX1_crossing_77 ?_
        refine x_iload_n dX1_crossing_80 4 rfl ?_
        have b17 : vp_in (nI b) 1536 := by exact vp_in_nI (by omega) (by decide)
        refine x_iald rfl b17 dX1_crossing_81 ?_
        refine x_topi (y := V 20 b) (by rw [nI_clamp (by omega)]) ?_
        refine x_topi ((hF.2.2.1 b (by omega)).1) ?_
        refine x_aload_n dX1_crossing_82 2 rfl ?_
        refine x_getR fl_X1_9 rfl rfl dX1_crossing_83 ?_
        refine x_iload_n dX1_crossing_86 3 rfl ?_
        have b18 : vp_in (nI a) 1536 := by exact vp_in_nI (by omega) (by decide)
        refine x_iald rfl b18 dX1_crossing_87 ?_
        refine x_topi (y := V 20 a) (by rw [nI_clamp (by omega)]) ?_
        refine x_topi ((hF.2.2.1 a (by omega)).1) ?_
        refine x_isub dX1_crossing_88 ?_
        refine x_iload dX1_crossing_89 6 rfl ?_
        refine x_aload_n dX1_crossing_91 2 rfl ?_
        refine x_getR fl_X1_15 rfl rfl dX1_crossing_92 ?_
        refine x_iload_n dX1_crossing_95 3 rfl ?_
        have b19 : vp_in (nI a) 1536 := by exact vp_in_nI (by omega) (by decide)
        refine x_iald rfl b19 dX1_crossing_96 ?_
        refine x_topi (y := V 21 a) (by rw [nI_clamp (by omega)]) ?_
        refine x_topi ((hF.2.2.1 a (by omega)).2.1) ?_
        refine x_isub dX1_crossing_97 ?_
        refine x_imul dX1_crossing_98 ?_
        refine x_iload_n dX1_crossing_99 5 rfl ?_
        refine x_aload_n dX1_crossing_100 2 rfl ?_
        refine x_getR fl_X1_9 rfl rfl dX1_crossing_101 ?_
        refine x_iload_n dX1_crossing_104 3 rfl ?_
        have b20 : vp_in (nI a) 1536 := by exact vp_in_nI (by omega) (by decide)
        refine x_iald rfl b20 dX1_crossing_105 ?_
        refine x_topi (y := V 20 a) (by rw [nI_clamp (by omega)]) ?_
        refine x_topi ((hF.2.2.1 a (by omega)).1) ?_
        refine x_isub dX1_crossing_106 ?_
        refine x_aload_n dX1_crossing_107 2 rfl ?_
        refine x_getR fl_X1_15 rfl rfl dX1_crossing_108 ?_
        refine x_iload_n dX1_crossing_111 4 rfl ?_
        have b21 : vp_in (nI b) 1536 := by exact vp_in_nI (by omega) (by decide)
        refine x_iald rfl b21 dX1_crossing_112 ?_
        refine x_topi (y := V 21 b) (by rw [nI_clamp (by omega)]) ?_
        refine x_topi ((hF.2.2.1 b (by omega)).2.1) ?_
        refine x_aload_n dX1_crossing_113 2 rfl ?_
        refine x_getR fl_X1_15 rfl rfl dX1_crossing_114 ?_
        refine x_iload_n dX1_crossing_117 3 rfl ?_
        have b22 : vp_in (nI a) 1536 := by exact vp_in_nI (by omega) (by decide)
        refine x_iald rfl b22 dX1_crossing_118 ?_
        refine x_topi (y := V 21 a) (by rw [nI_clamp (by omega)]) ?_
        refine x_topi ((hF.2.2.1 a (by omega)).2.1) ?_
        refine x_isub dX1_crossing_119 ?_
        refine x_imul dX1_crossing_120 ?_
        refine x_isub dX1_crossing_121 ?_
        obtain ⟨sz, esz⟩ : ∃ v_v : Int32, v_v = (((S.2.2 0 b) - (S.2.2 0 a)) * (y - (S.2.2 1 a))) - ((x - (S.2.2 0 a)) * ((S.2.2 1 b) - (S.2.2 1 a))) := ⟨_, rfl⟩
        refine x_topi esz.symm ?_
        have hsz : sz.toInt = sdI (S.2.2 0 a) (S.2.2 1 a) (S.2.2 0 b) (S.2.2 1 b) x y := by rw [esz]; exact side32 (hR a ha).1 (hR a ha).2 (hR b hb).1 (hR b hb).2 hx hy
        obtain ⟨z1, z2, z3, z4⟩ := sg32 hsz
        refine x_istore 7 [(7, .int sz), (6, .int 0), (5, .int 0), (0, .ref (g.2.1 6)), (1, .int (nI a)), (2, .int (nI b)), (3, .int x), (4, .int y)] dX1_crossing_122 (by decide) rfl ?_
        refine x_iload dX1_crossing_124 2 rfl ?_
        refine x_if_eq 136 dX1_crossing_126 (by decide) (fun c23 => ?_) (fun c23 => by exfalso; revert c23; decide)
        refine x_iload dX1_crossing_136 1 rfl ?_
        refine x_if_eq 150 dX1_crossing_138 (by decide) (fun c24 => ?_) (fun c24 => by exfalso; revert c24; decide)
        refine x_iconst (v := 0) dX1_crossing_150 (by decide) ?_
        refine x_iret dX1_crossing_151 rfl ?_
        rw [hQ]
        refine ⟨rfl, ?_⟩
        congr 2
        obtain ⟨n1, n2, n3, n4, n5⟩ := crs_n (x0 := S.2.2 0 a) (y0 := S.2.2 1 a) (x1 := S.2.2 0 b) (y1 := S.2.2 1 b) (x := x) (y := y)
        symm
        unfold crh
        first
          | exact n1 (by grind) (by grind)
          | exact n2 (by grind) (by grind)
          | exact n3 (by grind) (by grind) (by grind)
          | exact n4 (by grind) (by grind) (by grind)
          | exact n5 (by grind) (by grind)
          | (exfalso; grind)
      · refine x_iconst (v := 1) dX1_crossing_69 (by decide) ?_
        refine x_goto 74 dX1_crossing_70 (by decide) ?_
        refine x_istore 6 [(6, .int 1), (5, .int 0), (0, .ref (g.2.1 6)), (1, .int (nI a)), (2, .int (nI b)), (3, .int x), (4, .int y)] dX1_crossing_74 (by decide) rfl ?_
        refine x_aload_n dX1_crossing_76 2 rfl ?_
        refine x_getR fl_X1_9 rfl rfl dX1_crossing_77 ?_
        refine x_iload_n dX1_crossing_80 4 rfl ?_
        have b25 : vp_in (nI b) 1536 := by exact vp_in_nI (by omega) (by decide)
        refine x_iald rfl b25 dX1_crossing_81 ?_
        refine x_topi (y := V 20 b) (by rw [nI_clamp (by omega)]) ?_
        refine x_topi ((hF.2.2.1 b (by omega)).1) ?_
        refine x_aload_n dX1_crossing_82 2 rfl ?_
        refine x_getR fl_X1_9 rfl rfl dX1_crossing_83 ?_
        refine x_iload_n dX1_crossing_86 3 rfl ?_
        have b26 : vp_in (nI a) 1536 := by exact vp_in_nI (by omega) (by decide)
        refine x_iald rfl b26 dX1_crossing_87 ?_
        refine x_topi (y := V 20 a) (by rw [nI_clamp (by omega)]) ?_
        refine x_topi ((hF.2.2.1 a (by omega)).1) ?_
        refine x_isub dX1_crossing_88 ?_
        refine x_iload dX1_crossing_89 6 rfl ?_
        refine x_aload_n dX1_crossing_91 2 rfl ?_
        refine x_getR fl_X1_15 rfl rfl dX1_crossing_92 ?_
        refine x_iload_n dX1_crossing_95 3 rfl ?_
        have b27 : vp_in (nI a) 1536 := by exact vp_in_nI (by omega) (by decide)
        refine x_iald rfl b27 dX1_crossing_96 ?_
        refine x_topi (y := V 21 a) (by rw [nI_clamp (by omega)]) ?_
        refine x_topi ((hF.2.2.1 a (by omega)).2.1) ?_
        refine x_isub dX1_crossing_97 ?_
        refine x_imul dX1_crossing_98 ?_
        refine x_iload_n dX1_crossing_99 5 rfl ?_
        refine x_aload_n dX1_crossing_100 2 rfl ?_
        refine x_getR fl_X1_9 rfl rfl dX1_crossing_101 ?_
        refine x_iload_n dX1_crossing_104 3 rfl ?_
        have b28 : vp_in (nI a) 1536 := by exact vp_in_nI (by omega) (by decide)
        refine x_iald rfl b28 dX1_crossing_105 ?_
        refine x_topi (y := V 20 a) (by rw [nI_clamp (by omega)]) ?_
        refine x_topi ((hF.2.2.1 a (by omega)).1) ?_
        refine x_isub dX1_crossing_106 ?_
        refine x_aload_n dX1_crossing_107 2 rfl ?_
        refine x_getR fl_X1_15 rfl rfl dX1_crossing_108 ?_
        refine x_iload_n dX1_crossing_111 4 rfl ?_
        have b29 : vp_in (nI b) 1536 := by exact vp_in_nI (by omega) (by decide)
        refine x_iald rfl b29 dX1_crossing_112 ?_
        refine x_topi (y := V 21 b) (by rw [nI_clamp (by omega)]) ?_
        refine x_topi ((hF.2.2.1 b (by omega)).2.1) ?_
        refine x_aload_n dX1_crossing_113 2 rfl ?_
        refine x_getR fl_X1_15 rfl rfl dX1_crossing_114 ?_
        refine x_iload_n dX1_crossing_117 3 rfl ?_
        have b30 : vp_in (nI a) 1536 := by exact vp_in_nI (by omega) (by decide)
        refine x_iald rfl b30 dX1_crossing_118 ?_
        refine x_topi (y := V 21 a) (by rw [nI_clamp (by omega)]) ?_
        refine x_topi ((hF.2.2.1 a (by omega)).2.1) ?_
        refine x_isub dX1_crossing_119 ?_
        refine x_imul dX1_crossing_120 ?_
        refine x_isub dX1_crossing_121 ?_
        obtain ⟨sz, esz⟩ : ∃ v_v : Int32, v_v = (((S.2.2 0 b) - (S.2.2 0 a)) * (y - (S.2.2 1 a))) - ((x - (S.2.2 0 a)) * ((S.2.2 1 b) - (S.2.2 1 a))) := ⟨_, rfl⟩
        refine x_topi esz.symm ?_
        have hsz : sz.toInt = sdI (S.2.2 0 a) (S.2.2 1 a) (S.2.2 0 b) (S.2.2 1 b) x y := by rw [esz]; exact side32 (hR a ha).1 (hR a ha).2 (hR b hb).1 (hR b hb).2 hx hy
        obtain ⟨z1, z2, z3, z4⟩ := sg32 hsz
        refine x_istore 7 [(7, .int sz), (6, .int 1), (5, .int 0), (0, .ref (g.2.1 6)), (1, .int (nI a)), (2, .int (nI b)), (3, .int x), (4, .int y)] dX1_crossing_122 (by decide) rfl ?_
        refine x_iload dX1_crossing_124 2 rfl ?_
        refine x_if_eq 136 dX1_crossing_126 (by decide) (fun c31 => ?_) (fun c31 => by exfalso; revert c31; decide)
        refine x_iload dX1_crossing_136 1 rfl ?_
        refine x_if_eq 150 dX1_crossing_138 (by decide) (fun c32 => by exfalso; revert c32; decide) (fun c32 => ?_)
        refine x_iload dX1_crossing_141 0 rfl ?_
        refine x_if_ge 150 dX1_crossing_143 (by decide) (fun c33 => ?_) (fun c33 => ?_)
        · refine x_iconst (v := 0) dX1_crossing_150 (by decide) ?_
          refine x_iret dX1_crossing_151 rfl ?_
          rw [hQ]
          refine ⟨rfl, ?_⟩
          congr 2
          obtain ⟨n1, n2, n3, n4, n5⟩ := crs_n (x0 := S.2.2 0 a) (y0 := S.2.2 1 a) (x1 := S.2.2 0 b) (y1 := S.2.2 1 b) (x := x) (y := y)
          symm
          unfold crh
          first
            | exact n1 (by grind) (by grind)
            | exact n2 (by grind) (by grind)
            | exact n3 (by grind) (by grind) (by grind)
            | exact n4 (by grind) (by grind) (by grind)
            | exact n5 (by grind) (by grind)
            | (exfalso; grind)
        · refine x_iconst (v := -1) dX1_crossing_146 (by decide) ?_
          refine x_goto 151 dX1_crossing_147 (by decide) ?_
          refine x_iret dX1_crossing_151 rfl ?_
          rw [hQ]
          refine ⟨rfl, ?_⟩
          congr 2
          obtain ⟨n1, n2, n3, n4, n5⟩ := crs_n (x0 := S.2.2 0 a) (y0 := S.2.2 1 a) (x1 := S.2.2 0 b) (y1 := S.2.2 1 b) (x := x) (y := y)
          symm
          unfold crh
          first
            | exact n1 (by grind) (by grind)
            | exact n2 (by grind) (by grind)
            | exact n3 (by grind) (by grind) (by grind)
            | exact n4 (by grind) (by grind) (by grind)
            | exact n5 (by grind) (by grind)
            | (exfalso; grind)
  · refine x_aload_n dX1_crossing_29 0 rfl ?_
    refine x_getR fl_X1_15 rfl rfl dX1_crossing_30 ?_
    refine x_iload_n dX1_crossing_33 2 rfl ?_
    have b34 : vp_in (nI b) 1536 := by exact vp_in_nI (by omega) (by decide)
    refine x_iald rfl b34 dX1_crossing_34 ?_
    refine x_topi (y := V 21 b) (by rw [nI_clamp (by omega)]) ?_
    refine x_topi ((hF.2.2.1 b (by omega)).2.1) ?_
    refine x_iload dX1_crossing_35 4 rfl ?_
    refine x_icmp_le 44 dX1_crossing_37 (by decide) (fun c35 => ?_) (fun c35 => ?_)
    · refine x_iconst (v := 0) dX1_crossing_44 (by decide) ?_
      refine x_istore 5 [(5, .int 0), (0, .ref (g.2.1 6)), (1, .int (nI a)), (2, .int (nI b)), (3, .int x), (4, .int y)] dX1_crossing_45 (by decide) rfl ?_
      refine x_aload_n dX1_crossing_47 1 rfl ?_
      refine x_getR fl_X1_15 rfl rfl dX1_crossing_48 ?_
      refine x_iload_n dX1_crossing_51 3 rfl ?_
      have b36 : vp_in (nI b) 1536 := by exact vp_in_nI (by omega) (by decide)
      refine x_iald rfl b36 dX1_crossing_52 ?_
      refine x_topi (y := V 21 b) (by rw [nI_clamp (by omega)]) ?_
      refine x_topi ((hF.2.2.1 b (by omega)).2.1) ?_
      refine x_iload dX1_crossing_53 5 rfl ?_
      refine x_icmp_gt 73 dX1_crossing_55 (by decide) (fun c37 => ?_) (fun c37 => ?_)
      · refine x_iconst (v := 0) dX1_crossing_73 (by decide) ?_
        refine x_istore 6 [(6, .int 0), (5, .int 0), (0, .ref (g.2.1 6)), (1, .int (nI a)), (2, .int (nI b)), (3, .int x), (4, .int y)] dX1_crossing_74 (by decide) rfl ?_
        refine x_aload_n dX1_crossing_76 2 rfl ?_
        refine x_getR fl_X1_9 rfl rfl dX1_crossing_77 ?_
        refine x_iload_n dX1_crossing_80 4 rfl ?_
        have b38 : vp_in (nI b) 1536 := by exact vp_in_nI (by omega) (by decide)
        refine x_iald rfl b38 dX1_crossing_81 ?_
        refine x_topi (y := V 20 b) (by rw [nI_clamp (by omega)]) ?_
        refine x_topi ((hF.2.2.1 b (by omega)).1) ?_
        refine x_aload_n dX1_crossing_82 2 rfl ?_
        refine x_getR fl_X1_9 rfl rfl dX1_crossing_83 ?_
        refine x_iload_n dX1_crossing_86 3 rfl ?_
        have b39 : vp_in (nI a) 1536 := by exact vp_in_nI (by omega) (by decide)
        refine x_iald rfl b39 dX1_crossing_87 ?_
        refine x_topi (y := V 20 a) (by rw [nI_clamp (by omega)]) ?_
        refine x_topi ((hF.2.2.1 a (by omega)).1) ?_
        refine x_isub dX1_crossing_88 ?_
        refine x_iload dX1_crossing_89 6 rfl ?_
        refine x_aload_n dX1_crossing_91 2 rfl ?_
        refine x_getR fl_X1_15 rfl rfl dX1_crossing_92 ?_
        refine x_iload_n dX1_crossing_95 3 rfl ?_
        have b40 : vp_in (nI a) 1536 := by exact vp_in_nI (by omega) (by decide)
        refine x_iald rfl b40 dX1_crossing_96 ?_
        refine x_topi (y := V 21 a) (by rw [nI_clamp (by omega)]) ?_
        refine x_topi ((hF.2.2.1 a (by omega)).2.1) ?_
        refine x_isub dX1_crossing_97 ?_
        refine x_imul dX1_crossing_98 ?_
        refine x_iload_n dX1_crossing_99 5 rfl ?_
        refine x_aload_n dX1_crossing_100 2 rfl ?_
        refine x_getR fl_X1_9 rfl rfl dX1_crossing_101 ?_
        refine x_iload_n dX1_crossing_104 3 rfl ?_
        have b41 : vp_in (nI a) 1536 := by exact vp_in_nI (by omega) (by decide)
        refine x_iald rfl b41 dX1_crossing_105 ?_
        refine x_topi (y := V 20 a) (by rw [nI_clamp (by omega)]) ?_
        refine x_topi ((hF.2.2.1 a (by omega)).1) ?_
        refine x_isub dX1_crossing_106 ?_
        refine x_aload_n dX1_crossing_107 2 rfl ?_
        refine x_getR fl_X1_15 rfl rfl dX1_crossing_108 ?_
        refine x_iload_n dX1_crossing_111 4 rfl ?_
        have b42 : vp_in (nI b) 1536 := by exact vp_in_nI (by omega) (by decide)
        refine x_iald rfl b42 dX1_crossing_112 ?_
        refine x_topi (y := V 21 b) (by rw [nI_clamp (by omega)]) ?_
        refine x_topi ((hF.2.2.1 b (by omega)).2.1) ?_
        refine x_aload_n dX1_crossing_113 2 rfl ?_
        refine x_getR fl_X1_15 rfl rfl dX1_crossing_114 ?_
        refine x_iload_n dX1_crossing_117 3 rfl ?_
        have b43 : vp_in (nI a) 1536 := by exact vp_in_nI (by omega) (by decide)
        refine x_iald rfl b43 dX1_crossing_118 ?_
        refine x_topi (y := V 21 a) (by rw [nI_clamp (by omega)]) ?_
        refine x_topi ((hF.2.2.1 a (by omega)).2.1) ?_
        refine x_isub dX1_crossing_119 ?_
        refine x_imul dX1_crossing_120 ?_
        refine x_isub dX1_crossing_121 ?_
        obtain ⟨sz, esz⟩ : ∃ v_v : Int32, v_v = (((S.2.2 0 b) - (S.2.2 0 a)) * (y - (S.2.2 1 a))) - ((x - (S.2.2 0 a)) * ((S.2.2 1 b) - (S.2.2 1 a))) := ⟨_, rfl⟩
        refine x_topi esz.symm ?_
        have hsz : sz.toInt = sdI (S.2.2 0 a) (S.2.2 1 a) (S.2.2 0 b) (S.2.2 1 b) x y := by rw [esz]; exact side32 (hR a ha).1 (hR a ha).2 (hR b hb).1 (hR b hb).2 hx hy
        obtain ⟨z1, z2, z3, z4⟩ := sg32 hsz
        refine x_istore 7 [(7, .int sz), (6, .int 0), (5, .int 0), (0, .ref (g.2.1 6)), (1, .int (nI a)), (2, .int (nI b)), (3, .int x), (4, .int y)] dX1_crossing_122 (by decide) rfl ?_
        refine x_iload dX1_crossing_124 2 rfl ?_
        refine x_if_eq 136 dX1_crossing_126 (by decide) (fun c44 => ?_) (fun c44 => by exfalso; revert c44; decide)
        refine x_iload dX1_crossing_136 1 rfl ?_
        refine x_if_eq 150 dX1_crossing_138 (by decide) (fun c45 => ?_) (fun c45 => by exfalso; revert c45; decide)
        refine x_iconst (v := 0) dX1_crossing_150 (by decide) ?_
        refine x_iret dX1_crossing_151 rfl ?_
        rw [hQ]
        refine ⟨rfl, ?_⟩
        congr 2
        obtain ⟨n1, n2, n3, n4, n5⟩ := crs_n (x0 := S.2.2 0 a) (y0 := S.2.2 1 a) (x1 := S.2.2 0 b) (y1 := S.2.2 1 b) (x := x) (y := y)
        symm
        unfold crh
        first
          | exact n1 (by grind) (by grind)
          | exact n2 (by grind) (by grind)
          | exact n3 (by grind) (by grind) (by grind)
          | exact n4 (by grind) (by grind) (by grind)
          | exact n5 (by grind) (by grind)
          | (exfalso; grind)
      · refine x_aload_n dX1_crossing_58 1 rfl ?_
        refine x_getR fl_X1_15 rfl rfl dX1_crossing_59 ?_
        refine x_iload_n dX1_crossing_62 2 rfl ?_
        have b46 : vp_in (nI a) 1536 := by exact vp_in_nI (by omega) (by decide)
        refine x_iald rfl b46 dX1_crossing_63 ?_
        refine x_topi (y := V 21 a) (by rw [nI_clamp (by omega)]) ?_
        refine x_topi ((hF.2.2.1 a (by omega)).2.1) ?_
        refine x_iload dX1_crossing_64 5 rfl ?_
        refine x_icmp_le 73 dX1_crossing_66 (by decide) (fun c47 => ?_) (fun c47 => ?_)
        · refine x_iconst (v := 0) dX1_crossing_73 (by decide) ?_
          refine x_istore 6 [(6, .int 0), (5, .int 0), (0, .ref (g.2.1 6)), (1, .int (nI a)), (2, .int (nI b)), (3, .int x), (4, .int y)] dX1_crossing_74 (by decide) rfl ?_
          refine x_aload_n dX1_crossing_76 2 rfl ?_
          refine x_getR fl_X1_9 rfl rfl dX1_crossing_77 ?_
          refine x_iload_n dX1_crossing_80 4 rfl ?_
          have b48 : vp_in (nI b) 1536 := by exact vp_in_nI (by omega) (by decide)
          refine x_iald rfl b48 dX1_crossing_81 ?_
          refine x_topi (y := V 20 b) (by rw [nI_clamp (by omega)]) ?_
          refine x_topi ((hF.2.2.1 b (by omega)).1) ?_
          refine x_aload_n dX1_crossing_82 2 rfl ?_
          refine x_getR fl_X1_9 rfl rfl dX1_crossing_83 ?_
          refine x_iload_n dX1_crossing_86 3 rfl ?_
          have b49 : vp_in (nI a) 1536 := by exact vp_in_nI (by omega) (by decide)
          refine x_iald rfl b49 dX1_crossing_87 ?_
          refine x_topi (y := V 20 a) (by rw [nI_clamp (by omega)]) ?_
          refine x_topi ((hF.2.2.1 a (by omega)).1) ?_
          refine x_isub dX1_crossing_88 ?_
          refine x_iload dX1_crossing_89 6 rfl ?_
          refine x_aload_n dX1_crossing_91 2 rfl ?_
          refine x_getR fl_X1_15 rfl rfl dX1_crossing_92 ?_
          refine x_iload_n dX1_crossing_95 3 rfl ?_
          have b50 : vp_in (nI a) 1536 := by exact vp_in_nI (by omega) (by decide)
          refine x_iald rfl b50 dX1_crossing_96 ?_
          refine x_topi (y := V 21 a) (by rw [nI_clamp (by omega)]) ?_
          refine x_topi ((hF.2.2.1 a (by omega)).2.1) ?_
          refine x_isub dX1_crossing_97 ?_
          refine x_imul dX1_crossing_98 ?_
          refine x_iload_n dX1_crossing_99 5 rfl ?_
          refine x_aload_n dX1_crossing_100 2 rfl ?_
          refine x_getR fl_X1_9 rfl rfl dX1_crossing_101 ?_
          refine x_iload_n dX1_crossing_104 3 rfl ?_
          have b51 : vp_in (nI a) 1536 := by exact vp_in_nI (by omega) (by decide)
          refine x_iald rfl b51 dX1_crossing_105 ?_
          refine x_topi (y := V 20 a) (by rw [nI_clamp (by omega)]) ?_
          refine x_topi ((hF.2.2.1 a (by omega)).1) ?_
          refine x_isub dX1_crossing_106 ?_
          refine x_aload_n dX1_crossing_107 2 rfl ?_
          refine x_getR fl_X1_15 rfl rfl dX1_crossing_108 ?_
          refine x_iload_n dX1_crossing_111 4 rfl ?_
          have b52 : vp_in (nI b) 1536 := by exact vp_in_nI (by omega) (by decide)
          refine x_iald rfl b52 dX1_crossing_112 ?_
          refine x_topi (y := V 21 b) (by rw [nI_clamp (by omega)]) ?_
          refine x_topi ((hF.2.2.1 b (by omega)).2.1) ?_
          refine x_aload_n dX1_crossing_113 2 rfl ?_
          refine x_getR fl_X1_15 rfl rfl dX1_crossing_114 ?_
          refine x_iload_n dX1_crossing_117 3 rfl ?_
          have b53 : vp_in (nI a) 1536 := by exact vp_in_nI (by omega) (by decide)
          refine x_iald rfl b53 dX1_crossing_118 ?_
          refine x_topi (y := V 21 a) (by rw [nI_clamp (by omega)]) ?_
          refine x_topi ((hF.2.2.1 a (by omega)).2.1) ?_
          refine x_isub dX1_crossing_119 ?_
          refine x_imul dX1_crossing_120 ?_
          refine x_isub dX1_crossing_121 ?_
          obtain ⟨sz, esz⟩ : ∃ v_v : Int32, v_v = (((S.2.2 0 b) - (S.2.2 0 a)) * (y - (S.2.2 1 a))) - ((x - (S.2.2 0 a)) * ((S.2.2 1 b) - (S.2.2 1 a))) := ⟨_, rfl⟩
          refine x_topi esz.symm ?_
          have hsz : sz.toInt = sdI (S.2.2 0 a) (S.2.2 1 a) (S.2.2 0 b) (S.2.2 1 b) x y := by rw [esz]; exact side32 (hR a ha).1 (hR a ha).2 (hR b hb).1 (hR b hb).2 hx hy
          obtain ⟨z1, z2, z3, z4⟩ := sg32 hsz
          refine x_istore 7 [(7, .int sz), (6, .int 0), (5, .int 0), (0, .ref (g.2.1 6)), (1, .int (nI a)), (2, .int (nI b)), (3, .int x), (4, .int y)] dX1_crossing_122 (by decide) rfl ?_
          refine x_iload dX1_crossing_124 2 rfl ?_
          refine x_if_eq 136 dX1_crossing_126 (by decide) (fun c54 => ?_) (fun c54 => by exfalso; revert c54; decide)
          refine x_iload dX1_crossing_136 1 rfl ?_
          refine x_if_eq 150 dX1_crossing_138 (by decide) (fun c55 => ?_) (fun c55 => by exfalso; revert c55; decide)
          refine x_iconst (v := 0) dX1_crossing_150 (by decide) ?_
          refine x_iret dX1_crossing_151 rfl ?_
          rw [hQ]
          refine ⟨rfl, ?_⟩
          congr 2
          obtain ⟨n1, n2, n3, n4, n5⟩ := crs_n (x0 := S.2.2 0 a) (y0 := S.2.2 1 a) (x1 := S.2.2 0 b) (y1 := S.2.2 1 b) (x := x) (y := y)
          symm
          unfold crh
          first
            | exact n1 (by grind) (by grind)
            | exact n2 (by grind) (by grind)
            | exact n3 (by grind) (by grind) (by grind)
            | exact n4 (by grind) (by grind) (by grind)
            | exact n5 (by grind) (by grind)
            | (exfalso; grind)
        · refine x_iconst (v := 1) dX1_crossing_69 (by decide) ?_
          refine x_goto 74 dX1_crossing_70 (by decide) ?_
          refine x_istore 6 [(6, .int 1), (5, .int 0), (0, .ref (g.2.1 6)), (1, .int (nI a)), (2, .int (nI b)), (3, .int x), (4, .int y)] dX1_crossing_74 (by decide) rfl ?_
          refine x_aload_n dX1_crossing_76 2 rfl ?_
          refine x_getR fl_X1_9 rfl rfl dX1_crossing_77 ?_
          refine x_iload_n dX1_crossing_80 4 rfl ?_
          have b56 : vp_in (nI b) 1536 := by exact vp_in_nI (by omega) (by decide)
          refine x_iald rfl b56 dX1_crossing_81 ?_
          refine x_topi (y := V 20 b) (by rw [nI_clamp (by omega)]) ?_
          refine x_topi ((hF.2.2.1 b (by omega)).1) ?_
          refine x_aload_n dX1_crossing_82 2 rfl ?_
          refine x_getR fl_X1_9 rfl rfl dX1_crossing_83 ?_
          refine x_iload_n dX1_crossing_86 3 rfl ?_
          have b57 : vp_in (nI a) 1536 := by exact vp_in_nI (by omega) (by decide)
          refine x_iald rfl b57 dX1_crossing_87 ?_
          refine x_topi (y := V 20 a) (by rw [nI_clamp (by omega)]) ?_
          refine x_topi ((hF.2.2.1 a (by omega)).1) ?_
          refine x_isub dX1_crossing_88 ?_
          refine x_iload dX1_crossing_89 6 rfl ?_
          refine x_aload_n dX1_crossing_91 2 rfl ?_
          refine x_getR fl_X1_15 rfl rfl dX1_crossing_92 ?_
          refine x_iload_n dX1_crossing_95 3 rfl ?_
          have b58 : vp_in (nI a) 1536 := by exact vp_in_nI (by omega) (by decide)
          refine x_iald rfl b58 dX1_crossing_96 ?_
          refine x_topi (y := V 21 a) (by rw [nI_clamp (by omega)]) ?_
          refine x_topi ((hF.2.2.1 a (by omega)).2.1) ?_
          refine x_isub dX1_crossing_97 ?_
          refine x_imul dX1_crossing_98 ?_
          refine x_iload_n dX1_crossing_99 5 rfl ?_
          refine x_aload_n dX1_crossing_100 2 rfl ?_
          refine x_getR fl_X1_9 rfl rfl dX1_crossing_101 ?_
          refine x_iload_n dX1_crossing_104 3 rfl ?_
          have b59 : vp_in (nI a) 1536 := by exact vp_in_nI (by omega) (by decide)
          refine x_iald rfl b59 dX1_crossing_105 ?_
          refine x_topi (y := V 20 a) (by rw [nI_clamp (by omega)]) ?_
          refine x_topi ((hF.2.2.1 a (by omega)).1) ?_
          refine x_isub dX1_crossing_106 ?_
          refine x_aload_n dX1_crossing_107 2 rfl ?_
          refine x_getR fl_X1_15 rfl rfl dX1_crossing_108 ?_
          refine x_iload_n dX1_crossing_111 4 rfl ?_
          have b60 : vp_in (nI b) 1536 := by exact vp_in_nI (by omega) (by decide)
          refine x_iald rfl b60 dX1_crossing_112 ?_
          refine x_topi (y := V 21 b) (by rw [nI_clamp (by omega)]) ?_
          refine x_topi ((hF.2.2.1 b (by omega)).2.1) ?_
          refine x_aload_n dX1_crossing_113 2 rfl ?_
          refine x_getR fl_X1_15 rfl rfl dX1_crossing_114 ?_
          refine x_iload_n dX1_crossing_117 3 rfl ?_
          have b61 : vp_in (nI a) 1536 := by exact vp_in_nI (by omega) (by decide)
          refine x_iald rfl b61 dX1_crossing_118 ?_
          refine x_topi (y := V 21 a) (by rw [nI_clamp (by omega)]) ?_
          refine x_topi ((hF.2.2.1 a (by omega)).2.1) ?_
          refine x_isub dX1_crossing_119 ?_
          refine x_imul dX1_crossing_120 ?_
          refine x_isub dX1_crossing_121 ?_
          obtain ⟨sz, esz⟩ : ∃ v_v : Int32, v_v = (((S.2.2 0 b) - (S.2.2 0 a)) * (y - (S.2.2 1 a))) - ((x - (S.2.2 0 a)) * ((S.2.2 1 b) - (S.2.2 1 a))) := ⟨_, rfl⟩
          refine x_topi esz.symm ?_
          have hsz : sz.toInt = sdI (S.2.2 0 a) (S.2.2 1 a) (S.2.2 0 b) (S.2.2 1 b) x y := by rw [esz]; exact side32 (hR a ha).1 (hR a ha).2 (hR b hb).1 (hR b hb).2 hx hy
          obtain ⟨z1, z2, z3, z4⟩ := sg32 hsz
          refine x_istore 7 [(7, .int sz), (6, .int 1), (5, .int 0), (0, .ref (g.2.1 6)), (1, .int (nI a)), (2, .int (nI b)), (3, .int x), (4, .int y)] dX1_crossing_122 (by decide) rfl ?_
          refine x_iload dX1_crossing_124 2 rfl ?_
          refine x_if_eq 136 dX1_crossing_126 (by decide) (fun c62 => ?_) (fun c62 => by exfalso; revert c62; decide)
          refine x_iload dX1_crossing_136 1 rfl ?_
          refine x_if_eq 150 dX1_crossing_138 (by decide) (fun c63 => by exfalso; revert c63; decide) (fun c63 => ?_)
          refine x_iload dX1_crossing_141 0 rfl ?_
          refine x_if_ge 150 dX1_crossing_143 (by decide) (fun c64 => ?_) (fun c64 => ?_)
          · refine x_iconst (v := 0) dX1_crossing_150 (by decide) ?_
            refine x_iret dX1_crossing_151 rfl ?_
            rw [hQ]
            refine ⟨rfl, ?_⟩
            congr 2
            obtain ⟨n1, n2, n3, n4, n5⟩ := crs_n (x0 := S.2.2 0 a) (y0 := S.2.2 1 a) (x1 := S.2.2 0 b) (y1 := S.2.2 1 b) (x := x) (y := y)
            symm
            unfold crh
            first
              | exact n1 (by grind) (by grind)
              | exact n2 (by grind) (by grind)
              | exact n3 (by grind) (by grind) (by grind)
              | exact n4 (by grind) (by grind) (by grind)
              | exact n5 (by grind) (by grind)
              | (exfalso; grind)
          · refine x_iconst (v := -1) dX1_crossing_146 (by decide) ?_
            refine x_goto 151 dX1_crossing_147 (by decide) ?_
            refine x_iret dX1_crossing_151 rfl ?_
            rw [hQ]
            refine ⟨rfl, ?_⟩
            congr 2
            obtain ⟨n1, n2, n3, n4, n5⟩ := crs_n (x0 := S.2.2 0 a) (y0 := S.2.2 1 a) (x1 := S.2.2 0 b) (y1 := S.2.2 1 b) (x := x) (y := y)
            symm
            unfold crh
            first
              | exact n1 (by grind) (by grind)
              | exact n2 (by grind) (by grind)
              | exact n3 (by grind) (by grind) (by grind)
              | exact n4 (by grind) (by grind) (by grind)
              | exact n5 (by grind) (by grind)
              | (exfalso; grind)
    · refine x_iconst (v := 1) dX1_crossing_40 (by decide) ?_
      refine x_goto 45 dX1_crossing_41 (by decide) ?_
      refine x_istore 5 [(5, .int 1), (0, .ref (g.2.1 6)), (1, .int (nI a)), (2, .int (nI b)), (3, .int x), (4, .int y)] dX1_crossing_45 (by decide) rfl ?_
      refine x_aload_n dX1_crossing_47 1 rfl ?_
      refine x_getR fl_X1_15 rfl rfl dX1_crossing_48 ?_
      refine x_iload_n dX1_crossing_51 3 rfl ?_
      have b65 : vp_in (nI b) 1536 := by exact vp_in_nI (by omega) (by decide)
      refine x_iald rfl b65 dX1_crossing_52 ?_
      refine x_topi (y := V 21 b) (by rw [nI_clamp (by omega)]) ?_
      refine x_topi ((hF.2.2.1 b (by omega)).2.1) ?_
      refine x_iload dX1_crossing_53 5 rfl ?_
      refine x_icmp_gt 73 dX1_crossing_55 (by decide) (fun c66 => ?_) (fun c66 => ?_)
      · refine x_iconst (v := 0) dX1_crossing_73 (by decide) ?_
        refine x_istore 6 [(6, .int 0), (5, .int 1), (0, .ref (g.2.1 6)), (1, .int (nI a)), (2, .int (nI b)), (3, .int x), (4, .int y)] dX1_crossing_74 (by decide) rfl ?_
        refine x_aload_n dX1_crossing_76 2 rfl ?_
        refine x_getR fl_X1_9 rfl rfl dX1_crossing_77 ?_
        refine x_iload_n dX1_crossing_80 4 rfl ?_
        have b67 : vp_in (nI b) 1536 := by exact vp_in_nI (by omega) (by decide)
        refine x_iald rfl b67 dX1_crossing_81 ?_
        refine x_topi (y := V 20 b) (by rw [nI_clamp (by omega)]) ?_
        refine x_topi ((hF.2.2.1 b (by omega)).1) ?_
        refine x_aload_n dX1_crossing_82 2 rfl ?_
        refine x_getR fl_X1_9 rfl rfl dX1_crossing_83 ?_
        refine x_iload_n dX1_crossing_86 3 rfl ?_
        have b68 : vp_in (nI a) 1536 := by exact vp_in_nI (by omega) (by decide)
        refine x_iald rfl b68 dX1_crossing_87 ?_
        refine x_topi (y := V 20 a) (by rw [nI_clamp (by omega)]) ?_
        refine x_topi ((hF.2.2.1 a (by omega)).1) ?_
        refine x_isub dX1_crossing_88 ?_
        refine x_iload dX1_crossing_89 6 rfl ?_
        refine x_aload_n dX1_crossing_91 2 rfl ?_
        refine x_getR fl_X1_15 rfl rfl dX1_crossing_92 ?_
        refine x_iload_n dX1_crossing_95 3 rfl ?_
        have b69 : vp_in (nI a) 1536 := by exact vp_in_nI (by omega) (by decide)
        refine x_iald rfl b69 dX1_crossing_96 ?_
        refine x_topi (y := V 21 a) (by rw [nI_clamp (by omega)]) ?_
        refine x_topi ((hF.2.2.1 a (by omega)).2.1) ?_
        refine x_isub dX1_crossing_97 ?_
        refine x_imul dX1_crossing_98 ?_
        refine x_iload_n dX1_crossing_99 5 rfl ?_
        refine x_aload_n dX1_crossing_100 2 rfl ?_
        refine x_getR fl_X1_9 rfl rfl dX1_crossing_101 ?_
        refine x_iload_n dX1_crossing_104 3 rfl ?_
        have b70 : vp_in (nI a) 1536 := by exact vp_in_nI (by omega) (by decide)
        refine x_iald rfl b70 dX1_crossing_105 ?_
        refine x_topi (y := V 20 a) (by rw [nI_clamp (by omega)]) ?_
        refine x_topi ((hF.2.2.1 a (by omega)).1) ?_
        refine x_isub dX1_crossing_106 ?_
        refine x_aload_n dX1_crossing_107 2 rfl ?_
        refine x_getR fl_X1_15 rfl rfl dX1_crossing_108 ?_
        refine x_iload_n dX1_crossing_111 4 rfl ?_
        have b71 : vp_in (nI b) 1536 := by exact vp_in_nI (by omega) (by decide)
        refine x_iald rfl b71 dX1_crossing_112 ?_
        refine x_topi (y := V 21 b) (by rw [nI_clamp (by omega)]) ?_
        refine x_topi ((hF.2.2.1 b (by omega)).2.1) ?_
        refine x_aload_n dX1_crossing_113 2 rfl ?_
        refine x_getR fl_X1_15 rfl rfl dX1_crossing_114 ?_
        refine x_iload_n dX1_crossing_117 3 rfl ?_
        have b72 : vp_in (nI a) 1536 := by exact vp_in_nI (by omega) (by decide)
        refine x_iald rfl b72 dX1_crossing_118 ?_
        refine x_topi (y := V 21 a) (by rw [nI_clamp (by omega)]) ?_
        refine x_topi ((hF.2.2.1 a (by omega)).2.1) ?_
        refine x_isub dX1_crossing_119 ?_
        refine x_imul dX1_crossing_120 ?_
        refine x_isub dX1_crossing_121 ?_
        obtain ⟨sz, esz⟩ : ∃ v_v : Int32, v_v = (((S.2.2 0 b) - (S.2.2 0 a)) * (y - (S.2.2 1 a))) - ((x - (S.2.2 0 a)) * ((S.2.2 1 b) - (S.2.2 1 a))) := ⟨_, rfl⟩
        refine x_topi esz.symm ?_
        have hsz : sz.toInt = sdI (S.2.2 0 a) (S.2.2 1 a) (S.2.2 0 b) (S.2.2 1 b) x y := by rw [esz]; exact side32 (hR a ha).1 (hR a ha).2 (hR b hb).1 (hR b hb).2 hx hy
        obtain ⟨z1, z2, z3, z4⟩ := sg32 hsz
        refine x_istore 7 [(7, .int sz), (6, .int 0), (5, .int 1), (0, .ref (g.2.1 6)), (1, .int (nI a)), (2, .int (nI b)), (3, .int x), (4, .int y)] dX1_crossing_122 (by decide) rfl ?_
        refine x_iload dX1_crossing_124 2 rfl ?_
        refine x_if_eq 136 dX1_crossing_126 (by decide) (fun c73 => by exfalso; revert c73; decide) (fun c73 => ?_)
        refine x_iload dX1_crossing_129 0 rfl ?_
        refine x_if_le 136 dX1_crossing_131 (by decide) (fun c74 => ?_) (fun c74 => ?_)
        · refine x_iload dX1_crossing_136 1 rfl ?_
          refine x_if_eq 150 dX1_crossing_138 (by decide) (fun c75 => ?_) (fun c75 => by exfalso; revert c75; decide)
          refine x_iconst (v := 0) dX1_crossing_150 (by decide) ?_
          refine x_iret dX1_crossing_151 rfl ?_
          rw [hQ]
          refine ⟨rfl, ?_⟩
          congr 2
          obtain ⟨n1, n2, n3, n4, n5⟩ := crs_n (x0 := S.2.2 0 a) (y0 := S.2.2 1 a) (x1 := S.2.2 0 b) (y1 := S.2.2 1 b) (x := x) (y := y)
          symm
          unfold crh
          first
            | exact n1 (by grind) (by grind)
            | exact n2 (by grind) (by grind)
            | exact n3 (by grind) (by grind) (by grind)
            | exact n4 (by grind) (by grind) (by grind)
            | exact n5 (by grind) (by grind)
            | (exfalso; grind)
        · refine x_iconst (v := 1) dX1_crossing_134 (by decide) ?_
          refine x_iret dX1_crossing_135 rfl ?_
          rw [hQ]
          refine ⟨rfl, ?_⟩
          congr 2
          obtain ⟨n1, n2, n3, n4, n5⟩ := crs_n (x0 := S.2.2 0 a) (y0 := S.2.2 1 a) (x1 := S.2.2 0 b) (y1 := S.2.2 1 b) (x := x) (y := y)
          symm
          unfold crh
          first
            | exact n1 (by grind) (by grind)
            | exact n2 (by grind) (by grind)
            | exact n3 (by grind) (by grind) (by grind)
            | exact n4 (by grind) (by grind) (by grind)
            | exact n5 (by grind) (by grind)
            | (exfalso; grind)
      · refine x_aload_n dX1_crossing_58 1 rfl ?_
        refine x_getR fl_X1_15 rfl rfl dX1_crossing_59 ?_
        refine x_iload_n dX1_crossing_62 2 rfl ?_
        have b76 : vp_in (nI a) 1536 := by exact vp_in_nI (by omega) (by decide)
        refine x_iald rfl b76 dX1_crossing_63 ?_
        refine x_topi (y := V 21 a) (by rw [nI_clamp (by omega)]) ?_
        refine x_topi ((hF.2.2.1 a (by omega)).2.1) ?_
        refine x_iload dX1_crossing_64 5 rfl ?_
        refine x_icmp_le 73 dX1_crossing_66 (by decide) (fun c77 => ?_) (fun c77 => ?_)
        · refine x_iconst (v := 0) dX1_crossing_73 (by decide) ?_
          refine x_istore 6 [(6, .int 0), (5, .int 1), (0, .ref (g.2.1 6)), (1, .int (nI a)), (2, .int (nI b)), (3, .int x), (4, .int y)] dX1_crossing_74 (by decide) rfl ?_
          refine x_aload_n dX1_crossing_76 2 rfl ?_
          refine x_getR fl_X1_9 rfl rfl dX1_crossing_77 ?_
          refine x_iload_n dX1_crossing_80 4 rfl ?_
          have b78 : vp_in (nI b) 1536 := by exact vp_in_nI (by omega) (by decide)
          refine x_iald rfl b78 dX1_crossing_81 ?_
          refine x_topi (y := V 20 b) (by rw [nI_clamp (by omega)]) ?_
          refine x_topi ((hF.2.2.1 b (by omega)).1) ?_
          refine x_aload_n dX1_crossing_82 2 rfl ?_
          refine x_getR fl_X1_9 rfl rfl dX1_crossing_83 ?_
          refine x_iload_n dX1_crossing_86 3 rfl ?_
          have b79 : vp_in (nI a) 1536 := by exact vp_in_nI (by omega) (by decide)
          refine x_iald rfl b79 dX1_crossing_87 ?_
          refine x_topi (y := V 20 a) (by rw [nI_clamp (by omega)]) ?_
          refine x_topi ((hF.2.2.1 a (by omega)).1) ?_
          refine x_isub dX1_crossing_88 ?_
          refine x_iload dX1_crossing_89 6 rfl ?_
          refine x_aload_n dX1_crossing_91 2 rfl ?_
          refine x_getR fl_X1_15 rfl rfl dX1_crossing_92 ?_
          refine x_iload_n dX1_crossing_95 3 rfl ?_
          have b80 : vp_in (nI a) 1536 := by exact vp_in_nI (by omega) (by decide)
          refine x_iald rfl b80 dX1_crossing_96 ?_
          refine x_topi (y := V 21 a) (by rw [nI_clamp (by omega)]) ?_
          refine x_topi ((hF.2.2.1 a (by omega)).2.1) ?_
          refine x_isub dX1_crossing_97 ?_
          refine x_imul dX1_crossing_98 ?_
          refine x_iload_n dX1_crossing_99 5 rfl ?_
          refine x_aload_n dX1_crossing_100 2 rfl ?_
          refine x_getR fl_X1_9 rfl rfl dX1_crossing_101 ?_
          refine x_iload_n dX1_crossing_104 3 rfl ?_
          have b81 : vp_in (nI a) 1536 := by exact vp_in_nI (by omega) (by decide)
          refine x_iald rfl b81 dX1_crossing_105 ?_
          refine x_topi (y := V 20 a) (by rw [nI_clamp (by omega)]) ?_
          refine x_topi ((hF.2.2.1 a (by omega)).1) ?_
          refine x_isub dX1_crossing_106 ?_
          refine x_aload_n dX1_crossing_107 2 rfl ?_
          refine x_getR fl_X1_15 rfl rfl dX1_crossing_108 ?_
          refine x_iload_n dX1_crossing_111 4 rfl ?_
          have b82 : vp_in (nI b) 1536 := by exact vp_in_nI (by omega) (by decide)
          refine x_iald rfl b82 dX1_crossing_112 ?_
          refine x_topi (y := V 21 b) (by rw [nI_clamp (by omega)]) ?_
          refine x_topi ((hF.2.2.1 b (by omega)).2.1) ?_
          refine x_aload_n dX1_crossing_113 2 rfl ?_
          refine x_getR fl_X1_15 rfl rfl dX1_crossing_114 ?_
          refine x_iload_n dX1_crossing_117 3 rfl ?_
          have b83 : vp_in (nI a) 1536 := by exact vp_in_nI (by omega) (by decide)
          refine x_iald rfl b83 dX1_crossing_118 ?_
          refine x_topi (y := V 21 a) (by rw [nI_clamp (by omega)]) ?_
          refine x_topi ((hF.2.2.1 a (by omega)).2.1) ?_
          refine x_isub dX1_crossing_119 ?_
          refine x_imul dX1_crossing_120 ?_
          refine x_isub dX1_crossing_121 ?_
          obtain ⟨sz, esz⟩ : ∃ v_v : Int32, v_v = (((S.2.2 0 b) - (S.2.2 0 a)) * (y - (S.2.2 1 a))) - ((x - (S.2.2 0 a)) * ((S.2.2 1 b) - (S.2.2 1 a))) := ⟨_, rfl⟩
          refine x_topi esz.symm ?_
          have hsz : sz.toInt = sdI (S.2.2 0 a) (S.2.2 1 a) (S.2.2 0 b) (S.2.2 1 b) x y := by rw [esz]; exact side32 (hR a ha).1 (hR a ha).2 (hR b hb).1 (hR b hb).2 hx hy
          obtain ⟨z1, z2, z3, z4⟩ := sg32 hsz
          refine x_istore 7 [(7, .int sz), (6, .int 0), (5, .int 1), (0, .ref (g.2.1 6)), (1, .int (nI a)), (2, .int (nI b)), (3, .int x), (4, .int y)] dX1_crossing_122 (by decide) rfl ?_
          refine x_iload dX1_crossing_124 2 rfl ?_
          refine x_if_eq 136 dX1_crossing_126 (by decide) (fun c84 => by exfalso; revert c84; decide) (fun c84 => ?_)
          refine x_iload dX1_crossing_129 0 rfl ?_
          refine x_if_le 136 dX1_crossing_131 (by decide) (fun c85 => ?_) (fun c85 => ?_)
          · refine x_iload dX1_crossing_136 1 rfl ?_
            refine x_if_eq 150 dX1_crossing_138 (by decide) (fun c86 => ?_) (fun c86 => by exfalso; revert c86; decide)
            refine x_iconst (v := 0) dX1_crossing_150 (by decide) ?_
            refine x_iret dX1_crossing_151 rfl ?_
            rw [hQ]
            refine ⟨rfl, ?_⟩
            congr 2
            obtain ⟨n1, n2, n3, n4, n5⟩ := crs_n (x0 := S.2.2 0 a) (y0 := S.2.2 1 a) (x1 := S.2.2 0 b) (y1 := S.2.2 1 b) (x := x) (y := y)
            symm
            unfold crh
            first
              | exact n1 (by grind) (by grind)
              | exact n2 (by grind) (by grind)
              | exact n3 (by grind) (by grind) (by grind)
              | exact n4 (by grind) (by grind) (by grind)
              | exact n5 (by grind) (by grind)
              | (exfalso; grind)
          · refine x_iconst (v := 1) dX1_crossing_134 (by decide) ?_
            refine x_iret dX1_crossing_135 rfl ?_
            rw [hQ]
            refine ⟨rfl, ?_⟩
            congr 2
            obtain ⟨n1, n2, n3, n4, n5⟩ := crs_n (x0 := S.2.2 0 a) (y0 := S.2.2 1 a) (x1 := S.2.2 0 b) (y1 := S.2.2 1 b) (x := x) (y := y)
            symm
            unfold crh
            first
              | exact n1 (by grind) (by grind)
              | exact n2 (by grind) (by grind)
              | exact n3 (by grind) (by grind) (by grind)
              | exact n4 (by grind) (by grind) (by grind)
              | exact n5 (by grind) (by grind)
              | (exfalso; grind)
        · refine x_iconst (v := 1) dX1_crossing_69 (by decide) ?_
          refine x_goto 74 dX1_crossing_70 (by decide) ?_
          refine x_istore 6 [(6, .int 1), (5, .int 1), (0, .ref (g.2.1 6)), (1, .int (nI a)), (2, .int (nI b)), (3, .int x), (4, .int y)] dX1_crossing_74 (by decide) rfl ?_
          refine x_aload_n dX1_crossing_76 2 rfl ?_
          refine x_getR fl_X1_9 rfl rfl dX1_crossing_77 ?_
          refine x_iload_n dX1_crossing_80 4 rfl ?_
          have b87 : vp_in (nI b) 1536 := by exact vp_in_nI (by omega) (by decide)
          refine x_iald rfl b87 dX1_crossing_81 ?_
          refine x_topi (y := V 20 b) (by rw [nI_clamp (by omega)]) ?_
          refine x_topi ((hF.2.2.1 b (by omega)).1) ?_
          refine x_aload_n dX1_crossing_82 2 rfl ?_
          refine x_getR fl_X1_9 rfl rfl dX1_crossing_83 ?_
          refine x_iload_n dX1_crossing_86 3 rfl ?_
          have b88 : vp_in (nI a) 1536 := by exact vp_in_nI (by omega) (by decide)
          refine x_iald rfl b88 dX1_crossing_87 ?_
          refine x_topi (y := V 20 a) (by rw [nI_clamp (by omega)]) ?_
          refine x_topi ((hF.2.2.1 a (by omega)).1) ?_
          refine x_isub dX1_crossing_88 ?_
          refine x_iload dX1_crossing_89 6 rfl ?_
          refine x_aload_n dX1_crossing_91 2 rfl ?_
          refine x_getR fl_X1_15 rfl rfl dX1_crossing_92 ?_
          refine x_iload_n dX1_crossing_95 3 rfl ?_
          have b89 : vp_in (nI a) 1536 := by exact vp_in_nI (by omega) (by decide)
          refine x_iald rfl b89 dX1_crossing_96 ?_
          refine x_topi (y := V 21 a) (by rw [nI_clamp (by omega)]) ?_
          refine x_topi ((hF.2.2.1 a (by omega)).2.1) ?_
          refine x_isub dX1_crossing_97 ?_
          refine x_imul dX1_crossing_98 ?_
          refine x_iload_n dX1_crossing_99 5 rfl ?_
          refine x_aload_n dX1_crossing_100 2 rfl ?_
          refine x_getR fl_X1_9 rfl rfl dX1_crossing_101 ?_
          refine x_iload_n dX1_crossing_104 3 rfl ?_
          have b90 : vp_in (nI a) 1536 := by exact vp_in_nI (by omega) (by decide)
          refine x_iald rfl b90 dX1_crossing_105 ?_
          refine x_topi (y := V 20 a) (by rw [nI_clamp (by omega)]) ?_
          refine x_topi ((hF.2.2.1 a (by omega)).1) ?_
          refine x_isub dX1_crossing_106 ?_
          refine x_aload_n dX1_crossing_107 2 rfl ?_
          refine x_getR fl_X1_15 rfl rfl dX1_crossing_108 ?_
          refine x_iload_n dX1_crossing_111 4 rfl ?_
          have b91 : vp_in (nI b) 1536 := by exact vp_in_nI (by omega) (by decide)
          refine x_iald rfl b91 dX1_crossing_112 ?_
          refine x_topi (y := V 21 b) (by rw [nI_clamp (by omega)]) ?_
          refine x_topi ((hF.2.2.1 b (by omega)).2.1) ?_
          refine x_aload_n dX1_crossing_113 2 rfl ?_
          refine x_getR fl_X1_15 rfl rfl dX1_crossing_114 ?_
          refine x_iload_n dX1_crossing_117 3 rfl ?_
          have b92 : vp_in (nI a) 1536 := by exact vp_in_nI (by omega) (by decide)
          refine x_iald rfl b92 dX1_crossing_118 ?_
          refine x_topi (y := V 21 a) (by rw [nI_clamp (by omega)]) ?_
          refine x_topi ((hF.2.2.1 a (by omega)).2.1) ?_
          refine x_isub dX1_crossing_119 ?_
          refine x_imul dX1_crossing_120 ?_
          refine x_isub dX1_crossing_121 ?_
          obtain ⟨sz, esz⟩ : ∃ v_v : Int32, v_v = (((S.2.2 0 b) - (S.2.2 0 a)) * (y - (S.2.2 1 a))) - ((x - (S.2.2 0 a)) * ((S.2.2 1 b) - (S.2.2 1 a))) := ⟨_, rfl⟩
          refine x_topi esz.symm ?_
          have hsz : sz.toInt = sdI (S.2.2 0 a) (S.2.2 1 a) (S.2.2 0 b) (S.2.2 1 b) x y := by rw [esz]; exact side32 (hR a ha).1 (hR a ha).2 (hR b hb).1 (hR b hb).2 hx hy
          obtain ⟨z1, z2, z3, z4⟩ := sg32 hsz
          refine x_istore 7 [(7, .int sz), (6, .int 1), (5, .int 1), (0, .ref (g.2.1 6)), (1, .int (nI a)), (2, .int (nI b)), (3, .int x), (4, .int y)] dX1_crossing_122 (by decide) rfl ?_
          refine x_iload dX1_crossing_124 2 rfl ?_
          refine x_if_eq 136 dX1_crossing_126 (by decide) (fun c93 => by exfalso; revert c93; decide) (fun c93 => ?_)
          refine x_iload dX1_crossing_129 0 rfl ?_
          refine x_if_le 136 dX1_crossing_131 (by decide) (fun c94 => ?_) (fun c94 => ?_)
          · refine x_iload dX1_crossing_136 1 rfl ?_
            refine x_if_eq 150 dX1_crossing_138 (by decide) (fun c95 => by exfalso; revert c95; decide) (fun c95 => ?_)
            refine x_iload dX1_crossing_141 0 rfl ?_
            refine x_if_ge 150 dX1_crossing_143 (by decide) (fun c96 => ?_) (fun c96 => ?_)
            · refine x_iconst (v := 0) dX1_crossing_150 (by decide) ?_
              refine x_iret dX1_crossing_151 rfl ?_
              rw [hQ]
              refine ⟨rfl, ?_⟩
              congr 2
              obtain ⟨n1, n2, n3, n4, n5⟩ := crs_n (x0 := S.2.2 0 a) (y0 := S.2.2 1 a) (x1 := S.2.2 0 b) (y1 := S.2.2 1 b) (x := x) (y := y)
              symm
              unfold crh
              first
                | exact n1 (by grind) (by grind)
                | exact n2 (by grind) (by grind)
                | exact n3 (by grind) (by grind) (by grind)
                | exact n4 (by grind) (by grind) (by grind)
                | exact n5 (by grind) (by grind)
                | (exfalso; grind)
            · refine x_iconst (v := -1) dX1_crossing_146 (by decide) ?_
              refine x_goto 151 dX1_crossing_147 (by decide) ?_
              refine x_iret dX1_crossing_151 rfl ?_
              rw [hQ]
              refine ⟨rfl, ?_⟩
              congr 2
              obtain ⟨n1, n2, n3, n4, n5⟩ := crs_n (x0 := S.2.2 0 a) (y0 := S.2.2 1 a) (x1 := S.2.2 0 b) (y1 := S.2.2 1 b) (x := x) (y := y)
              symm
              unfold crh
              first
                | exact n1 (by grind) (by grind)
                | exact n2 (by grind) (by grind)
                | exact n3 (by grind) (by grind) (by grind)
                | exact n4 (by grind) (by grind) (by grind)
                | exact n5 (by grind) (by grind)
                | (exfalso; grind)
          · refine x_iconst (v := 1) dX1_crossing_134 (by decide) ?_
            refine x_iret dX1_crossing_135 rfl ?_
            rw [hQ]
            refine ⟨rfl, ?_⟩
            congr 2
            obtain ⟨n1, n2, n3, n4, n5⟩ := crs_n (x0 := S.2.2 0 a) (y0 := S.2.2 1 a) (x1 := S.2.2 0 b) (y1 := S.2.2 1 b) (x := x) (y := y)
            symm
            unfold crh
            first
              | exact n1 (by grind) (by grind)
              | exact n2 (by grind) (by grind)
              | exact n3 (by grind) (by grind) (by grind)
              | exact n4 (by grind) (by grind) (by grind)
              | exact n5 (by grind) (by grind)
              | (exfalso; grind)
set_option maxHeartbeats 8000000 in
set_option maxRecDepth 100000 in
theorem mX10_turnsRound {g : gX} (V : vM) {x0 y0 x1 y1 x y : Int32} (h0 : inR x0 ∧ inR y0) (h1 : inR x1 ∧ inR y1) (hx : inR x) (hy : inR y) : MM g jX10_turnsRound V [.long x0.toInt64, .long y0.toInt64, .long x1.toInt64, .long y1.toInt64, .long x.toInt64, .long y.toInt64] (pI V (crs x0 y0 x1 y1 x y)) := by
  refine MM.of plX10_turnsRound (Nat.le_of_ble_eq_true rfl) ?_
  obtain ⟨Q, hQ⟩ : ∃ Q : Option Value → vM → Prop, Q = (pI V (crs x0 y0 x1 y1 x y)) := ⟨_, rfl⟩
  rw [← hQ]
  show XX g jX10_turnsRound Q V 0 [(0, .long x0.toInt64), (2, .long y0.toInt64), (4, .long x1.toInt64), (6, .long y1.toInt64), (8, .long x.toInt64), (10, .long y.toInt64)] []
  refine x_lload dX10_turnsRound_0 2 rfl ?_
  refine x_lload_n dX10_turnsRound_2 0 rfl ?_
  refine x_lsub dX10_turnsRound_3 ?_
  refine x_lload dX10_turnsRound_4 5 rfl ?_
  refine x_lload_n dX10_turnsRound_6 1 rfl ?_
  refine x_lsub dX10_turnsRound_7 ?_
  refine x_lmul dX10_turnsRound_8 ?_
  refine x_lload dX10_turnsRound_9 4 rfl ?_
  refine x_lload_n dX10_turnsRound_11 0 rfl ?_
  refine x_lsub dX10_turnsRound_12 ?_
  refine x_lload dX10_turnsRound_13 3 rfl ?_
  refine x_lload_n dX10_turnsRound_15 1 rfl ?_
  refine x_lsub dX10_turnsRound_16 ?_
  refine x_lmul dX10_turnsRound_17 ?_
  refine x_lsub dX10_turnsRound_18 ?_
  obtain ⟨sz, esz⟩ : ∃ v_v : Int64, v_v = ((x1.toInt64 - x0.toInt64) * (y.toInt64 - y0.toInt64)) - ((x.toInt64 - x0.toInt64) * (y1.toInt64 - y0.toInt64)) := ⟨_, rfl⟩
  refine x_topl esz.symm ?_
  have hsz : sz.toInt = sdI x0 y0 x1 y1 x y := by rw [esz]; exact side64 h0.1 h0.2 h1.1 h1.2 hx hy
  obtain ⟨z1, z2, z3, z4⟩ := sg64 hsz
  refine x_lstore 12 [(12, .long sz), (0, .long x0.toInt64), (2, .long y0.toInt64), (4, .long x1.toInt64), (6, .long y1.toInt64), (8, .long x.toInt64), (10, .long y.toInt64)] dX10_turnsRound_19 (by decide) rfl ?_
  refine x_lload_n dX10_turnsRound_21 2 rfl ?_
  refine x_lload dX10_turnsRound_22 6 rfl ?_
  refine x_lcmp dX10_turnsRound_24 ?_
  refine x_if_gt 49 dX10_turnsRound_25 (by decide) (fun c1 => ?_) (fun c1 => ?_)
  · have c1n : y.toInt64 < y0.toInt64 := lgc_gt.mp c1
    refine x_lload dX10_turnsRound_49 4 rfl ?_
    refine x_lload dX10_turnsRound_51 6 rfl ?_
    refine x_lcmp dX10_turnsRound_53 ?_
    refine x_if_gt 77 dX10_turnsRound_54 (by decide) (fun c2 => ?_) (fun c2 => ?_)
    · have c2n : y.toInt64 < y1.toInt64 := lgc_gt.mp c2
      refine x_iconst (v := 0) dX10_turnsRound_77 (by decide) ?_
      refine x_iret dX10_turnsRound_78 rfl ?_
      rw [hQ]
      refine ⟨rfl, ?_⟩
      congr 2
      obtain ⟨n1, n2, n3, n4, n5⟩ := crs_n (x0 := x0) (y0 := y0) (x1 := x1) (y1 := y1) (x := x) (y := y)
      symm
      simp only [i64lt, i64le] at *
      first
        | exact n1 (by grind) (by grind)
        | exact n2 (by grind) (by grind)
        | exact n3 (by grind) (by grind) (by grind)
        | exact n4 (by grind) (by grind) (by grind)
        | exact n5 (by grind) (by grind)
        | (exfalso; grind)
    · have c2n : ¬ (y.toInt64 < y1.toInt64) := fun q => c2 (lgc_gt.mpr q)
      refine x_lload_n dX10_turnsRound_57 2 rfl ?_
      refine x_lload dX10_turnsRound_58 6 rfl ?_
      refine x_lcmp dX10_turnsRound_60 ?_
      refine x_if_le 77 dX10_turnsRound_61 (by decide) (fun c3 => ?_) (fun c3 => ?_)
      · have c3n : y0.toInt64 ≤ y.toInt64 := lgc_le.mp c3
        refine x_iconst (v := 0) dX10_turnsRound_77 (by decide) ?_
        refine x_iret dX10_turnsRound_78 rfl ?_
        rw [hQ]
        refine ⟨rfl, ?_⟩
        congr 2
        obtain ⟨n1, n2, n3, n4, n5⟩ := crs_n (x0 := x0) (y0 := y0) (x1 := x1) (y1 := y1) (x := x) (y := y)
        symm
        simp only [i64lt, i64le] at *
        first
          | exact n1 (by grind) (by grind)
          | exact n2 (by grind) (by grind)
          | exact n3 (by grind) (by grind) (by grind)
          | exact n4 (by grind) (by grind) (by grind)
          | exact n5 (by grind) (by grind)
          | (exfalso; grind)
      · have c3n : ¬ (y0.toInt64 ≤ y.toInt64) := fun q => c3 (lgc_le.mpr q)
        refine x_lload dX10_turnsRound_64 0 rfl ?_
        refine x_lconst (v := 0) dX10_turnsRound_66 (by decide) ?_
        refine x_lcmp dX10_turnsRound_67 ?_
        refine x_if_ge 75 dX10_turnsRound_68 (by decide) (fun c4 => ?_) (fun c4 => ?_)
        · have c4n : 0 ≤ sz := lgc_ge.mp c4
          refine x_iconst (v := 0) dX10_turnsRound_75 (by decide) ?_
          refine x_iret dX10_turnsRound_76 rfl ?_
          rw [hQ]
          refine ⟨rfl, ?_⟩
          congr 2
          obtain ⟨n1, n2, n3, n4, n5⟩ := crs_n (x0 := x0) (y0 := y0) (x1 := x1) (y1 := y1) (x := x) (y := y)
          symm
          simp only [i64lt, i64le] at *
          first
            | exact n1 (by grind) (by grind)
            | exact n2 (by grind) (by grind)
            | exact n3 (by grind) (by grind) (by grind)
            | exact n4 (by grind) (by grind) (by grind)
            | exact n5 (by grind) (by grind)
            | (exfalso; grind)
        · have c4n : ¬ (0 ≤ sz) := fun q => c4 (lgc_ge.mpr q)
          refine x_iconst (v := -1) dX10_turnsRound_71 (by decide) ?_
          refine x_goto 76 dX10_turnsRound_72 (by decide) ?_
          refine x_iret dX10_turnsRound_76 rfl ?_
          rw [hQ]
          refine ⟨rfl, ?_⟩
          congr 2
          obtain ⟨n1, n2, n3, n4, n5⟩ := crs_n (x0 := x0) (y0 := y0) (x1 := x1) (y1 := y1) (x := x) (y := y)
          symm
          simp only [i64lt, i64le] at *
          first
            | exact n1 (by grind) (by grind)
            | exact n2 (by grind) (by grind)
            | exact n3 (by grind) (by grind) (by grind)
            | exact n4 (by grind) (by grind) (by grind)
            | exact n5 (by grind) (by grind)
            | (exfalso; grind)
  · have c1n : ¬ (y.toInt64 < y0.toInt64) := fun q => c1 (lgc_gt.mpr q)
    refine x_lload dX10_turnsRound_28 4 rfl ?_
    refine x_lload dX10_turnsRound_30 6 rfl ?_
    refine x_lcmp dX10_turnsRound_32 ?_
    refine x_if_le 49 dX10_turnsRound_33 (by decide) (fun c5 => ?_) (fun c5 => ?_)
    · have c5n : y1.toInt64 ≤ y.toInt64 := lgc_le.mp c5
      refine x_lload dX10_turnsRound_49 4 rfl ?_
      refine x_lload dX10_turnsRound_51 6 rfl ?_
      refine x_lcmp dX10_turnsRound_53 ?_
      refine x_if_gt 77 dX10_turnsRound_54 (by decide) (fun c6 => ?_) (fun c6 => ?_)
      · have c6n : y.toInt64 < y1.toInt64 := lgc_gt.mp c6
        refine x_iconst (v := 0) dX10_turnsRound_77 (by decide) ?_
        refine x_iret dX10_turnsRound_78 rfl ?_
        rw [hQ]
        refine ⟨rfl, ?_⟩
        congr 2
        obtain ⟨n1, n2, n3, n4, n5⟩ := crs_n (x0 := x0) (y0 := y0) (x1 := x1) (y1 := y1) (x := x) (y := y)
        symm
        simp only [i64lt, i64le] at *
        first
          | exact n1 (by grind) (by grind)
          | exact n2 (by grind) (by grind)
          | exact n3 (by grind) (by grind) (by grind)
          | exact n4 (by grind) (by grind) (by grind)
          | exact n5 (by grind) (by grind)
          | (exfalso; grind)
      · have c6n : ¬ (y.toInt64 < y1.toInt64) := fun q => c6 (lgc_gt.mpr q)
        refine x_lload_n dX10_turnsRound_57 2 rfl ?_
        refine x_lload dX10_turnsRound_58 6 rfl ?_
        refine x_lcmp dX10_turnsRound_60 ?_
        refine x_if_le 77 dX10_turnsRound_61 (by decide) (fun c7 => ?_) (fun c7 => ?_)
        · have c7n : y0.toInt64 ≤ y.toInt64 := lgc_le.mp c7
          refine x_iconst (v := 0) dX10_turnsRound_77 (by decide) ?_
          refine x_iret dX10_turnsRound_78 rfl ?_
          rw [hQ]
          refine ⟨rfl, ?_⟩
          congr 2
          obtain ⟨n1, n2, n3, n4, n5⟩ := crs_n (x0 := x0) (y0 := y0) (x1 := x1) (y1 := y1) (x := x) (y := y)
          symm
          simp only [i64lt, i64le] at *
          first
            | exact n1 (by grind) (by grind)
            | exact n2 (by grind) (by grind)
            | exact n3 (by grind) (by grind) (by grind)
            | exact n4 (by grind) (by grind) (by grind)
            | exact n5 (by grind) (by grind)
            | (exfalso; grind)
        · have c7n : ¬ (y0.toInt64 ≤ y.toInt64) := fun q => c7 (lgc_le.mpr q)
          refine x_lload dX10_turnsRound_64 0 rfl ?_
          refine x_lconst (v := 0) dX10_turnsRound_66 (by decide) ?_
          refine x_lcmp dX10_turnsRound_67 ?_
          refine x_if_ge 75 dX10_turnsRound_68 (by decide) (fun c8 => ?_) (fun c8 => ?_)
          · have c8n : 0 ≤ sz := lgc_ge.mp c8
            refine x_iconst (v := 0) dX10_turnsRound_75 (by decide) ?_
            refine x_iret dX10_turnsRound_76 rfl ?_
            rw [hQ]
            refine ⟨rfl, ?_⟩
            congr 2
            obtain ⟨n1, n2, n3, n4, n5⟩ := crs_n (x0 := x0) (y0 := y0) (x1 := x1) (y1 := y1) (x := x) (y := y)
            symm
            simp only [i64lt, i64le] at *
            first
              | exact n1 (by grind) (by grind)
              | exact n2 (by grind) (by grind)
              | exact n3 (by grind) (by grind) (by grind)
              | exact n4 (by grind) (by grind) (by grind)
              | exact n5 (by grind) (by grind)
              | (exfalso; grind)
          · have c8n : ¬ (0 ≤ sz) := fun q => c8 (lgc_ge.mpr q)
            refine x_iconst (v := -1) dX10_turnsRound_71 (by decide) ?_
            refine x_goto 76 dX10_turnsRound_72 (by decide) ?_
            refine x_iret dX10_turnsRound_76 rfl ?_
            rw [hQ]
            refine ⟨rfl, ?_⟩
            congr 2
            obtain ⟨n1, n2, n3, n4, n5⟩ := crs_n (x0 := x0) (y0 := y0) (x1 := x1) (y1 := y1) (x := x) (y := y)
            symm
            simp only [i64lt, i64le] at *
            first
              | exact n1 (by grind) (by grind)
              | exact n2 (by grind) (by grind)
              | exact n3 (by grind) (by grind) (by grind)
              | exact n4 (by grind) (by grind) (by grind)
              | exact n5 (by grind) (by grind)
              | (exfalso; grind)
    · have c5n : ¬ (y1.toInt64 ≤ y.toInt64) := fun q => c5 (lgc_le.mpr q)
      refine x_lload dX10_turnsRound_36 0 rfl ?_
      refine x_lconst (v := 0) dX10_turnsRound_38 (by decide) ?_
      refine x_lcmp dX10_turnsRound_39 ?_
      refine x_if_le 47 dX10_turnsRound_40 (by decide) (fun c9 => ?_) (fun c9 => ?_)
      · have c9n : sz ≤ 0 := lgc_le.mp c9
        refine x_iconst (v := 0) dX10_turnsRound_47 (by decide) ?_
        refine x_iret dX10_turnsRound_48 rfl ?_
        rw [hQ]
        refine ⟨rfl, ?_⟩
        congr 2
        obtain ⟨n1, n2, n3, n4, n5⟩ := crs_n (x0 := x0) (y0 := y0) (x1 := x1) (y1 := y1) (x := x) (y := y)
        symm
        simp only [i64lt, i64le] at *
        first
          | exact n1 (by grind) (by grind)
          | exact n2 (by grind) (by grind)
          | exact n3 (by grind) (by grind) (by grind)
          | exact n4 (by grind) (by grind) (by grind)
          | exact n5 (by grind) (by grind)
          | (exfalso; grind)
      · have c9n : ¬ (sz ≤ 0) := fun q => c9 (lgc_le.mpr q)
        refine x_iconst (v := 1) dX10_turnsRound_43 (by decide) ?_
        refine x_goto 48 dX10_turnsRound_44 (by decide) ?_
        refine x_iret dX10_turnsRound_48 rfl ?_
        rw [hQ]
        refine ⟨rfl, ?_⟩
        congr 2
        obtain ⟨n1, n2, n3, n4, n5⟩ := crs_n (x0 := x0) (y0 := y0) (x1 := x1) (y1 := y1) (x := x) (y := y)
        symm
        simp only [i64lt, i64le] at *
        first
          | exact n1 (by grind) (by grind)
          | exact n2 (by grind) (by grind)
          | exact n3 (by grind) (by grind) (by grind)
          | exact n4 (by grind) (by grind) (by grind)
          | exact n5 (by grind) (by grind)
          | (exfalso; grind)
