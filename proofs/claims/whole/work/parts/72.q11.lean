theorem wh_nz {S : FS} {i : Nat} (h : sgm S i) : ¬ wh64 S i = 0 := fun z => by
  have := (wh_i h).2.1
  rw [z] at this
  exact absurd this (by decide)
theorem GI.sgm {S : FS} {fb : Nat → Nat} (hG : GI S fb) (hR : ∀ i, i < S.1 → inR (S.2.2 0 i) ∧ inR (S.2.2 1 i)) {c i : Nat} (hc : c < S.2.1) (h1 : fb c < i) (h2 : i < fb (c + 1)) : sgm S i := by
  have hb := hG.bd (j := c + 1) (by omega)
  exact ⟨hR i (by omega), hR (i - 1) (by omega), ((hG.2.2.2 c hc).2.2 i h1 h2).1⟩
def stp (S : FS) (x y : Int32) (c : Nat) (b : Nat × Nat × Int32) (i : Nat) : Nat × Nat × Int32 := if nsqr S i x y < b.2.2 then (i, c, nsqr S i x y) else b
def nsI (S : FS) (x y : Int32) (z : Nat × Nat × Int32) (c p : Nat) : Nat → Nat × Nat × Int32
  | 0 => z
  | j + 1 => stp S x y c (nsI S x y z c p j) (p + 1 + j)
def nsO (S : FS) (fb : Nat → Nat) (x y : Int32) : Nat → Nat × Nat × Int32
  | 0 => (0, 0, 2147483647)
  | k + 1 => nsI S x y (nsO S fb x y k) k (fb k) (fb (k + 1) - fb k - 1)
theorem ns_t {S : FS} {x y : Int32} {z : Nat × Nat × Int32} {c p j : Nat} (h : nsqr S (p + 1 + j) x y < (nsI S x y z c p j).2.2) : nsI S x y z c p (j + 1) = (p + 1 + j, c, nsqr S (p + 1 + j) x y) := by
  rw [nsI, stp, if_pos h]
theorem ns_f {S : FS} {x y : Int32} {z : Nat × Nat × Int32} {c p j : Nat} (h : ¬ nsqr S (p + 1 + j) x y < (nsI S x y z c p j).2.2) : nsI S x y z c p (j + 1) = nsI S x y z c p j := by
  rw [nsI, stp, if_neg h]
/-- a best segment that is one -/
def nsV (S : FS) (x y : Int32) (b : Nat × Nat × Int32) : Prop := 1 ≤ b.1 ∧ b.1 < S.1 ∧ sgm S b.1 ∧ b.2.1 < 24 ∧ b.2.2 = nsqr S b.1 x y
theorem nsI_V {S : FS} {fb : Nat → Nat} {x y : Int32} (hG : GI S fb) (h24 : S.2.1 ≤ 24) (hR : ∀ i, i < S.1 → inR (S.2.2 0 i) ∧ inR (S.2.2 1 i)) (hx : inR x) (hy : inR y) {c : Nat} (hc : c < S.2.1) {z : Nat × Nat × Int32} (hz : z = (0, 0, 2147483647) ∨ nsV S x y z) : ∀ j, fb c + 1 + j ≤ fb (c + 1) → (nsI S x y z c (fb c) j = (0, 0, 2147483647) ∨ nsV S x y (nsI S x y z c (fb c) j)) ∧ (0 < j ∨ nsV S x y z → nsV S x y (nsI S x y z c (fb c) j))
  | 0, _ => ⟨hz, fun q => by rcases q with q | q; (omega); exact q⟩
  | j + 1, hj => by
    obtain ⟨h1, -⟩ := nsI_V hG h24 hR hx hy hc hz j (by omega)
    have hs := hG.sgm hR hc (i := fb c + 1 + j) (by omega) (by omega)
    have hb := hG.bd (j := c + 1) (by omega)
    obtain ⟨-, n0, n1⟩ := nsq_i hs hx hy
    have key : nsV S x y (nsI S x y z c (fb c) (j + 1)) := by
      by_cases q : nsqr S (fb c + 1 + j) x y < (nsI S x y z c (fb c) j).2.2
      · rw [ns_t q]
        exact ⟨by show 1 ≤ fb c + 1 + j; omega, by show fb c + 1 + j < S.1; omega, hs, by show c < 24; omega, rfl⟩
      · rw [ns_f q]
        rcases h1 with e | e
        · rw [e] at q
          refine absurd ?_ q
          rw [Int32.lt_iff_toInt_lt, show ((0, 0, 2147483647) : Nat × Nat × Int32).2.2.toInt = 2147483647 from rfl]
          omega
        · exact e
    exact ⟨Or.inr key, fun _ => key⟩
theorem nsO_V {S : FS} {fb : Nat → Nat} {x y : Int32} (hG : GI S fb) (h24 : S.2.1 ≤ 24) (hR : ∀ i, i < S.1 → inR (S.2.2 0 i) ∧ inR (S.2.2 1 i)) (hx : inR x) (hy : inR y) : ∀ k, k ≤ S.2.1 → (nsO S fb x y k = (0, 0, 2147483647) ∨ nsV S x y (nsO S fb x y k)) ∧ (k < fb k → nsV S x y (nsO S fb x y k))
  | 0, _ => ⟨Or.inl rfl, fun q => by rw [hG.1] at q; omega⟩
  | k + 1, hk => by
    obtain ⟨h1, h2⟩ := nsO_V hG h24 hR hx hy k (by omega)
    have hl := (hG.2.2.2 k (by omega)).1
    have hge := hG.ge k 0 (by omega)
    rw [hG.1, Nat.zero_add] at hge
    obtain ⟨r1, r2⟩ := nsI_V hG h24 hR hx hy (c := k) (by omega) h1 (fb (k + 1) - fb k - 1) (by omega)
    refine ⟨r1, fun q => r2 ?_⟩
    by_cases z : 0 < fb (k + 1) - fb k - 1
    · exact Or.inl z
    · exact Or.inr (h2 (by omega))
def nrR (S : FS) (fb : Nat → Nat) (x y what : Int32) : Int32 := if what = 0 then npt S 0 (nsO S fb x y S.2.1).1 x y else if what = 1 then npt S 1 (nsO S fb x y S.2.1).1 x y else if what = 2 then nI (nsO S fb x y S.2.1).1 - 1 - nI (nsO S fb x y S.2.1).2.1 else (nsO S fb x y S.2.1).2.2
def nrZ (S : FS) (fb : Nat → Nat) (x y what : Int32) : Int32 := if (-4000 ≤ x ∧ x ≤ 4000) ∧ (-4000 ≤ y ∧ y ≤ 4000) ∧ (0 ≤ what ∧ what ≤ 3) then (if S.1 - S.2.1 = 0 then -1000005 else nrR S fb x y what) else -1000002
theorem nrZ_no {S : FS} {fb : Nat → Nat} {x y what : Int32} (h : ¬ ((-4000 ≤ x ∧ x ≤ 4000) ∧ (-4000 ≤ y ∧ y ≤ 4000) ∧ (0 ≤ what ∧ what ≤ 3))) : nrZ S fb x y what = -1000002 := if_neg h
theorem nrZ_0 {S : FS} {fb : Nat → Nat} {x y what : Int32} (h : (-4000 ≤ x ∧ x ≤ 4000) ∧ (-4000 ≤ y ∧ y ≤ 4000) ∧ (0 ≤ what ∧ what ≤ 3)) (h0 : S.1 - S.2.1 = 0) : nrZ S fb x y what = -1000005 := by
  unfold nrZ; rw [if_pos h, if_pos h0]
theorem nrZ_1 {S : FS} {fb : Nat → Nat} {x y what : Int32} (h : (-4000 ≤ x ∧ x ≤ 4000) ∧ (-4000 ≤ y ∧ y ≤ 4000) ∧ (0 ≤ what ∧ what ≤ 3)) (h0 : ¬ S.1 - S.2.1 = 0) : nrZ S fb x y what = nrR S fb x y what := by
  unfold nrZ; rw [if_pos h, if_neg h0]
set_option maxHeartbeats 8000000 in
set_option maxRecDepth 100000 in
theorem mX1_nearestOn {g : gX} {V : vM} {S : FS} {fb : Nat → Nat} (hF : FRC V S) (hG : GI S fb) (h24 : S.2.1 ≤ 24) (h15 : S.1 ≤ 1536) (a p : Nat) (sh : shp[a]? = some (.inl (0, 1536))) (hxa : ∀ i, i < S.1 → V a i = S.2.2 p i) (i : Nat) (h1 : 1 ≤ i) (hi : i < S.1) (hs : sgm S i) (x y : Int32) : MM g jX1_nearestOn V [.ref (g.2.1 6), .ref (g.2.1 a), .int (nI i), .int x, .int y] (pI V (npt S p i x y)) := by
  refine MM.of plX1_nearestOn (Nat.le_of_ble_eq_true rfl) ?_
  obtain ⟨Q, hQ⟩ : ∃ Q : Option Value → vM → Prop, Q = (pI V (npt S p i x y)) := ⟨_, rfl⟩
  rw [← hQ]
  show XX g jX1_nearestOn Q V 0 [(0, .ref (g.2.1 6)), (1, .ref (g.2.1 a)), (2, .int (nI i)), (3, .int x), (4, .int y)] []
  refine x_aload_n dX1_nearestOn_0 0 rfl ?_
  refine x_aload_n dX1_nearestOn_1 0 rfl ?_
  refine x_getR fl_X1_9 rfl rfl dX1_nearestOn_2 ?_
  refine x_iload_n dX1_nearestOn_5 2 rfl ?_
  refine x_callV (K := jX1_difference) [.ref (g.2.1 20), .int (nI i)] lk_X1_132 ⟨⟨rfl, rfl⟩, Nat.le_of_ble_eq_true rfl, Nat.le_of_ble_eq_true rfl⟩ rfl rfl (by have := mX1_difference (g := g) hF hG h24 h15 20 i rfl (by omega) (by omega); rw [(hF.2.2.1 i (by omega)).1, (hF.2.2.1 (i - 1) (by omega)).1] at this; exact this) rfl (Nat.le_of_ble_eq_true rfl) rfl dX1_nearestOn_6 (kpI ?_)
  refine x_i2l dX1_nearestOn_9 ?_
  refine x_lstore 5 [(5, .long ((S.2.2 0 i - S.2.2 0 (i - 1)).toInt64)), (0, .ref (g.2.1 6)), (1, .ref (g.2.1 a)), (2, .int (nI i)), (3, .int x), (4, .int y)] dX1_nearestOn_10 (by decide) rfl ?_
  refine x_aload_n dX1_nearestOn_12 1 rfl ?_
  refine x_aload_n dX1_nearestOn_13 1 rfl ?_
  refine x_getR fl_X1_15 rfl rfl dX1_nearestOn_14 ?_
  refine x_iload_n dX1_nearestOn_17 3 rfl ?_
  refine x_callV (K := jX1_difference) [.ref (g.2.1 21), .int (nI i)] lk_X1_132 ⟨⟨rfl, rfl⟩, Nat.le_of_ble_eq_true rfl, Nat.le_of_ble_eq_true rfl⟩ rfl rfl (by have := mX1_difference (g := g) hF hG h24 h15 21 i rfl (by omega) (by omega); rw [(hF.2.2.1 i (by omega)).2.1, (hF.2.2.1 (i - 1) (by omega)).2.1] at this; exact this) rfl (Nat.le_of_ble_eq_true rfl) rfl dX1_nearestOn_18 (kpI ?_)
  refine x_i2l dX1_nearestOn_21 ?_
  refine x_lstore 7 [(7, .long ((S.2.2 1 i - S.2.2 1 (i - 1)).toInt64)), (5, .long ((S.2.2 0 i - S.2.2 0 (i - 1)).toInt64)), (0, .ref (g.2.1 6)), (1, .ref (g.2.1 a)), (2, .int (nI i)), (3, .int x), (4, .int y)] dX1_nearestOn_22 (by decide) rfl ?_
  refine x_lload dX1_nearestOn_24 1 rfl ?_
  refine x_lload dX1_nearestOn_26 1 rfl ?_
  refine x_lmul dX1_nearestOn_28 ?_
  refine x_lload dX1_nearestOn_29 0 rfl ?_
  refine x_lload dX1_nearestOn_31 0 rfl ?_
  refine x_lmul dX1_nearestOn_33 ?_
  refine x_ladd dX1_nearestOn_34 ?_
  refine x_lstore 9 [(9, .long ((((S.2.2 0 i - S.2.2 0 (i - 1)).toInt64) * ((S.2.2 0 i - S.2.2 0 (i - 1)).toInt64)) + (((S.2.2 1 i - S.2.2 1 (i - 1)).toInt64) * ((S.2.2 1 i - S.2.2 1 (i - 1)).toInt64)))), (7, .long ((S.2.2 1 i - S.2.2 1 (i - 1)).toInt64)), (5, .long ((S.2.2 0 i - S.2.2 0 (i - 1)).toInt64)), (0, .ref (g.2.1 6)), (1, .ref (g.2.1 a)), (2, .int (nI i)), (3, .int x), (4, .int y)] dX1_nearestOn_35 (by decide) rfl ?_
  refine x_lload dX1_nearestOn_37 0 rfl ?_
  refine x_lconst (v := 0) dX1_nearestOn_39 (by decide) ?_
  refine x_lcmp dX1_nearestOn_40 ?_
  refine x_if_ne 46 dX1_nearestOn_41 (by decide) (fun c1 => ?_) (fun c1 => by exfalso; exact wh_nz hs (lgc_eq.mp c1))
  refine x_lload dX1_nearestOn_46 2 rfl ?_
  refine x_iload_n dX1_nearestOn_48 6 rfl ?_
  refine x_aload_n dX1_nearestOn_49 3 rfl ?_
  refine x_getR fl_X1_9 rfl rfl dX1_nearestOn_50 ?_
  refine x_iload_n dX1_nearestOn_53 5 rfl ?_
  refine x_iconst (v := 1) dX1_nearestOn_54 (by decide) ?_
  refine x_isub dX1_nearestOn_55 ?_
  have q2 : ((nI i) - 1 : Int32) = nI (i - 1) := nsub (by omega) (rfl) (rfl)
  refine YY.S (st' := [.int (nI (i - 1)), .ref (g.2.1 20), .int x, .long ((S.2.2 0 i - S.2.2 0 (i - 1)).toInt64)]) (by rw [q2]) ?_
  have b3 : vp_in (nI (i - 1)) 1536 := by exact vp_in_nI (by omega) (by decide)
  refine x_iald rfl b3 dX1_nearestOn_56 ?_
  refine x_topi (y := V 20 (i - 1)) (by rw [nI_clamp (by omega)]) ?_
  refine x_topi ((hF.2.2.1 (i - 1) (by omega)).1) ?_
  refine x_isub dX1_nearestOn_57 ?_
  refine x_i2l dX1_nearestOn_58 ?_
  refine x_lmul dX1_nearestOn_59 ?_
  refine x_lload dX1_nearestOn_60 1 rfl ?_
  refine x_iload dX1_nearestOn_62 7 rfl ?_
  refine x_aload_n dX1_nearestOn_64 3 rfl ?_
  refine x_getR fl_X1_15 rfl rfl dX1_nearestOn_65 ?_
  refine x_iload_n dX1_nearestOn_68 5 rfl ?_
  refine x_iconst (v := 1) dX1_nearestOn_69 (by decide) ?_
  refine x_isub dX1_nearestOn_70 ?_
  have q4 : ((nI i) - 1 : Int32) = nI (i - 1) := nsub (by omega) (rfl) (rfl)
  refine YY.S (st' := [.int (nI (i - 1)), .ref (g.2.1 21), .int y, .long ((S.2.2 1 i - S.2.2 1 (i - 1)).toInt64), .long (((S.2.2 0 i - S.2.2 0 (i - 1)).toInt64) * ((x - (S.2.2 0 (i - 1))).toInt64))]) (by rw [q4]) ?_
  have b5 : vp_in (nI (i - 1)) 1536 := by exact vp_in_nI (by omega) (by decide)
  refine x_iald rfl b5 dX1_nearestOn_71 ?_
  refine x_topi (y := V 21 (i - 1)) (by rw [nI_clamp (by omega)]) ?_
  refine x_topi ((hF.2.2.1 (i - 1) (by omega)).2.1) ?_
  refine x_isub dX1_nearestOn_72 ?_
  refine x_i2l dX1_nearestOn_73 ?_
  refine x_lmul dX1_nearestOn_74 ?_
  refine x_ladd dX1_nearestOn_75 ?_
  refine x_lstore 11 [(11, .long ((((S.2.2 0 i - S.2.2 0 (i - 1)).toInt64) * ((x - (S.2.2 0 (i - 1))).toInt64)) + (((S.2.2 1 i - S.2.2 1 (i - 1)).toInt64) * ((y - (S.2.2 1 (i - 1))).toInt64)))), (9, .long ((((S.2.2 0 i - S.2.2 0 (i - 1)).toInt64) * ((S.2.2 0 i - S.2.2 0 (i - 1)).toInt64)) + (((S.2.2 1 i - S.2.2 1 (i - 1)).toInt64) * ((S.2.2 1 i - S.2.2 1 (i - 1)).toInt64)))), (7, .long ((S.2.2 1 i - S.2.2 1 (i - 1)).toInt64)), (5, .long ((S.2.2 0 i - S.2.2 0 (i - 1)).toInt64)), (0, .ref (g.2.1 6)), (1, .ref (g.2.1 a)), (2, .int (nI i)), (3, .int x), (4, .int y)] dX1_nearestOn_76 (by decide) rfl ?_
  refine x_lload dX1_nearestOn_78 0 rfl ?_
  refine x_lconst (v := 0) dX1_nearestOn_80 (by decide) ?_
  refine x_mmaxL pr_mmaxL_X1_147 pr_mmaxL_st pr_math pr_mmaxL_code (by decide) (Nat.le_of_ble_eq_true rfl) dX1_nearestOn_81 ?_
  refine x_lload dX1_nearestOn_84 1 rfl ?_
  refine x_mminL pr_mminL_X1_153 pr_mminL_st pr_math pr_mminL_code (by decide) (Nat.le_of_ble_eq_true rfl) dX1_nearestOn_86 ?_
  refine x_lstore 11 [(11, .long (if ((((S.2.2 0 i - S.2.2 0 (i - 1)).toInt64) * ((S.2.2 0 i - S.2.2 0 (i - 1)).toInt64)) + (((S.2.2 1 i - S.2.2 1 (i - 1)).toInt64) * ((S.2.2 1 i - S.2.2 1 (i - 1)).toInt64))) < (if 0 < ((((S.2.2 0 i - S.2.2 0 (i - 1)).toInt64) * ((x - (S.2.2 0 (i - 1))).toInt64)) + (((S.2.2 1 i - S.2.2 1 (i - 1)).toInt64) * ((y - (S.2.2 1 (i - 1))).toInt64))) then ((((S.2.2 0 i - S.2.2 0 (i - 1)).toInt64) * ((x - (S.2.2 0 (i - 1))).toInt64)) + (((S.2.2 1 i - S.2.2 1 (i - 1)).toInt64) * ((y - (S.2.2 1 (i - 1))).toInt64))) else 0) then ((((S.2.2 0 i - S.2.2 0 (i - 1)).toInt64) * ((S.2.2 0 i - S.2.2 0 (i - 1)).toInt64)) + (((S.2.2 1 i - S.2.2 1 (i - 1)).toInt64) * ((S.2.2 1 i - S.2.2 1 (i - 1)).toInt64))) else (if 0 < ((((S.2.2 0 i - S.2.2 0 (i - 1)).toInt64) * ((x - (S.2.2 0 (i - 1))).toInt64)) + (((S.2.2 1 i - S.2.2 1 (i - 1)).toInt64) * ((y - (S.2.2 1 (i - 1))).toInt64))) then ((((S.2.2 0 i - S.2.2 0 (i - 1)).toInt64) * ((x - (S.2.2 0 (i - 1))).toInt64)) + (((S.2.2 1 i - S.2.2 1 (i - 1)).toInt64) * ((y - (S.2.2 1 (i - 1))).toInt64))) else 0))), (9, .long ((((S.2.2 0 i - S.2.2 0 (i - 1)).toInt64) * ((S.2.2 0 i - S.2.2 0 (i - 1)).toInt64)) + (((S.2.2 1 i - S.2.2 1 (i - 1)).toInt64) * ((S.2.2 1 i - S.2.2 1 (i - 1)).toInt64)))), (7, .long ((S.2.2 1 i - S.2.2 1 (i - 1)).toInt64)), (5, .long ((S.2.2 0 i - S.2.2 0 (i - 1)).toInt64)), (0, .ref (g.2.1 6)), (1, .ref (g.2.1 a)), (2, .int (nI i)), (3, .int x), (4, .int y)] dX1_nearestOn_89 (by decide) rfl ?_
  refine x_aload_n dX1_nearestOn_91 5 rfl ?_
  refine x_iload_n dX1_nearestOn_92 6 rfl ?_
  refine x_iconst (v := 1) dX1_nearestOn_93 (by decide) ?_
  refine x_isub dX1_nearestOn_94 ?_
  have q6 : ((nI i) - 1 : Int32) = nI (i - 1) := nsub (by omega) (rfl) (rfl)
  refine YY.S (st' := [.int (nI (i - 1)), .ref (g.2.1 a)]) (by rw [q6]) ?_
  have b7 : vp_in (nI (i - 1)) 1536 := by exact vp_in_nI (by omega) (by decide)
  refine x_iald sh b7 dX1_nearestOn_95 ?_
  refine x_topi (y := V a (i - 1)) (by rw [nI_clamp (by omega)]) ?_
  refine x_topi (hxa (i - 1) (by omega)) ?_
  refine x_aload_n dX1_nearestOn_96 4 rfl ?_
  refine x_aload_n dX1_nearestOn_97 5 rfl ?_
  refine x_iload_n dX1_nearestOn_98 6 rfl ?_
  refine x_callV (K := jX1_difference) [.ref (g.2.1 a), .int (nI i)] lk_X1_132 ⟨⟨rfl, rfl⟩, Nat.le_of_ble_eq_true rfl, Nat.le_of_ble_eq_true rfl⟩ rfl rfl (by have := mX1_difference (g := g) hF hG h24 h15 a i sh (by omega) (by omega); rw [hxa i (by omega), hxa (i - 1) (by omega)] at this; exact this) rfl (Nat.le_of_ble_eq_true rfl) rfl dX1_nearestOn_99 (kpI ?_)
  refine x_i2l dX1_nearestOn_102 ?_
  refine x_lload dX1_nearestOn_103 0 rfl ?_
  refine x_lmul dX1_nearestOn_105 ?_
  refine x_lload dX1_nearestOn_106 1 rfl ?_
  have nz8 : ¬ ((((S.2.2 0 i - S.2.2 0 (i - 1)).toInt64) * ((S.2.2 0 i - S.2.2 0 (i - 1)).toInt64)) + (((S.2.2 1 i - S.2.2 1 (i - 1)).toInt64) * ((S.2.2 1 i - S.2.2 1 (i - 1)).toInt64)) : Int64) = 0 := by exact wh_nz hs
  refine x_ldiv dX1_nearestOn_108 nz8 ?_
  refine x_l2i dX1_nearestOn_109 ?_
  refine x_iadd dX1_nearestOn_110 ?_
  refine x_iret dX1_nearestOn_111 rfl ?_
  rw [hQ]
  exact ⟨rfl, rfl⟩
set_option maxHeartbeats 1000000 in
set_option maxRecDepth 100000 in
theorem mX1_squareTo {g : gX} {V : vM} {S : FS} {fb : Nat → Nat} (hF : FRC V S) (hG : GI S fb) (h24 : S.2.1 ≤ 24) (h15 : S.1 ≤ 1536) (i : Nat) (h1 : 1 ≤ i) (hi : i < S.1) (hs : sgm S i) (x y : Int32) : MM g jX1_squareTo V [.ref (g.2.1 6), .int (nI i), .int x, .int y] (pI V (nsqr S i x y)) := by
  refine MM.of plX1_squareTo (Nat.le_of_ble_eq_true rfl) ?_
  obtain ⟨Q, hQ⟩ : ∃ Q : Option Value → vM → Prop, Q = (pI V (nsqr S i x y)) := ⟨_, rfl⟩
  rw [← hQ]
  show XX g jX1_squareTo Q V 0 [(0, .ref (g.2.1 6)), (1, .int (nI i)), (2, .int x), (3, .int y)] []
  refine x_aload_n dX1_squareTo_0 0 rfl ?_
  refine x_aload_n dX1_squareTo_1 0 rfl ?_
  refine x_getR fl_X1_9 rfl rfl dX1_squareTo_2 ?_
  refine x_iload_n dX1_squareTo_5 1 rfl ?_
  refine x_iload_n dX1_squareTo_6 2 rfl ?_
  refine x_iload_n dX1_squareTo_7 3 rfl ?_
  refine x_callV (K := jX1_nearestOn) [.ref (g.2.1 20), .int (nI i), .int x, .int y] lk_X1_143 ⟨⟨rfl, rfl⟩, Nat.le_of_ble_eq_true rfl, Nat.le_of_ble_eq_true rfl⟩ rfl rfl (mX1_nearestOn hF hG h24 h15 20 0 rfl (fun i hi => (hF.2.2.1 i hi).1) i (by omega) (by omega) hs x y) rfl (Nat.le_of_ble_eq_true rfl) rfl dX1_squareTo_8 (kpI ?_)
  refine x_iload_n dX1_squareTo_11 2 rfl ?_
  refine x_isub dX1_squareTo_12 ?_
  refine x_istore 4 [(4, .int ((npt S 0 i x y) - x)), (0, .ref (g.2.1 6)), (1, .int (nI i)), (2, .int x), (3, .int y)] dX1_squareTo_13 (by decide) rfl ?_
  refine x_aload_n dX1_squareTo_15 1 rfl ?_
  refine x_aload_n dX1_squareTo_16 1 rfl ?_
  refine x_getR fl_X1_15 rfl rfl dX1_squareTo_17 ?_
  refine x_iload_n dX1_squareTo_20 2 rfl ?_
  refine x_iload_n dX1_squareTo_21 3 rfl ?_
  refine x_iload_n dX1_squareTo_22 4 rfl ?_
  refine x_callV (K := jX1_nearestOn) [.ref (g.2.1 21), .int (nI i), .int x, .int y] lk_X1_143 ⟨⟨rfl, rfl⟩, Nat.le_of_ble_eq_true rfl, Nat.le_of_ble_eq_true rfl⟩ rfl rfl (mX1_nearestOn hF hG h24 h15 21 1 rfl (fun i hi => (hF.2.2.1 i hi).2.1) i (by omega) (by omega) hs x y) rfl (Nat.le_of_ble_eq_true rfl) rfl dX1_squareTo_23 (kpI ?_)
  refine x_iload_n dX1_squareTo_26 4 rfl ?_
  refine x_isub dX1_squareTo_27 ?_
  refine x_istore 5 [(5, .int ((npt S 1 i x y) - y)), (4, .int ((npt S 0 i x y) - x)), (0, .ref (g.2.1 6)), (1, .int (nI i)), (2, .int x), (3, .int y)] dX1_squareTo_28 (by decide) rfl ?_
  refine x_iload dX1_squareTo_30 1 rfl ?_
  refine x_iload dX1_squareTo_32 1 rfl ?_
  refine x_imul dX1_squareTo_34 ?_
  refine x_iload dX1_squareTo_35 0 rfl ?_
  refine x_iload dX1_squareTo_37 0 rfl ?_
  refine x_imul dX1_squareTo_39 ?_
  refine x_iadd dX1_squareTo_40 ?_
  refine x_iret dX1_squareTo_41 rfl ?_
  rw [hQ]
  exact ⟨rfl, rfl⟩
set_option maxHeartbeats 1000000 in
set_option maxRecDepth 100000 in
theorem mX1_nearestNumber {g : gX} {V : vM} {S : FS} {fb : Nat → Nat} (hF : FRC V S) (hG : GI S fb) (h24 : S.2.1 ≤ 24) (h15 : S.1 ≤ 1536) (hR : ∀ i, i < S.1 → inR (S.2.2 0 i) ∧ inR (S.2.2 1 i)) (x y : Int32) (hx : inR x) (hy : inR y) (hn : ¬ S.1 - S.2.1 = 0) (what : Int32) : MM g jX1_nearestNumber V [.ref (g.2.1 6), .int x, .int y, .int what] (pI V (nrR S fb x y what)) := by
  refine MM.of plX1_nearestNumber (Nat.le_of_ble_eq_true rfl) ?_
  obtain ⟨Q, hQ⟩ : ∃ Q : Option Value → vM → Prop, Q = (pI V (nrR S fb x y what)) := ⟨_, rfl⟩
  rw [← hQ]
  show XX g jX1_nearestNumber Q V 0 [(0, .ref (g.2.1 6)), (1, .int x), (2, .int y), (3, .int what)] []
  refine x_iconst (v := 0) dX1_nearestNumber_0 (by decide) ?_
  refine x_istore 4 [(4, .int 0), (0, .ref (g.2.1 6)), (1, .int x), (2, .int y), (3, .int what)] dX1_nearestNumber_1 (by decide) rfl ?_
  refine x_iconst (v := 0) dX1_nearestNumber_3 (by decide) ?_
  refine x_istore 5 [(5, .int 0), (4, .int 0), (0, .ref (g.2.1 6)), (1, .int x), (2, .int y), (3, .int what)] dX1_nearestNumber_4 (by decide) rfl ?_
  refine x_ldc ct_X1_138 dX1_nearestNumber_6 ?_
  refine x_istore 6 [(6, .int 2147483647), (5, .int 0), (4, .int 0), (0, .ref (g.2.1 6)), (1, .int x), (2, .int y), (3, .int what)] dX1_nearestNumber_8 (by decide) rfl ?_
  refine x_iconst (v := 0) dX1_nearestNumber_10 (by decide) ?_
  refine x_istore 7 [(7, .int 0), (6, .int 2147483647), (5, .int 0), (4, .int 0), (0, .ref (g.2.1 6)), (1, .int x), (2, .int y), (3, .int what)] dX1_nearestNumber_11 (by decide) rfl ?_
  have lp1 : ∀ (fu : Nat) (k : Nat), (k ≤ S.2.1) → (S.2.1 - k) < fu → XX g jX1_nearestNumber Q V 13 [(7, .int (nI k)), (6, .int ((nsO S fb x y k).2.2)), (5, .int (nI (nsO S fb x y k).2.1)), (4, .int (nI (nsO S fb x y k).1)), (0, .ref (g.2.1 6)), (1, .int x), (2, .int y), (3, .int what)] [] := by
    intro fu
    induction fu with
    | zero => intro _ _ hmz; exact absurd hmz (Nat.not_lt_zero _)
    | succ fu ih =>
      intro k hk hmz
      refine x_iload dX1_nearestNumber_13 0 rfl ?_
      refine x_aload_n dX1_nearestNumber_15 4 rfl ?_
      refine x_getI fl_X1_42 rfl rfl dX1_nearestNumber_16 ?_
      refine x_topi (hF.2.1) ?_
      refine x_icmp_ge 88 dX1_nearestNumber_19 (by decide) (fun c2 => ?_) (fun c2 => ?_)
      · have c2n : S.2.1 ≤ k := (nl_le (a := S.2.1) (b := k) (rfl) (rfl) (by omega) (by omega)).mp c2
        obtain ⟨T, eT⟩ : ∃ v_v : Nat × Nat × Int32, v_v = nsO S fb x y S.2.1 := ⟨_, rfl⟩
        have ek : nsO S fb x y k = T := by rw [eT, show k = S.2.1 by omega]
        have hT := (nsO_V hG h24 hR hx hy S.2.1 (Nat.le_refl _)).2 (by rw [hG.2.1]; omega)
        rw [← eT] at hT
        obtain ⟨ht1, ht2, hs, ht4, -⟩ := hT
        refine YY.L (lv' := [(7, .int (nI k)), (6, .int T.2.2), (5, .int (nI (T.2.1))), (4, .int (nI (T.1))), (0, .ref (g.2.1 6)), (1, .int x), (2, .int y), (3, .int what)]) (by rw [ek]) ?_
        refine x_iload_n dX1_nearestNumber_88 7 rfl ?_
        by_cases c3 : what = 0
        · refine x_tableIn 116 dX1_nearestNumber_89 (by rw [c3]; decide) (by rw [c3]; decide) (by rw [c3]; rfl) (by decide) ?_
          refine x_aload_n dX1_nearestNumber_116 4 rfl ?_
          refine x_aload_n dX1_nearestNumber_117 4 rfl ?_
          refine x_getR fl_X1_9 rfl rfl dX1_nearestNumber_118 ?_
          refine x_iload dX1_nearestNumber_121 3 rfl ?_
          refine x_iload_n dX1_nearestNumber_123 5 rfl ?_
          refine x_iload_n dX1_nearestNumber_124 6 rfl ?_
          have q4 : (nI (T.1) : Int32) = nI T.1 := rfl
          refine YY.S (st' := [.int y, .int x, .int (nI T.1), .ref (g.2.1 20), .ref (g.2.1 6)]) (by rw [q4]) ?_
          refine x_callV (K := jX1_nearestOn) [.ref (g.2.1 20), .int (nI T.1), .int x, .int y] lk_X1_143 ⟨⟨rfl, rfl⟩, Nat.le_of_ble_eq_true rfl, Nat.le_of_ble_eq_true rfl⟩ rfl rfl (mX1_nearestOn hF hG h24 h15 20 0 rfl (fun i hi => (hF.2.2.1 i hi).1) T.1 (by omega) (by omega) hs x y) rfl (Nat.le_of_ble_eq_true rfl) rfl dX1_nearestNumber_125 (kpI ?_)
          refine x_iret dX1_nearestNumber_128 rfl ?_
          rw [hQ]
          refine ⟨rfl, ?_⟩
          unfold nrR
          rw [← eT]
          first | rw [if_pos (by assumption)] | rw [if_neg (by assumption), if_pos (by assumption)] | rw [if_neg (by assumption), if_neg (by assumption), if_pos (by assumption)] | rw [if_neg (by grind), if_neg (by grind), if_neg (by grind)]
        by_cases c5 : what = 1
        · refine x_tableIn 129 dX1_nearestNumber_89 (by rw [c5]; decide) (by rw [c5]; decide) (by rw [c5]; rfl) (by decide) ?_
          refine x_aload_n dX1_nearestNumber_129 4 rfl ?_
          refine x_aload_n dX1_nearestNumber_130 4 rfl ?_
          refine x_getR fl_X1_15 rfl rfl dX1_nearestNumber_131 ?_
          refine x_iload dX1_nearestNumber_134 3 rfl ?_
          refine x_iload_n dX1_nearestNumber_136 5 rfl ?_
          refine x_iload_n dX1_nearestNumber_137 6 rfl ?_
          have q6 : (nI (T.1) : Int32) = nI T.1 := rfl
          refine YY.S (st' := [.int y, .int x, .int (nI T.1), .ref (g.2.1 21), .ref (g.2.1 6)]) (by rw [q6]) ?_
          refine x_callV (K := jX1_nearestOn) [.ref (g.2.1 21), .int (nI T.1), .int x, .int y] lk_X1_143 ⟨⟨rfl, rfl⟩, Nat.le_of_ble_eq_true rfl, Nat.le_of_ble_eq_true rfl⟩ rfl rfl (mX1_nearestOn hF hG h24 h15 21 1 rfl (fun i hi => (hF.2.2.1 i hi).2.1) T.1 (by omega) (by omega) hs x y) rfl (Nat.le_of_ble_eq_true rfl) rfl dX1_nearestNumber_138 (kpI ?_)
          refine x_iret dX1_nearestNumber_141 rfl ?_
          rw [hQ]
          refine ⟨rfl, ?_⟩
          unfold nrR
          rw [← eT]
          first | rw [if_pos (by assumption)] | rw [if_neg (by assumption), if_pos (by assumption)] | rw [if_neg (by assumption), if_neg (by assumption), if_pos (by assumption)] | rw [if_neg (by grind), if_neg (by grind), if_neg (by grind)]
        by_cases c7 : what = 2
        · refine x_tableIn 142 dX1_nearestNumber_89 (by rw [c7]; decide) (by rw [c7]; decide) (by rw [c7]; rfl) (by decide) ?_
          refine x_iload dX1_nearestNumber_142 3 rfl ?_
          refine x_iload dX1_nearestNumber_144 2 rfl ?_
          refine x_callS (K := jX1_numberOf) [.int (nI (T.1)), .int (nI (T.2.1))] lk_X1_129 ⟨⟨rfl, rfl⟩, Nat.le_of_ble_eq_true rfl, Nat.le_of_ble_eq_true rfl⟩ (mX1_numberOf V (nI (T.1)) (nI (T.2.1))) rfl (Nat.le_of_ble_eq_true rfl) rfl dX1_nearestNumber_146 (kpI ?_)
          refine x_iret dX1_nearestNumber_149 rfl ?_
          rw [hQ]
          refine ⟨rfl, ?_⟩
          unfold nrR
          rw [← eT]
          first | rw [if_pos (by assumption)] | rw [if_neg (by assumption), if_pos (by assumption)] | rw [if_neg (by assumption), if_neg (by assumption), if_pos (by assumption)] | rw [if_neg (by grind), if_neg (by grind), if_neg (by grind)]
        refine x_tableOut 150 dX1_nearestNumber_89 (by have q0 : ¬ what.toInt = 0 := fun q => c3 (Int32.toInt_inj.mp (q.trans (by decide))); have q1 : ¬ what.toInt = 1 := fun q => c5 (Int32.toInt_inj.mp (q.trans (by decide))); have q2 : ¬ what.toInt = 2 := fun q => c7 (Int32.toInt_inj.mp (q.trans (by decide))); omega) (by decide) ?_
        refine x_iload dX1_nearestNumber_150 1 rfl ?_
        refine x_iret dX1_nearestNumber_152 rfl ?_
        rw [hQ]
        refine ⟨rfl, ?_⟩
        unfold nrR
        rw [← eT]
        first | rw [if_pos (by assumption)] | rw [if_neg (by assumption), if_pos (by assumption)] | rw [if_neg (by assumption), if_neg (by assumption), if_pos (by assumption)] | rw [if_neg (by grind), if_neg (by grind), if_neg (by grind)]
      · have c2n : k < S.2.1 := Nat.not_le.mp (fun q => c2 ((nl_le (a := S.2.1) (b := k) (rfl) (rfl) (by omega) (by omega)).mpr q))
        have hkS : k < S.2.1 := by omega
        have hkb := hG.bd (j := k + 1) (by omega)
        have hkl := (hG.2.2.2 k hkS).1
        have hV0 : V 24 k = nI (fb k) := by rw [hF.2.2.2.1 k (by omega), hG.2.2.1 k (by omega)]
        have hV1 : V 24 (k + 1) = nI (fb (k + 1)) := by rw [hF.2.2.2.1 (k + 1) (by omega), hG.2.2.1 (k + 1) (by omega)]
        refine x_aload_n dX1_nearestNumber_22 4 rfl ?_
        refine x_getR fl_X1_24 rfl rfl dX1_nearestNumber_23 ?_
        refine x_iload dX1_nearestNumber_26 0 rfl ?_
        have b8 : vp_in (nI k) 25 := by exact vp_in_nI (by omega) (by decide)
        refine x_iald rfl b8 dX1_nearestNumber_28 ?_
        refine x_topi (y := V 24 k) (by rw [nI_clamp (by omega)]) ?_
        refine x_topi (hV0) ?_
        refine x_iconst (v := 1) dX1_nearestNumber_29 (by decide) ?_
        refine x_iadd dX1_nearestNumber_30 ?_
        refine x_istore 8 [(8, .int ((nI (fb k)) + 1)), (7, .int (nI k)), (6, .int ((nsO S fb x y k).2.2)), (5, .int (nI (nsO S fb x y k).2.1)), (4, .int (nI (nsO S fb x y k).1)), (0, .ref (g.2.1 6)), (1, .int x), (2, .int y), (3, .int what)] dX1_nearestNumber_31 (by decide) rfl ?_
        have lp9 : ∀ (fu1 : Nat) (j : Nat), (fb k + 1 + j ≤ fb (k + 1)) → (fb (k + 1) - (fb k + 1 + j)) < fu1 → XX g jX1_nearestNumber Q V 33 [(8, .int (nI (fb k + 1 + j))), (7, .int (nI k)), (6, .int ((nsI S x y (nsO S fb x y k) k (fb k) j).2.2)), (5, .int (nI (nsI S x y (nsO S fb x y k) k (fb k) j).2.1)), (4, .int (nI (nsI S x y (nsO S fb x y k) k (fb k) j).1)), (0, .ref (g.2.1 6)), (1, .int x), (2, .int y), (3, .int what)] [] := by
          intro fu1
          induction fu1 with
          | zero => intro _ _ hmz; exact absurd hmz (Nat.not_lt_zero _)
          | succ fu1 ih1 =>
            intro j hj hmz
            refine x_iload dX1_nearestNumber_33 0 rfl ?_
            refine x_aload_n dX1_nearestNumber_35 5 rfl ?_
            refine x_getR fl_X1_24 rfl rfl dX1_nearestNumber_36 ?_
            refine x_iload dX1_nearestNumber_39 1 rfl ?_
            refine x_iconst (v := 1) dX1_nearestNumber_41 (by decide) ?_
            refine x_iadd dX1_nearestNumber_42 ?_
            have q10 : ((nI k) + 1 : Int32) = nI (k + 1) := nadd (rfl) (rfl)
            refine YY.S (st' := [.int (nI (k + 1)), .ref (g.2.1 24), .int (nI (fb k + 1 + j))]) (by rw [q10]) ?_
            have b11 : vp_in (nI (k + 1)) 25 := by exact vp_in_nI (by omega) (by decide)
            refine x_iald rfl b11 dX1_nearestNumber_43 ?_
            refine x_topi (y := V 24 (k + 1)) (by rw [nI_clamp (by omega)]) ?_
            refine x_topi (hV1) ?_
            refine x_icmp_ge 82 dX1_nearestNumber_44 (by decide) (fun c12 => ?_) (fun c12 => ?_)
            · have c12n : fb (k + 1) ≤ fb k + 1 + j := (nl_le (a := fb (k + 1)) (b := fb k + 1 + j) (rfl) (rfl) (by omega) (by omega)).mp c12
              refine x_iinc 7 (v := (nI k) + 1) 1 [(7, .int ((nI k) + 1)), (8, .int (nI (fb k + 1 + j))), (6, .int ((nsI S x y (nsO S fb x y k) k (fb k) j).2.2)), (5, .int (nI (nsI S x y (nsO S fb x y k) k (fb k) j).2.1)), (4, .int (nI (nsI S x y (nsO S fb x y k) k (fb k) j).1)), (0, .ref (g.2.1 6)), (1, .int x), (2, .int y), (3, .int what)] dX1_nearestNumber_82 rfl (by rfl) (by decide) rfl ?_
              refine x_goto 13 dX1_nearestNumber_85 (by decide) ?_
              refine x_lv [0, 2, 3, 4, 5, 6, 7, 8] rfl ?_
              refine YY.L (lv' := [(7, .int (nI (k + 1))), (6, .int ((nsO S fb x y (k + 1)).2.2)), (5, .int (nI (nsO S fb x y (k + 1)).2.1)), (4, .int (nI (nsO S fb x y (k + 1)).1)), (0, .ref (g.2.1 6)), (1, .int x), (2, .int y), (3, .int what)]) (by rw [nI_1, show j = fb (k + 1) - fb k - 1 by omega]; rfl) ?_
              exact ih (k + 1) (by omega) (by omega)
            · have c12n : fb k + 1 + j < fb (k + 1) := Nat.not_le.mp (fun q => c12 ((nl_le (a := fb (k + 1)) (b := fb k + 1 + j) (rfl) (rfl) (by omega) (by omega)).mpr q))
              refine x_aload_n dX1_nearestNumber_47 5 rfl ?_
              refine x_iload dX1_nearestNumber_48 0 rfl ?_
              refine x_iload_n dX1_nearestNumber_50 6 rfl ?_
              refine x_iload_n dX1_nearestNumber_51 7 rfl ?_
              refine x_callV (K := jX1_squareTo) [.int (nI (fb k + 1 + j)), .int x, .int y] lk_X1_139 ⟨⟨rfl, rfl⟩, Nat.le_of_ble_eq_true rfl, Nat.le_of_ble_eq_true rfl⟩ rfl rfl (mX1_squareTo hF hG h24 h15 (fb k + 1 + j) (by omega) (by omega) (hG.sgm hR hkS (by omega) (by omega)) x y) rfl (Nat.le_of_ble_eq_true rfl) rfl dX1_nearestNumber_52 (kpI ?_)
              refine x_istore 9 [(9, .int (nsqr S (fb k + 1 + j) x y)), (8, .int (nI (fb k + 1 + j))), (7, .int (nI k)), (6, .int ((nsI S x y (nsO S fb x y k) k (fb k) j).2.2)), (5, .int (nI (nsI S x y (nsO S fb x y k) k (fb k) j).2.1)), (4, .int (nI (nsI S x y (nsO S fb x y k) k (fb k) j).1)), (0, .ref (g.2.1 6)), (1, .int x), (2, .int y), (3, .int what)] dX1_nearestNumber_55 (by decide) rfl ?_
              refine x_iload dX1_nearestNumber_57 0 rfl ?_
              refine x_iload dX1_nearestNumber_59 3 rfl ?_
              refine x_icmp_ge 76 dX1_nearestNumber_61 (by decide) (fun c13 => ?_) (fun c13 => ?_)
              · refine x_iinc 8 (v := (nI (fb k + 1 + j)) + 1) 1 [(8, .int ((nI (fb k + 1 + j)) + 1)), (9, .int (nsqr S (fb k + 1 + j) x y)), (7, .int (nI k)), (6, .int ((nsI S x y (nsO S fb x y k) k (fb k) j).2.2)), (5, .int (nI (nsI S x y (nsO S fb x y k) k (fb k) j).2.1)), (4, .int (nI (nsI S x y (nsO S fb x y k) k (fb k) j).1)), (0, .ref (g.2.1 6)), (1, .int x), (2, .int y), (3, .int what)] dX1_nearestNumber_76 rfl (by rfl) (by decide) rfl ?_
                refine x_goto 33 dX1_nearestNumber_79 (by decide) ?_
                refine x_lv [0, 2, 3, 4, 5, 6, 7, 8, 9] rfl ?_
                refine YY.L (lv' := [(8, .int (nI (fb k + 1 + (j + 1)))), (7, .int (nI k)), (6, .int ((nsI S x y (nsO S fb x y k) k (fb k) (j + 1)).2.2)), (5, .int (nI (nsI S x y (nsO S fb x y k) k (fb k) (j + 1)).2.1)), (4, .int (nI (nsI S x y (nsO S fb x y k) k (fb k) (j + 1)).1)), (0, .ref (g.2.1 6)), (1, .int x), (2, .int y), (3, .int what)]) (by first | (rw [ns_t (by first | assumption | exact Int32.not_le.mp (by assumption) | exact Int32.not_lt.mpr (by assumption) | exact Int32.not_lt.mp (by assumption)), nI_1]; rfl) | (rw [ns_f (by first | assumption | exact Int32.not_le.mp (by assumption) | exact Int32.not_lt.mpr (by assumption) | exact Int32.not_lt.mp (by assumption)), nI_1]; rfl)) ?_
                exact ih1 (j + 1) (by omega) (by omega)
              · refine x_iload dX1_nearestNumber_64 1 rfl ?_
                refine x_istore 4 [(4, .int (nI (fb k + 1 + j))), (9, .int (nsqr S (fb k + 1 + j) x y)), (8, .int (nI (fb k + 1 + j))), (7, .int (nI k)), (6, .int ((nsI S x y (nsO S fb x y k) k (fb k) j).2.2)), (5, .int (nI (nsI S x y (nsO S fb x y k) k (fb k) j).2.1)), (0, .ref (g.2.1 6)), (1, .int x), (2, .int y), (3, .int what)] dX1_nearestNumber_66 (by decide) rfl ?_
                refine x_iload dX1_nearestNumber_68 3 rfl ?_
                refine x_istore 5 [(5, .int (nI k)), (4, .int (nI (fb k + 1 + j))), (9, .int (nsqr S (fb k + 1 + j) x y)), (8, .int (nI (fb k + 1 + j))), (7, .int (nI k)), (6, .int ((nsI S x y (nsO S fb x y k) k (fb k) j).2.2)), (0, .ref (g.2.1 6)), (1, .int x), (2, .int y), (3, .int what)] dX1_nearestNumber_70 (by decide) rfl ?_
                refine x_iload dX1_nearestNumber_72 2 rfl ?_
                refine x_istore 6 [(6, .int (nsqr S (fb k + 1 + j) x y)), (5, .int (nI k)), (4, .int (nI (fb k + 1 + j))), (9, .int (nsqr S (fb k + 1 + j) x y)), (8, .int (nI (fb k + 1 + j))), (7, .int (nI k)), (0, .ref (g.2.1 6)), (1, .int x), (2, .int y), (3, .int what)] dX1_nearestNumber_74 (by decide) rfl ?_
                refine x_iinc 8 (v := (nI (fb k + 1 + j)) + 1) 4 [(8, .int ((nI (fb k + 1 + j)) + 1)), (6, .int (nsqr S (fb k + 1 + j) x y)), (5, .int (nI k)), (4, .int (nI (fb k + 1 + j))), (9, .int (nsqr S (fb k + 1 + j) x y)), (7, .int (nI k)), (0, .ref (g.2.1 6)), (1, .int x), (2, .int y), (3, .int what)] dX1_nearestNumber_76 rfl (by rfl) (by decide) rfl ?_
                refine x_goto 33 dX1_nearestNumber_79 (by decide) ?_
                refine x_lv [0, 5, 1, 2, 3, 6, 7, 8, 9] rfl ?_
                refine YY.L (lv' := [(8, .int (nI (fb k + 1 + (j + 1)))), (7, .int (nI k)), (6, .int ((nsI S x y (nsO S fb x y k) k (fb k) (j + 1)).2.2)), (5, .int (nI (nsI S x y (nsO S fb x y k) k (fb k) (j + 1)).2.1)), (4, .int (nI (nsI S x y (nsO S fb x y k) k (fb k) (j + 1)).1)), (0, .ref (g.2.1 6)), (1, .int x), (2, .int y), (3, .int what)]) (by first | (rw [ns_t (by first | assumption | exact Int32.not_le.mp (by assumption) | exact Int32.not_lt.mpr (by assumption) | exact Int32.not_lt.mp (by assumption)), nI_1]; rfl) | (rw [ns_f (by first | assumption | exact Int32.not_le.mp (by assumption) | exact Int32.not_lt.mpr (by assumption) | exact Int32.not_lt.mp (by assumption)), nI_1]; rfl)) ?_
                exact ih1 (j + 1) (by omega) (by omega)
        refine YY.L (lv' := [(8, .int (nI (fb k + 1 + 0))), (7, .int (nI k)), (6, .int ((nsI S x y (nsO S fb x y k) k (fb k) 0).2.2)), (5, .int (nI (nsI S x y (nsO S fb x y k) k (fb k) 0).2.1)), (4, .int (nI (nsI S x y (nsO S fb x y k) k (fb k) 0).1)), (0, .ref (g.2.1 6)), (1, .int x), (2, .int y), (3, .int what)]) (by rw [nI_1]; rfl) ?_
        exact lp9 _ 0 (by omega) (Nat.lt_succ_self _)
  refine YY.L (lv' := [(7, .int (nI 0)), (6, .int ((nsO S fb x y 0).2.2)), (5, .int (nI (nsO S fb x y 0).2.1)), (4, .int (nI (nsO S fb x y 0).1)), (0, .ref (g.2.1 6)), (1, .int x), (2, .int y), (3, .int what)]) (by rfl) ?_
  exact lp1 _ 0 (by omega) (Nat.lt_succ_self _)
set_option maxHeartbeats 1000000 in
set_option maxRecDepth 100000 in
theorem mX9_nearest {g : gX} {V : vM} {m : Nat → Int32} {N : Nat} {t : Int32} {S : FS} {fb : Nat → Nat} (hCQ : CQ V m N t S fb) (x y what : Int32) : MM g jX9_nearest V [.ref (g.2.1 0), .int x, .int y, .int what] (eI (fun z U => z = nrZ S fb x y what ∧ CQ U m N t S fb ∧ frQ V U)) := by
  refine MM.of plX9_nearest (Nat.le_of_ble_eq_true rfl) ?_
  obtain ⟨Q, hQ⟩ : ∃ Q : Option Value → vM → Prop, Q = (eI (fun z U => z = nrZ S fb x y what ∧ CQ U m N t S fb ∧ frQ V U)) := ⟨_, rfl⟩
  rw [← hQ]
  show XX g jX9_nearest Q V 0 [(0, .ref (g.2.1 0)), (1, .int x), (2, .int y), (3, .int what)] []
  obtain ⟨hC, hS, hG, h24, h15, hcn, hL⟩ := id hCQ
  have hP0 := hC.1
  have hV13 : V 1 3 = nI S.2.1 := by rw [hP0.2.1, hcn]
  have hN24 := hP0.2.2.1.1
  have hcl := cntM_le (kd7 m) N
  refine x_iload_n dX9_nearest_0 1 rfl ?_
  refine x_callS (K := jX9_fits) [.int x] lk_X9_79 ⟨⟨rfl, rfl⟩, Nat.le_of_ble_eq_true rfl, Nat.le_of_ble_eq_true rfl⟩ (mX9_fits V x) rfl (Nat.le_of_ble_eq_true rfl) rfl dX9_nearest_1 (kpI ?_)
  refine x_if_eq 23 dX9_nearest_4 (by decide) (fun c1 => ?_) (fun c1 => ?_)
  · have c1n : ¬ (-4000 ≤ x ∧ x ≤ 4000) := iB_0.mp c1
    refine x_ldc ct_X9_83 dX9_nearest_23 ?_
    refine x_iret dX9_nearest_25 rfl ?_
    rw [hQ]
    first
      | exact ⟨_, rfl, (nrZ_1 ⟨by assumption, by assumption, by assumption⟩ (by omega)).symm, hCQ2, hFr⟩
      | exact ⟨_, rfl, (nrZ_0 ⟨by assumption, by assumption, by assumption⟩ (by omega)).symm, hCQ2, hFr⟩
      | exact ⟨_, rfl, (nrZ_no (fun q => by first | exact absurd q.1 (by assumption) | exact absurd q.2.1 (by assumption) | exact absurd q.2.2 (by assumption))).symm, hCQ, frQ.refl V⟩
  · have c1n : (-4000 ≤ x ∧ x ≤ 4000) := Classical.not_not.mp (fun q => c1 (iB_0.mpr q))
    refine x_iload_n dX9_nearest_7 2 rfl ?_
    refine x_callS (K := jX9_fits) [.int y] lk_X9_79 ⟨⟨rfl, rfl⟩, Nat.le_of_ble_eq_true rfl, Nat.le_of_ble_eq_true rfl⟩ (mX9_fits V y) rfl (Nat.le_of_ble_eq_true rfl) rfl dX9_nearest_8 (kpI ?_)
    refine x_if_eq 23 dX9_nearest_11 (by decide) (fun c2 => ?_) (fun c2 => ?_)
    · have c2n : ¬ (-4000 ≤ y ∧ y ≤ 4000) := iB_0.mp c2
      refine x_ldc ct_X9_83 dX9_nearest_23 ?_
      refine x_iret dX9_nearest_25 rfl ?_
      rw [hQ]
      first
        | exact ⟨_, rfl, (nrZ_1 ⟨by assumption, by assumption, by assumption⟩ (by omega)).symm, hCQ2, hFr⟩
        | exact ⟨_, rfl, (nrZ_0 ⟨by assumption, by assumption, by assumption⟩ (by omega)).symm, hCQ2, hFr⟩
        | exact ⟨_, rfl, (nrZ_no (fun q => by first | exact absurd q.1 (by assumption) | exact absurd q.2.1 (by assumption) | exact absurd q.2.2 (by assumption))).symm, hCQ, frQ.refl V⟩
    · have c2n : (-4000 ≤ y ∧ y ≤ 4000) := Classical.not_not.mp (fun q => c2 (iB_0.mpr q))
      refine x_iload_n dX9_nearest_14 3 rfl ?_
      refine x_iconst (v := 0) dX9_nearest_15 (by decide) ?_
      refine x_iconst (v := 3) dX9_nearest_16 (by decide) ?_
      refine x_callS (K := jX9_between) [.int what, .int 0, .int 3] lk_X9_129 ⟨⟨rfl, rfl⟩, Nat.le_of_ble_eq_true rfl, Nat.le_of_ble_eq_true rfl⟩ (mX9_between V what 0 3) rfl (Nat.le_of_ble_eq_true rfl) rfl dX9_nearest_17 (kpI ?_)
      refine x_if_ne 26 dX9_nearest_20 (by decide) (fun c3 => ?_) (fun c3 => ?_)
      · have c3n : (0 ≤ what ∧ what ≤ 3) := Classical.not_not.mp (fun q => c3 (iB_0.mpr q))
        refine x_aload_n dX9_nearest_26 0 rfl ?_
        refine x_callV (K := jX9_flattened) [] lk_X9_118 ⟨⟨rfl, rfl⟩, Nat.le_of_ble_eq_true rfl, Nat.le_of_ble_eq_true rfl⟩ rfl rfl (mX9_flattened hC) rfl (Nat.le_of_ble_eq_true rfl) rfl dX9_nearest_27 (keR fun U4 hU5 => ?_)
        have hCQ2 := hCQ.aft hU5
        have hFr := hU5.2.2
        have hF : FRC U4 S := by rw [← hS]; exact hU5.1
        have hPU := hCQ2.1.1
        have hU13 : U4 1 3 = nI (S.2.1) := by rw [hPU.2.1, hcn]
        refine x_astore 4 [(4, .ref (g.2.1 6)), (0, .ref (g.2.1 0)), (1, .int x), (2, .int y), (3, .int what)] dX9_nearest_30 (by decide) rfl ?_
        have hb0 := hG.1
        have hbn := hG.2.1
        refine x_aload dX9_nearest_32 0 rfl ?_
        refine x_iconst (v := 0) dX9_nearest_34 (by decide) ?_
        refine x_aload_n dX9_nearest_35 1 rfl ?_
        refine x_getR fl_X9_12 rfl rfl dX9_nearest_36 ?_
        refine x_getI fl_X9_91 rfl rfl dX9_nearest_39 ?_
        refine x_topi (hU13) ?_
        have q6 : (nI (S.2.1) : Int32) = nI S.2.1 := rfl
        refine YY.S (st' := [.int (nI S.2.1), .int 0, .ref (g.2.1 6)]) (by rw [q6]) ?_
        have q7 : (0 : Int32) = nI 0 := rfl
        refine YY.S (st' := [.int (nI S.2.1), .int (nI 0), .ref (g.2.1 6)]) (by rw [q7]) ?_
        refine x_callV (K := jX1_segmentsIn) [.int (nI 0), .int (nI S.2.1)] lk_X9_180 ⟨⟨rfl, rfl⟩, Nat.le_of_ble_eq_true rfl, Nat.le_of_ble_eq_true rfl⟩ rfl rfl (by have := mX1_segmentsIn (g := g) hF hG h24 h15 0 S.2.1 (by omega); rw [Nat.zero_add] at this; exact this) rfl (Nat.le_of_ble_eq_true rfl) rfl dX9_nearest_42 (kpI ?_)
        refine x_if_ne 51 dX9_nearest_45 (by decide) (fun c8 => ?_) (fun c8 => ?_)
        · have c8n : ¬ fb S.2.1 - fb 0 - S.2.1 = 0 := fun q => c8 ((nl_eq (a := fb S.2.1 - fb 0 - S.2.1) (b := 0) (rfl) (rfl) (by omega) (by omega)).mpr q)
          refine x_aload dX9_nearest_51 0 rfl ?_
          refine x_iload_n dX9_nearest_53 2 rfl ?_
          refine x_iload_n dX9_nearest_54 3 rfl ?_
          refine x_iload_n dX9_nearest_55 4 rfl ?_
          refine x_callV (K := jX1_nearestNumber) [.int x, .int y, .int what] lk_X9_204 ⟨⟨rfl, rfl⟩, Nat.le_of_ble_eq_true rfl, Nat.le_of_ble_eq_true rfl⟩ rfl rfl (mX1_nearestNumber hF hG h24 h15 (fall_inr hP0.2.2.1 hS) x y (by assumption) (by assumption) (by omega) what) rfl (Nat.le_of_ble_eq_true rfl) rfl dX9_nearest_56 (kpI ?_)
          refine x_iret dX9_nearest_59 rfl ?_
          rw [hQ]
          first
            | exact ⟨_, rfl, (nrZ_1 ⟨by assumption, by assumption, by assumption⟩ (by omega)).symm, hCQ2, hFr⟩
            | exact ⟨_, rfl, (nrZ_0 ⟨by assumption, by assumption, by assumption⟩ (by omega)).symm, hCQ2, hFr⟩
            | exact ⟨_, rfl, (nrZ_no (fun q => by first | exact absurd q.1 (by assumption) | exact absurd q.2.1 (by assumption) | exact absurd q.2.2 (by assumption))).symm, hCQ, frQ.refl V⟩
        · have c8n : fb S.2.1 - fb 0 - S.2.1 = 0 := (nl_eq (a := fb S.2.1 - fb 0 - S.2.1) (b := 0) (rfl) (rfl) (by omega) (by omega)).mp c8
          refine x_ldc ct_X9_107 dX9_nearest_48 ?_
          refine x_iret dX9_nearest_50 rfl ?_
          rw [hQ]
          first
            | exact ⟨_, rfl, (nrZ_1 ⟨by assumption, by assumption, by assumption⟩ (by omega)).symm, hCQ2, hFr⟩
            | exact ⟨_, rfl, (nrZ_0 ⟨by assumption, by assumption, by assumption⟩ (by omega)).symm, hCQ2, hFr⟩
            | exact ⟨_, rfl, (nrZ_no (fun q => by first | exact absurd q.1 (by assumption) | exact absurd q.2.1 (by assumption) | exact absurd q.2.2 (by assumption))).symm, hCQ, frQ.refl V⟩
      · have c3n : ¬ (0 ≤ what ∧ what ≤ 3) := iB_0.mp c3
        refine x_ldc ct_X9_83 dX9_nearest_23 ?_
        refine x_iret dX9_nearest_25 rfl ?_
        rw [hQ]
        first
          | exact ⟨_, rfl, (nrZ_1 ⟨by assumption, by assumption, by assumption⟩ (by omega)).symm, hCQ2, hFr⟩
          | exact ⟨_, rfl, (nrZ_0 ⟨by assumption, by assumption, by assumption⟩ (by omega)).symm, hCQ2, hFr⟩
          | exact ⟨_, rfl, (nrZ_no (fun q => by first | exact absurd q.1 (by assumption) | exact absurd q.2.1 (by assumption) | exact absurd q.2.2 (by assumption))).symm, hCQ, frQ.refl V⟩
