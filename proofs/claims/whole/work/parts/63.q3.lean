theorem nI_ex {c : Int32} {n : Nat} (hn : n < 2 ^ 31) (h : 0 ≤ c ∧ c < nI n) : ∃ k, c = nI k ∧ k < n := by
  have h0 := Int32.le_iff_toInt_le.mp h.1
  have h1 := Int32.lt_iff_toInt_lt.mp h.2
  rw [nI_toInt hn] at h1
  rw [show (0 : Int32).toInt = 0 from rfl] at h0
  refine ⟨c.toInt.toNat, Int32.toInt_inj.mp ?_, by omega⟩
  rw [nI_toInt (by omega)]
  omega
theorem nI_nm1 {k : Nat} (h : k < 2 ^ 31) : ¬ nI k = -1 := fun q => by
  have := congrArg Int32.toInt q
  rw [nI_toInt h, show (-1 : Int32).toInt = -1 from rfl] at this
  omega
theorem nI_bt {k n : Nat} (hn : n < 2 ^ 31) (h : k < n) : 0 ≤ nI k ∧ nI k < nI n := ⟨nI_pos' (by omega), (nI_ltI (by omega) hn).mpr h⟩
/-- class state with its flattening -/
def CQ (V : vM) (m : Nat → Int32) (N : Nat) (t : Int32) (S : FS) (fb : Nat → Nat) : Prop := CS V m N t ∧ fall m t N = S ∧ GI S fb ∧ S.2.1 ≤ 24 ∧ S.1 ≤ 1536 ∧ S.2.1 = cntM (kd7 m) N ∧ GL S N
theorem CQ_of {V : vM} {m : Nat → Int32} {N : Nat} {t : Int32} (h : CS V m N t) : ∃ S fb, CQ V m N t S fb := by
  have hw := h.1.2.2.1
  obtain ⟨fb, hG⟩ := fall_GI hw t N (Nat.le_refl _)
  obtain ⟨-, g2, g3, -⟩ := fall_ok hw t N (Nat.le_refl _)
  have hc := cntM_le (kd7 m) N
  have hN := hw.1
  exact ⟨fall m t N, fb, h, rfl, hG, by omega, by omega, g3, fall_GL hw t N (Nat.le_refl _)⟩
theorem CQ.aft {V U : vM} {m : Nat → Int32} {N : Nat} {t : Int32} {S : FS} {fb : Nat → Nat} (h : CQ V m N t S fb) (hU : FRC U (fall m t N) ∧ U 0 12 = 0 ∧ frQ V U) : CQ U m N t S fb := ⟨h.1.aft hU, h.2⟩
/-- model state with its flattening -/
def MZ (V : vM) (m : Nat → Int32) (N : Nat) (t : Int32) (S : FS) (fb : Nat → Nat) : Prop := WF m N ∧ V 50 = m ∧ m 168 = nI N ∧ m 169 = t ∧ fall m t N = S ∧ GI S fb ∧ S.2.1 ≤ 24 ∧ S.1 ≤ 1536 ∧ S.2.1 = cntM (kd7 m) N ∧ GL S N
theorem MZ.aft {V U : vM} {m : Nat → Int32} {N : Nat} {t : Int32} {S : FS} {fb : Nat → Nat} (h : MZ V m N t S fb) (hU : FRM U (fall m t N) N ∧ U 65 (fall m t N).2.1 = nI (fall m t N).1 ∧ frM V U) : MZ U m N t S fb := ⟨h.1, by funext j; rw [hU.2.2 50 j (by omega) (by omega), h.2.1], h.2.2⟩
theorem frM.refl (V : vM) : frM V V := fun _ _ _ _ => rfl
def vtxZ (S : FS) (fb : Nat → Nat) (c v what : Int32) : Int32 := if 0 ≤ c ∧ c < nI S.2.1 then (if 0 ≤ v ∧ v < nI (fb (c.toNatClampNeg + 1) - fb c.toNatClampNeg) then verN S (fb c.toNatClampNeg + v.toNatClampNeg) what else -1000001) else -1000001
theorem vtxZ_no {S : FS} {fb : Nat → Nat} {c v what : Int32} (h : ¬ (0 ≤ c ∧ c < nI S.2.1)) : vtxZ S fb c v what = -1000001 := if_neg h
theorem vtxZ_k {S : FS} {fb : Nat → Nat} {c v what : Int32} {k : Nat} (h24 : S.2.1 ≤ 24) (hk : c = nI k) (hS : k < S.2.1) : vtxZ S fb c v what = if 0 ≤ v ∧ v < nI (fb (k + 1) - fb k) then verN S (fb k + v.toNatClampNeg) what else -1000001 := by
  unfold vtxZ
  rw [hk, if_pos (nI_bt (by omega) hS), nI_clamp (by omega)]
theorem vtxZ_v {S : FS} {fb : Nat → Nat} {c v what : Int32} {k w : Nat} (h24 : S.2.1 ≤ 24) (hk : c = nI k) (hS : k < S.2.1) (hn : fb (k + 1) - fb k < 2 ^ 31) (hv : v = nI w) (hw : w < fb (k + 1) - fb k) : vtxZ S fb c v what = verN S (fb k + w) what := by
  rw [vtxZ_k h24 hk hS, hv, if_pos (nI_bt hn hw), nI_clamp (by omega)]
set_option maxHeartbeats 1000000 in
set_option maxRecDepth 100000 in
theorem mX9_vertex {g : gX} {V : vM} {m : Nat → Int32} {N : Nat} {t : Int32} {S : FS} {fb : Nat → Nat} (hCQ : CQ V m N t S fb) (c v what : Int32) : MM g jX9_vertex V [.ref (g.2.1 0), .int c, .int v, .int what] (eI (fun z U => z = vtxZ S fb c v what ∧ CQ U m N t S fb ∧ frQ V U)) := by
  refine MM.of plX9_vertex (Nat.le_of_ble_eq_true rfl) ?_
  obtain ⟨Q, hQ⟩ : ∃ Q : Option Value → vM → Prop, Q = (eI (fun z U => z = vtxZ S fb c v what ∧ CQ U m N t S fb ∧ frQ V U)) := ⟨_, rfl⟩
  rw [← hQ]
  show XX g jX9_vertex Q V 0 [(0, .ref (g.2.1 0)), (1, .int c), (2, .int v), (3, .int what)] []
  obtain ⟨hC, hS, hG, h24, h15, hcn, hL⟩ := id hCQ
  have hP0 := hC.1
  have hV13 : V 1 3 = nI S.2.1 := by rw [hP0.2.1, hcn]
  have hN24 := hP0.2.2.1.1
  have hcl := cntM_le (kd7 m) N
  refine x_aload_n dX9_vertex_0 0 rfl ?_
  refine x_iload_n dX9_vertex_1 1 rfl ?_
  refine x_callV (K := jX9_isContour) [.int c] lk_X9_133 ⟨⟨rfl, rfl⟩, Nat.le_of_ble_eq_true rfl, Nat.le_of_ble_eq_true rfl⟩ rfl rfl (by have := mX9_isContour (g := g) V c; rw [hV13] at this; exact this) rfl (Nat.le_of_ble_eq_true rfl) rfl dX9_vertex_2 (kpI ?_)
  refine x_if_ne 11 dX9_vertex_5 (by decide) (fun c1 => ?_) (fun c1 => ?_)
  · have c1n : (0 ≤ c ∧ c < nI S.2.1) := Classical.not_not.mp (fun q => c1 (iB_0.mpr q))
    obtain ⟨k, hk0, hkS⟩ := nI_ex (c := c) (n := S.2.1) (by omega) (by assumption)
    refine YY.L (lv' := [(0, .ref (g.2.1 0)), (1, .int (nI k)), (2, .int v), (3, .int what)]) (by rw [hk0]) ?_
    have hkb := hG.bd (j := k + 1) (by omega)
    have hkl := (hG.2.2.2 k hkS).1
    refine x_aload_n dX9_vertex_11 0 rfl ?_
    refine x_callV (K := jX9_flattened) [] lk_X9_118 ⟨⟨rfl, rfl⟩, Nat.le_of_ble_eq_true rfl, Nat.le_of_ble_eq_true rfl⟩ rfl rfl (mX9_flattened hC) rfl (Nat.le_of_ble_eq_true rfl) rfl dX9_vertex_12 (keR fun U2 hU3 => ?_)
    have hCQ2 := hCQ.aft hU3
    have hFr := hU3.2.2
    have hF : FRC U2 S := by rw [← hS]; exact hU3.1
    have hPU := hCQ2.1.1
    have hU13 : U2 1 3 = nI (S.2.1) := by rw [hPU.2.1, hcn]
    refine x_astore 4 [(4, .ref (g.2.1 6)), (0, .ref (g.2.1 0)), (1, .int (nI k)), (2, .int v), (3, .int what)] dX9_vertex_15 (by decide) rfl ?_
    refine x_iload_n dX9_vertex_17 3 rfl ?_
    refine x_if_lt 34 dX9_vertex_18 (by decide) (fun c4 => ?_) (fun c4 => ?_)
    · refine x_ldc ct_X9_111 dX9_vertex_34 ?_
      refine x_iret dX9_vertex_36 rfl ?_
      rw [hQ]
      first
        | exact ⟨_, rfl, (vtxZ_v h24 hk0 hkS (by omega) hw0 hwS).symm, hCQ2, hFr⟩
        | exact ⟨_, rfl, by rw [vtxZ_k h24 hk0 hkS, if_neg (fun q => by grind)], hCQ2, hFr⟩
        | exact ⟨_, rfl, (vtxZ_no (by assumption)).symm, hCQ, frQ.refl V⟩
    · refine x_iload_n dX9_vertex_21 3 rfl ?_
      refine x_aload dX9_vertex_22 0 rfl ?_
      refine x_iload_n dX9_vertex_24 2 rfl ?_
      refine x_iload_n dX9_vertex_25 2 rfl ?_
      refine x_iconst (v := 1) dX9_vertex_26 (by decide) ?_
      refine x_iadd dX9_vertex_27 ?_
      have q5 : ((nI k) + 1 : Int32) = nI (k + 1) := nadd (rfl) (rfl)
      refine YY.S (st' := [.int (nI (k + 1)), .int (nI k), .ref (g.2.1 6), .int v]) (by rw [q5]) ?_
      refine x_callV (K := jX1_verticesIn) [.int (nI k), .int (nI (k + 1))] lk_X9_177 ⟨⟨rfl, rfl⟩, Nat.le_of_ble_eq_true rfl, Nat.le_of_ble_eq_true rfl⟩ rfl rfl (mX1_verticesIn hF hG h24 h15 k 1 (by omega)) rfl (Nat.le_of_ble_eq_true rfl) rfl dX9_vertex_28 (kpI ?_)
      refine x_icmp_lt 37 dX9_vertex_31 (by decide) (fun c6 => ?_) (fun c6 => ?_)
      · obtain ⟨w, hw0, hwS⟩ := nI_ex (c := v) (n := fb (k + 1) - fb k) (by omega) (⟨Int32.not_lt.mp (by assumption), by assumption⟩)
        refine YY.L (lv' := [(4, .ref (g.2.1 6)), (0, .ref (g.2.1 0)), (1, .int (nI k)), (2, .int (nI w)), (3, .int what)]) (by rw [hw0]) ?_
        refine x_aload dX9_vertex_37 0 rfl ?_
        refine x_aload dX9_vertex_39 0 rfl ?_
        refine x_iload_n dX9_vertex_41 2 rfl ?_
        refine x_callV (K := jX1_firstOf) [.int (nI k)] lk_X9_190 ⟨⟨rfl, rfl⟩, Nat.le_of_ble_eq_true rfl, Nat.le_of_ble_eq_true rfl⟩ rfl rfl (mX1_firstOf hF hG h24 h15 k (by omega)) rfl (Nat.le_of_ble_eq_true rfl) rfl dX9_vertex_42 (kpI ?_)
        refine x_iload_n dX9_vertex_45 3 rfl ?_
        refine x_iadd dX9_vertex_46 ?_
        refine x_iload_n dX9_vertex_47 4 rfl ?_
        have q7 : ((nI (fb k)) + (nI w) : Int32) = nI ((fb k) + w) := nadd (rfl) (rfl)
        refine YY.S (st' := [.int what, .int (nI ((fb k) + w)), .ref (g.2.1 6)]) (by rw [q7]) ?_
        refine x_callV (K := jX1_vertexNumber) [.int (nI ((fb k) + w)), .int what] lk_X9_191 ⟨⟨rfl, rfl⟩, Nat.le_of_ble_eq_true rfl, Nat.le_of_ble_eq_true rfl⟩ rfl rfl (mX1_vertexNumber hF hG h24 h15 ((fb k) + w) (by omega) what) rfl (Nat.le_of_ble_eq_true rfl) rfl dX9_vertex_48 (kpI ?_)
        refine x_iret dX9_vertex_51 rfl ?_
        rw [hQ]
        first
          | exact ⟨_, rfl, (vtxZ_v h24 hk0 hkS (by omega) hw0 hwS).symm, hCQ2, hFr⟩
          | exact ⟨_, rfl, by rw [vtxZ_k h24 hk0 hkS, if_neg (fun q => by grind)], hCQ2, hFr⟩
          | exact ⟨_, rfl, (vtxZ_no (by assumption)).symm, hCQ, frQ.refl V⟩
      · refine x_ldc ct_X9_111 dX9_vertex_34 ?_
        refine x_iret dX9_vertex_36 rfl ?_
        rw [hQ]
        first
          | exact ⟨_, rfl, (vtxZ_v h24 hk0 hkS (by omega) hw0 hwS).symm, hCQ2, hFr⟩
          | exact ⟨_, rfl, by rw [vtxZ_k h24 hk0 hkS, if_neg (fun q => by grind)], hCQ2, hFr⟩
          | exact ⟨_, rfl, (vtxZ_no (by assumption)).symm, hCQ, frQ.refl V⟩
  · have c1n : ¬ (0 ≤ c ∧ c < nI S.2.1) := iB_0.mp c1
    refine x_ldc ct_X9_111 dX9_vertex_8 ?_
    refine x_iret dX9_vertex_10 rfl ?_
    rw [hQ]
    first
      | exact ⟨_, rfl, (vtxZ_v h24 hk0 hkS (by omega) hw0 hwS).symm, hCQ2, hFr⟩
      | exact ⟨_, rfl, by rw [vtxZ_k h24 hk0 hkS, if_neg (fun q => by grind)], hCQ2, hFr⟩
      | exact ⟨_, rfl, (vtxZ_no (by assumption)).symm, hCQ, frQ.refl V⟩
theorem nI_le_lt {v : Int32} {n : Nat} (hn : n < 2 ^ 31) (h0 : 0 < n) (h : v ≤ nI (n - 1)) : v < nI n := by
  have h1 := Int32.le_iff_toInt_le.mp h
  rw [nI_toInt (by omega)] at h1
  rw [Int32.lt_iff_toInt_lt, nI_toInt hn]
  omega
theorem nI_lt_le {v : Int32} {n : Nat} (hn : n < 2 ^ 31) (h : v < nI n) : v ≤ nI (n - 1) := by
  have h1 := Int32.lt_iff_toInt_lt.mp h
  rw [nI_toInt hn] at h1
  rw [Int32.le_iff_toInt_le]
  by_cases q : n = 0
  · subst q; exact Int.le_of_lt (by rw [nI_toInt (by omega)]; omega)
  · rw [nI_toInt (by omega)]; omega
set_option maxHeartbeats 1000000 in
set_option maxRecDepth 100000 in
theorem mX10_vertex {g : gX} {V : vM} {m : Nat → Int32} {N : Nat} {t : Int32} {S : FS} {fb : Nat → Nat} (hMQ : MZ V m N t S fb) (c v what : Int32) : MM g jX10_vertex V [.ref (g.2.1 49), .int c, .int v, .int what] (eI (fun z U => z = vtxZ S fb c v what ∧ MZ U m N t S fb ∧ frM V U)) := by
  refine MM.of plX10_vertex (Nat.le_of_ble_eq_true rfl) ?_
  obtain ⟨Q, hQ⟩ : ∃ Q : Option Value → vM → Prop, Q = (eI (fun z U => z = vtxZ S fb c v what ∧ MZ U m N t S fb ∧ frM V U)) := ⟨_, rfl⟩
  rw [← hQ]
  show XX g jX10_vertex Q V 0 [(0, .ref (g.2.1 49)), (1, .int c), (2, .int v), (3, .int what)] []
  obtain ⟨hw, hm50, hN8, ht9, hS, hG, h24, h15, hcn, hL⟩ := id hMQ
  have hN24 := hw.1
  have hcl := cntM_le (kd7 m) N
  refine x_aload_n dX10_vertex_0 0 rfl ?_
  refine x_iload_n dX10_vertex_1 1 rfl ?_
  refine x_callV (K := jX10_isContour) [.int c] lk_X10_123 ⟨⟨rfl, rfl⟩, Nat.le_of_ble_eq_true rfl, Nat.le_of_ble_eq_true rfl⟩ rfl rfl (by have := mX10_isContour (g := g) V N hw.1 (by rw [hm50]; exact hN8) (by rw [hm50]; exact hw) c; rw [hm50, ← hcn] at this; exact this) rfl (Nat.le_of_ble_eq_true rfl) rfl dX10_vertex_2 (kpI ?_)
  refine x_if_ne 11 dX10_vertex_5 (by decide) (fun c1 => ?_) (fun c1 => ?_)
  · have c1n : (0 ≤ c ∧ c < nI S.2.1) := Classical.not_not.mp (fun q => c1 (iB_0.mpr q))
    obtain ⟨k, hk0, hkS⟩ := nI_ex (c := c) (n := S.2.1) (by omega) (by assumption)
    refine YY.L (lv' := [(0, .ref (g.2.1 49)), (1, .int (nI k)), (2, .int v), (3, .int what)]) (by rw [hk0]) ?_
    have hkb := hG.bd (j := k + 1) (by omega)
    have hkl := (hG.2.2.2 k hkS).1
    refine x_aload_n dX10_vertex_11 0 rfl ?_
    refine x_callV (K := jX10_flatten) [] lk_X10_111 ⟨⟨rfl, rfl⟩, Nat.le_of_ble_eq_true rfl, Nat.le_of_ble_eq_true rfl⟩ rfl rfl (mX10_flatten V hw hm50 hN8 t ht9) rfl (Nat.le_of_ble_eq_true rfl) rfl dX10_vertex_12 (keV fun U2 hU3 => ?_)
    have hMQ2 := hMQ.aft hU3
    have hFr := hU3.2.2
    have hF : FRM U2 S N := by rw [← hS]; exact hU3.1
    have hE : U2 65 S.2.1 = nI S.1 := by rw [← hS]; exact hU3.2.1
    have hmU := hMQ2.2.1
    refine x_iload_n dX10_vertex_15 2 rfl ?_
    refine x_iconst (v := 0) dX10_vertex_16 (by decide) ?_
    refine x_aload_n dX10_vertex_17 0 rfl ?_
    refine x_iload_n dX10_vertex_18 1 rfl ?_
    refine x_callV (K := jX10_verticesOf) [.int (nI k)] lk_X10_245 ⟨⟨rfl, rfl⟩, Nat.le_of_ble_eq_true rfl, Nat.le_of_ble_eq_true rfl⟩ rfl rfl (mX10_verticesOf hF hE hG h24 h15 k (by omega)) rfl (Nat.le_of_ble_eq_true rfl) rfl dX10_vertex_19 (kpI ?_)
    refine x_iconst (v := 1) dX10_vertex_22 (by decide) ?_
    refine x_isub dX10_vertex_23 ?_
    refine x_topi (y := nI (fb (k + 1) - fb k - 1)) (nsub (a := fb (k + 1) - fb k) (b := 1) (by omega) rfl rfl) ?_
    refine x_callS (K := jX10_in) [.int v, .int 0, .int (nI (fb (k + 1) - fb k - 1))] lk_X10_80 ⟨⟨rfl, rfl⟩, Nat.le_of_ble_eq_true rfl, Nat.le_of_ble_eq_true rfl⟩ (mX10_in U2 v 0 (nI (fb (k + 1) - fb k - 1))) rfl (Nat.le_of_ble_eq_true rfl) rfl dX10_vertex_24 (kpI ?_)
    refine x_if_ne 33 dX10_vertex_27 (by decide) (fun c4 => ?_) (fun c4 => ?_)
    · have c4n : (0 ≤ v ∧ v ≤ (nI (fb (k + 1) - fb k - 1))) := Classical.not_not.mp (fun q => c4 (iB_0.mpr q))
      refine x_iload_n dX10_vertex_33 3 rfl ?_
      refine x_iconst (v := 0) dX10_vertex_34 (by decide) ?_
      refine x_iconst (v := 2) dX10_vertex_35 (by decide) ?_
      refine x_callS (K := jX10_in) [.int what, .int 0, .int 2] lk_X10_80 ⟨⟨rfl, rfl⟩, Nat.le_of_ble_eq_true rfl, Nat.le_of_ble_eq_true rfl⟩ (mX10_in U2 what 0 2) rfl (Nat.le_of_ble_eq_true rfl) rfl dX10_vertex_36 (kpI ?_)
      refine x_if_ne 45 dX10_vertex_39 (by decide) (fun c5 => ?_) (fun c5 => ?_)
      · have c5n : (0 ≤ what ∧ what ≤ 2) := Classical.not_not.mp (fun q => c5 (iB_0.mpr q))
        have hle : v ≤ nI (fb (k + 1) - fb k - 1) := (show 0 ≤ v ∧ v ≤ nI (fb (k + 1) - fb k - 1) by assumption).2
        obtain ⟨w, hw0, hwS⟩ := nI_ex (c := v) (n := fb (k + 1) - fb k) (by omega) (⟨(show 0 ≤ v ∧ v ≤ nI (fb (k + 1) - fb k - 1) by assumption).1, nI_le_lt (by omega) (by omega) hle⟩)
        refine YY.L (lv' := [(0, .ref (g.2.1 49)), (1, .int (nI k)), (2, .int (nI w)), (3, .int what)]) (by rw [hw0]) ?_
        have hUk : U2 65 k = nI (fb k) := hF.bo hE hG (by omega)
        obtain ⟨hx1, hx2, hx3⟩ := hF.2.2.1 (fb k + w) (by omega)
        refine x_aload_n dX10_vertex_45 0 rfl ?_
        refine x_getR fl_X10_56 rfl rfl dX10_vertex_46 ?_
        refine x_iload_n dX10_vertex_49 1 rfl ?_
        have b6 : vp_in (nI k) 26 := by exact vp_in_nI (by omega) (by decide)
        refine x_iald rfl b6 dX10_vertex_50 ?_
        refine x_topi (y := U2 65 k) (by rw [nI_clamp (by omega)]) ?_
        refine x_topi (hUk) ?_
        refine x_iload_n dX10_vertex_51 2 rfl ?_
        refine x_iadd dX10_vertex_52 ?_
        refine x_istore 4 [(4, .int ((nI (fb k)) + (nI w))), (0, .ref (g.2.1 49)), (1, .int (nI k)), (2, .int (nI w)), (3, .int what)] dX10_vertex_53 (by decide) rfl ?_
        refine x_iload_n dX10_vertex_55 4 rfl ?_
        refine x_if_ne 69 dX10_vertex_56 (by decide) (fun c7 => ?_) (fun c7 => ?_)
        · refine x_iload_n dX10_vertex_69 4 rfl ?_
          refine x_iconst (v := 1) dX10_vertex_70 (by decide) ?_
          refine x_icmp_ne 84 dX10_vertex_71 (by decide) (fun c8 => ?_) (fun c8 => ?_)
          · refine x_aload_n dX10_vertex_84 1 rfl ?_
            refine x_getR fl_X10_53 rfl rfl dX10_vertex_85 ?_
            refine x_iload dX10_vertex_88 0 rfl ?_
            have q9 : ((nI (fb k)) + (nI w) : Int32) = nI ((fb k) + w) := nadd (rfl) (rfl)
            refine YY.S (st' := [.int (nI ((fb k) + w)), .ref (g.2.1 64)]) (by rw [q9]) ?_
            have b10 : vp_in (nI ((fb k) + w)) 1700 := by exact vp_in_nI (by omega) (by decide)
            refine x_iald rfl b10 dX10_vertex_90 ?_
            refine x_topi (y := U2 64 ((fb k) + w)) (by rw [nI_clamp (by omega)]) ?_
            refine x_iret dX10_vertex_91 rfl ?_
            rw [hQ]
            first
              | exact ⟨_, rfl, (vtxZ_no (by assumption)).symm, hMQ, frM.refl V⟩
              | (refine ⟨_, rfl, ?_, hMQ2, hFr⟩
                 rw [vtxZ_v h24 hk0 hkS (by omega) hw0 hwS]
                 unfold verN
                 first | rw [if_pos (by assumption), hx1] | rw [if_neg (by assumption), if_pos (by assumption), hx2] | rw [if_neg (by assumption), if_neg (by assumption), if_pos (by grind), hx3])
              | (have hle : 0 ≤ v ∧ v ≤ nI (fb (k + 1) - fb k - 1) := by assumption
                 obtain ⟨w, hw0, hwS⟩ := nI_ex (c := v) (n := fb (k + 1) - fb k) (by omega) ⟨hle.1, nI_le_lt (by omega) (by omega) hle.2⟩
                 refine ⟨_, rfl, ?_, hMQ2, hFr⟩
                 rw [vtxZ_v h24 hk0 hkS (by omega) hw0 hwS]
                 unfold verN
                 rw [if_neg (by grind), if_neg (by grind), if_neg (by grind)])
              | (refine ⟨_, rfl, ?_, hMQ2, hFr⟩
                 rw [vtxZ_k h24 hk0 hkS]
                 by_cases q : 0 ≤ v ∧ v < nI (fb (k + 1) - fb k)
                 · obtain ⟨w, hw0, hw0S⟩ := nI_ex (by omega) q
                   exact absurd (show 0 ≤ v ∧ v ≤ nI (fb (k + 1) - fb k - 1) from ⟨q.1, nI_lt_le (by omega) q.2⟩) (by assumption)
                 · rw [if_neg q])
          · refine x_aload_n dX10_vertex_74 1 rfl ?_
            refine x_getR fl_X10_50 rfl rfl dX10_vertex_75 ?_
            refine x_iload dX10_vertex_78 0 rfl ?_
            have q11 : ((nI (fb k)) + (nI w) : Int32) = nI ((fb k) + w) := nadd (rfl) (rfl)
            refine YY.S (st' := [.int (nI ((fb k) + w)), .ref (g.2.1 63)]) (by rw [q11]) ?_
            have b12 : vp_in (nI ((fb k) + w)) 1700 := by exact vp_in_nI (by omega) (by decide)
            refine x_iald rfl b12 dX10_vertex_80 ?_
            refine x_topi (y := U2 63 ((fb k) + w)) (by rw [nI_clamp (by omega)]) ?_
            refine x_goto 91 dX10_vertex_81 (by decide) ?_
            refine x_iret dX10_vertex_91 rfl ?_
            rw [hQ]
            first
              | exact ⟨_, rfl, (vtxZ_no (by assumption)).symm, hMQ, frM.refl V⟩
              | (refine ⟨_, rfl, ?_, hMQ2, hFr⟩
                 rw [vtxZ_v h24 hk0 hkS (by omega) hw0 hwS]
                 unfold verN
                 first | rw [if_pos (by assumption), hx1] | rw [if_neg (by assumption), if_pos (by assumption), hx2] | rw [if_neg (by assumption), if_neg (by assumption), if_pos (by grind), hx3])
              | (have hle : 0 ≤ v ∧ v ≤ nI (fb (k + 1) - fb k - 1) := by assumption
                 obtain ⟨w, hw0, hwS⟩ := nI_ex (c := v) (n := fb (k + 1) - fb k) (by omega) ⟨hle.1, nI_le_lt (by omega) (by omega) hle.2⟩
                 refine ⟨_, rfl, ?_, hMQ2, hFr⟩
                 rw [vtxZ_v h24 hk0 hkS (by omega) hw0 hwS]
                 unfold verN
                 rw [if_neg (by grind), if_neg (by grind), if_neg (by grind)])
              | (refine ⟨_, rfl, ?_, hMQ2, hFr⟩
                 rw [vtxZ_k h24 hk0 hkS]
                 by_cases q : 0 ≤ v ∧ v < nI (fb (k + 1) - fb k)
                 · obtain ⟨w, hw0, hw0S⟩ := nI_ex (by omega) q
                   exact absurd (show 0 ≤ v ∧ v ≤ nI (fb (k + 1) - fb k - 1) from ⟨q.1, nI_lt_le (by omega) q.2⟩) (by assumption)
                 · rw [if_neg q])
        · refine x_aload_n dX10_vertex_59 1 rfl ?_
          refine x_getR fl_X10_47 rfl rfl dX10_vertex_60 ?_
          refine x_iload dX10_vertex_63 0 rfl ?_
          have q13 : ((nI (fb k)) + (nI w) : Int32) = nI ((fb k) + w) := nadd (rfl) (rfl)
          refine YY.S (st' := [.int (nI ((fb k) + w)), .ref (g.2.1 62)]) (by rw [q13]) ?_
          have b14 : vp_in (nI ((fb k) + w)) 1700 := by exact vp_in_nI (by omega) (by decide)
          refine x_iald rfl b14 dX10_vertex_65 ?_
          refine x_topi (y := U2 62 ((fb k) + w)) (by rw [nI_clamp (by omega)]) ?_
          refine x_goto 91 dX10_vertex_66 (by decide) ?_
          refine x_iret dX10_vertex_91 rfl ?_
          rw [hQ]
          first
            | exact ⟨_, rfl, (vtxZ_no (by assumption)).symm, hMQ, frM.refl V⟩
            | (refine ⟨_, rfl, ?_, hMQ2, hFr⟩
               rw [vtxZ_v h24 hk0 hkS (by omega) hw0 hwS]
               unfold verN
               first | rw [if_pos (by assumption), hx1] | rw [if_neg (by assumption), if_pos (by assumption), hx2] | rw [if_neg (by assumption), if_neg (by assumption), if_pos (by grind), hx3])
            | (have hle : 0 ≤ v ∧ v ≤ nI (fb (k + 1) - fb k - 1) := by assumption
               obtain ⟨w, hw0, hwS⟩ := nI_ex (c := v) (n := fb (k + 1) - fb k) (by omega) ⟨hle.1, nI_le_lt (by omega) (by omega) hle.2⟩
               refine ⟨_, rfl, ?_, hMQ2, hFr⟩
               rw [vtxZ_v h24 hk0 hkS (by omega) hw0 hwS]
               unfold verN
               rw [if_neg (by grind), if_neg (by grind), if_neg (by grind)])
            | (refine ⟨_, rfl, ?_, hMQ2, hFr⟩
               rw [vtxZ_k h24 hk0 hkS]
               by_cases q : 0 ≤ v ∧ v < nI (fb (k + 1) - fb k)
               · obtain ⟨w, hw0, hw0S⟩ := nI_ex (by omega) q
                 exact absurd (show 0 ≤ v ∧ v ≤ nI (fb (k + 1) - fb k - 1) from ⟨q.1, nI_lt_le (by omega) q.2⟩) (by assumption)
               · rw [if_neg q])
      · have c5n : ¬ (0 ≤ what ∧ what ≤ 2) := iB_0.mp c5
        refine x_ldc ct_X10_88 dX10_vertex_42 ?_
        refine x_iret dX10_vertex_44 rfl ?_
        rw [hQ]
        first
          | exact ⟨_, rfl, (vtxZ_no (by assumption)).symm, hMQ, frM.refl V⟩
          | (refine ⟨_, rfl, ?_, hMQ2, hFr⟩
             rw [vtxZ_v h24 hk0 hkS (by omega) hw0 hwS]
             unfold verN
             first | rw [if_pos (by assumption), hx1] | rw [if_neg (by assumption), if_pos (by assumption), hx2] | rw [if_neg (by assumption), if_neg (by assumption), if_pos (by grind), hx3])
          | (have hle : 0 ≤ v ∧ v ≤ nI (fb (k + 1) - fb k - 1) := by assumption
             obtain ⟨w, hw0, hwS⟩ := nI_ex (c := v) (n := fb (k + 1) - fb k) (by omega) ⟨hle.1, nI_le_lt (by omega) (by omega) hle.2⟩
             refine ⟨_, rfl, ?_, hMQ2, hFr⟩
             rw [vtxZ_v h24 hk0 hkS (by omega) hw0 hwS]
             unfold verN
             rw [if_neg (by grind), if_neg (by grind), if_neg (by grind)])
          | (refine ⟨_, rfl, ?_, hMQ2, hFr⟩
             rw [vtxZ_k h24 hk0 hkS]
             by_cases q : 0 ≤ v ∧ v < nI (fb (k + 1) - fb k)
             · obtain ⟨w, hw0, hw0S⟩ := nI_ex (by omega) q
               exact absurd (show 0 ≤ v ∧ v ≤ nI (fb (k + 1) - fb k - 1) from ⟨q.1, nI_lt_le (by omega) q.2⟩) (by assumption)
             · rw [if_neg q])
    · have c4n : ¬ (0 ≤ v ∧ v ≤ (nI (fb (k + 1) - fb k - 1))) := iB_0.mp c4
      refine x_ldc ct_X10_107 dX10_vertex_30 ?_
      refine x_iret dX10_vertex_32 rfl ?_
      rw [hQ]
      first
        | exact ⟨_, rfl, (vtxZ_no (by assumption)).symm, hMQ, frM.refl V⟩
        | (refine ⟨_, rfl, ?_, hMQ2, hFr⟩
           rw [vtxZ_v h24 hk0 hkS (by omega) hw0 hwS]
           unfold verN
           first | rw [if_pos (by assumption), hx1] | rw [if_neg (by assumption), if_pos (by assumption), hx2] | rw [if_neg (by assumption), if_neg (by assumption), if_pos (by grind), hx3])
        | (have hle : 0 ≤ v ∧ v ≤ nI (fb (k + 1) - fb k - 1) := by assumption
           obtain ⟨w, hw0, hwS⟩ := nI_ex (c := v) (n := fb (k + 1) - fb k) (by omega) ⟨hle.1, nI_le_lt (by omega) (by omega) hle.2⟩
           refine ⟨_, rfl, ?_, hMQ2, hFr⟩
           rw [vtxZ_v h24 hk0 hkS (by omega) hw0 hwS]
           unfold verN
           rw [if_neg (by grind), if_neg (by grind), if_neg (by grind)])
        | (refine ⟨_, rfl, ?_, hMQ2, hFr⟩
           rw [vtxZ_k h24 hk0 hkS]
           by_cases q : 0 ≤ v ∧ v < nI (fb (k + 1) - fb k)
           · obtain ⟨w, hw0, hw0S⟩ := nI_ex (by omega) q
             exact absurd (show 0 ≤ v ∧ v ≤ nI (fb (k + 1) - fb k - 1) from ⟨q.1, nI_lt_le (by omega) q.2⟩) (by assumption)
           · rw [if_neg q])
  · have c1n : ¬ (0 ≤ c ∧ c < nI S.2.1) := iB_0.mp c1
    refine x_ldc ct_X10_107 dX10_vertex_8 ?_
    refine x_iret dX10_vertex_10 rfl ?_
    rw [hQ]
    first
      | exact ⟨_, rfl, (vtxZ_no (by assumption)).symm, hMQ, frM.refl V⟩
      | (refine ⟨_, rfl, ?_, hMQ2, hFr⟩
         rw [vtxZ_v h24 hk0 hkS (by omega) hw0 hwS]
         unfold verN
         first | rw [if_pos (by assumption), hx1] | rw [if_neg (by assumption), if_pos (by assumption), hx2] | rw [if_neg (by assumption), if_neg (by assumption), if_pos (by grind), hx3])
      | (have hle : 0 ≤ v ∧ v ≤ nI (fb (k + 1) - fb k - 1) := by assumption
         obtain ⟨w, hw0, hwS⟩ := nI_ex (c := v) (n := fb (k + 1) - fb k) (by omega) ⟨hle.1, nI_le_lt (by omega) (by omega) hle.2⟩
         refine ⟨_, rfl, ?_, hMQ2, hFr⟩
         rw [vtxZ_v h24 hk0 hkS (by omega) hw0 hwS]
         unfold verN
         rw [if_neg (by grind), if_neg (by grind), if_neg (by grind)])
      | (refine ⟨_, rfl, ?_, hMQ2, hFr⟩
         rw [vtxZ_k h24 hk0 hkS]
         by_cases q : 0 ≤ v ∧ v < nI (fb (k + 1) - fb k)
         · obtain ⟨w, hw0, hw0S⟩ := nI_ex (by omega) q
           exact absurd (show 0 ≤ v ∧ v ≤ nI (fb (k + 1) - fb k - 1) from ⟨q.1, nI_lt_le (by omega) q.2⟩) (by assumption)
         · rw [if_neg q])
