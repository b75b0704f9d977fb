theorem q_a {S : FS} {i : Nat} {x y : Int32} (hs : sgm S i) (h : ¬ 0 ≤ pt64 S i x y) : 0 = q64 S i x y := by
  have h1 := (wh_i hs).2.1
  have n1 : ¬ 0 < pt64 S i x y := fun q => h (Int64.le_of_lt q)
  unfold q64
  rw [if_neg n1, if_neg]
  intro q
  rw [Int64.lt_iff_toInt_lt, show (0 : Int64).toInt = 0 from rfl] at q
  omega
theorem q_bc {S : FS} {i : Nat} {x y : Int32} (hs : sgm S i) (h : 0 ≤ pt64 S i x y) : (pt64 S i x y ≤ wh64 S i → pt64 S i x y = q64 S i x y) ∧ (¬ pt64 S i x y ≤ wh64 S i → wh64 S i = q64 S i x y) := by
  have h1 := (wh_i hs).2.1
  have z : (0 : Int64).toInt = 0 := rfl
  have hm : (if 0 < pt64 S i x y then pt64 S i x y else 0) = pt64 S i x y := by
    by_cases q : 0 < pt64 S i x y
    · rw [if_pos q]
    · rw [if_neg q]
      apply Int64.toInt_inj.mp
      rw [Int64.lt_iff_toInt_lt] at q
      rw [Int64.le_iff_toInt_le] at h
      omega
  unfold q64
  rw [hm]
  exact ⟨fun q => by rw [if_neg (Int64.not_lt.mpr q)], fun q => by rw [if_pos (Int64.not_le.mp q)]⟩
def NM (S : FS) (x y : Int32) (T : Nat × Nat × Int32) (b bx b2 : Int64) (sn : Int32) : Prop := (T = (0, 0, 2147483647) ∧ b = -1) ∨ (nsV S x y T ∧ b = T.2.2.toInt64 ∧ bx = (npt S 0 T.1 x y).toInt64 ∧ b2 = (npt S 1 T.1 x y).toInt64 ∧ sn = nI T.1 - 1 - nI T.2.1)
theorem NM_up {S : FS} {x y : Int32} (hx : inR x) (hy : inR y) {z : Nat × Nat × Int32} {c p j : Nat} (hc : c < 24) {b bx b2 : Int64} {sn : Int32} (h : NM S x y (nsI S x y z c p j) b bx b2 sn) (hs : sgm S (p + j + 1)) (hi : p + j + 1 < S.1) (hlt : b < 0 ∨ nsq64 S (p + j + 1) x y < b) : NM S x y (nsI S x y z c p (j + 1)) (nsq64 S (p + j + 1) x y) (np64 S 0 (p + j + 1) x y) (np64 S 1 (p + j + 1) x y) (nI (p + j) - nI c) := by
  obtain ⟨e, n0, n1⟩ := nsq_i hs hx hy
  have ei : p + 1 + j = p + j + 1 := by omega
  have lt : nsqr S (p + 1 + j) x y < (nsI S x y z c p j).2.2 := by
    rw [ei]
    rcases h with ⟨h1, -⟩ | ⟨hv, h2, -⟩
    · rw [h1, Int32.lt_iff_toInt_lt, show ((0, 0, 2147483647) : Nat × Nat × Int32).2.2.toInt = 2147483647 from rfl]
      omega
    · rcases hlt with q | q
      · exfalso
        have hv2 := hv.2.2.2.2
        obtain ⟨-, m0, -⟩ := nsq_i hv.2.2.1 hx hy
        rw [h2, hv2, Int64.lt_iff_toInt_lt, Int32.toInt_toInt64, show (0 : Int64).toInt = 0 from rfl] at q
        omega
      · rw [e, h2] at q
        exact i64lt.mp q
  rw [ns_t lt, ei]
  refine Or.inr ⟨⟨by show 1 ≤ p + j + 1; omega, hi, hs, hc, rfl⟩, e, (npt_i hs (Or.inl rfl) x y).1, (npt_i hs (Or.inr rfl) x y).1, ?_⟩
  show nI (p + j) - nI c = nI (p + j + 1) - 1 - nI c
  rw [nI_s1 (by omega), Nat.add_sub_cancel]
theorem NM_no {S : FS} {x y : Int32} (hx : inR x) (hy : inR y) {z : Nat × Nat × Int32} {c p j : Nat} {b bx b2 : Int64} {sn : Int32} (h : NM S x y (nsI S x y z c p j) b bx b2 sn) (hs : sgm S (p + j + 1)) (h0 : ¬ b < 0) (hlt : ¬ nsq64 S (p + j + 1) x y < b) : NM S x y (nsI S x y z c p (j + 1)) b bx b2 sn := by
  obtain ⟨e, n0, n1⟩ := nsq_i hs hx hy
  have ei : p + 1 + j = p + j + 1 := by omega
  have hv := h
  rcases h with ⟨-, h1⟩ | ⟨-, h2, -⟩
  · rw [h1] at h0
    exact absurd (by decide) h0
  · rw [ns_f]
    · exact hv
    · rw [ei]
      intro q
      rw [e, h2] at hlt
      exact hlt (i64lt.mpr q)
theorem nsO_0 {S : FS} {fb : Nat → Nat} {x y : Int32} (hG : GI S fb) : ∀ k, k ≤ S.2.1 → fb k = k → nsO S fb x y k = (0, 0, 2147483647)
  | 0, _, _ => rfl
  | k + 1, hk, e => by
    have hl := (hG.2.2.2 k (by omega)).1
    have hge := hG.ge k 0 (by omega)
    rw [hG.1, Nat.zero_add] at hge
    show nsI S x y (nsO S fb x y k) k (fb k) (fb (k + 1) - fb k - 1) = _
    rw [show fb (k + 1) - fb k - 1 = 0 by omega]
    exact nsO_0 hG k (by omega) (by omega)
theorem NM_end {S : FS} {fb : Nat → Nat} {x y what : Int32} (hG : GI S fb) (h24 : S.2.1 ≤ 24) (hR : ∀ i, i < S.1 → inR (S.2.2 0 i) ∧ inR (S.2.2 1 i)) (hx : inR x) (hy : inR y) {b bx b2 : Int64} {sn : Int32} (h : NM S x y (nsO S fb x y S.2.1) b bx b2 sn) : (b < 0 → S.1 - S.2.1 = 0) ∧ (¬ b < 0 → ¬ S.1 - S.2.1 = 0 ∧ (what = 0 → bx.toInt32 = nrR S fb x y what) ∧ (what = 1 → b2.toInt32 = nrR S fb x y what) ∧ (what = 2 → sn.toInt64.toInt32 = nrR S fb x y what) ∧ (¬ what = 0 → ¬ what = 1 → ¬ what = 2 → b.toInt32 = nrR S fb x y what)) := by
  have hV := (nsO_V hG h24 hR hx hy S.2.1 (Nat.le_refl _)).2
  have h0 := nsO_0 (x := x) (y := y) hG S.2.1 (Nat.le_refl _)
  rw [hG.2.1] at hV h0
  have hge := hG.ge S.2.1 0 (by omega)
  rw [hG.1, Nat.zero_add, hG.2.1] at hge
  rcases h with ⟨h1, h2⟩ | ⟨h1, h2, h3, h4, h5⟩
  · refine ⟨fun _ => ?_, fun q => absurd (by rw [h2]; decide) q⟩
    by_cases c : S.2.1 < S.1
    · have := (hV c).1
      rw [h1] at this
      exact absurd this (by decide)
    · omega
  · have hb : ¬ b < 0 := by
      obtain ⟨-, m0, -⟩ := nsq_i h1.2.2.1 hx hy
      rw [h2, h1.2.2.2.2, Int64.lt_iff_toInt_lt, Int32.toInt_toInt64, show (0 : Int64).toInt = 0 from rfl]
      omega
    refine ⟨fun q => absurd q hb, fun _ => ⟨fun q => ?_, fun q => ?_, fun q => ?_, fun q => ?_, fun q1 q2 q3 => ?_⟩⟩
    · have := h1.1
      rw [h0 (by omega)] at this
      exact absurd this (by decide)
    · rw [h3, i32_64]; unfold nrR; rw [if_pos q]
    · rw [h4, i32_64]; unfold nrR; rw [if_neg (by rw [q]; decide), if_pos q]
    · rw [h5, i32_64]; unfold nrR; rw [if_neg (by rw [q]; decide), if_neg (by rw [q]; decide), if_pos q]
    · rw [h2, i32_64]; unfold nrR; rw [if_neg q1, if_neg q2, if_neg q3]
set_option maxHeartbeats 16000000 in
set_option maxRecDepth 100000 in
theorem mX10_nearest {g : gX} {V : vM} {m : Nat → Int32} {N : Nat} {t : Int32} {S : FS} {fb : Nat → Nat} (hMQ : MZ V m N t S fb) (x y what : Int32) : MM g jX10_nearest V [.ref (g.2.1 49), .int x, .int y, .int what] (eI (fun z U => z = nrZ S fb x y what ∧ MZ U m N t S fb ∧ frM V U)) := by
  refine MM.of plX10_nearest (Nat.le_of_ble_eq_true rfl) ?_
  obtain ⟨Q, hQ⟩ : ∃ Q : Option Value → vM → Prop, Q = (eI (fun z U => z = nrZ S fb x y what ∧ MZ U m N t S fb ∧ frM V U)) := ⟨_, rfl⟩
  rw [← hQ]
  show XX g jX10_nearest Q V 0 [(0, .ref (g.2.1 49)), (1, .int x), (2, .int y), (3, .int what)] []
  obtain ⟨hw, hm50, hN8, ht9, hS, hG, h24, h15, hcn, hL⟩ := id hMQ
  have hN24 := hw.1
  have hcl := cntM_le (kd7 m) N
  refine x_iload_n dX10_nearest_0 1 rfl ?_
  refine x_callS (K := jX10_isPlace) [.int x] lk_X10_84 ⟨⟨rfl, rfl⟩, Nat.le_of_ble_eq_true rfl, Nat.le_of_ble_eq_true rfl⟩ (mX10_isPlace V x) rfl (Nat.le_of_ble_eq_true rfl) rfl dX10_nearest_1 (kpI ?_)
  refine x_if_eq 23 dX10_nearest_4 (by decide) (fun c1 => ?_) (fun c1 => ?_)
  · have c1n : ¬ (-4000 ≤ x ∧ x ≤ 4000) := iB_0.mp c1
    refine x_ldc ct_X10_88 dX10_nearest_23 ?_
    refine x_iret dX10_nearest_25 rfl ?_
    rw [hQ]
    first
      | exact ⟨_, rfl, (nrZ_no (fun q => by first | exact absurd q.1 (by assumption) | exact absurd q.2.1 (by assumption) | exact absurd q.2.2 (by assumption))).symm, hMQ, frM.refl V⟩
      | (have hN2 : NM S x y (nsO S fb x y S.2.1) b bx b2 sn := by rw [show S.2.1 = k by omega]; exact hN
         have he := NM_end (what := what) hG h24 hR hx hy hN2
         refine ⟨_, rfl, ?_, hMQ2, hFr⟩
         first
           | exact (nrZ_0 ⟨hx, hy, by assumption⟩ (he.1 (by first | assumption | exact Int64.not_le.mp (by assumption)))).symm
           | (have h2 := he.2 (by first | assumption | exact Int64.not_lt.mpr (by assumption))
              rw [nrZ_1 ⟨hx, hy, by assumption⟩ h2.1]
              first | exact h2.2.1 (by assumption) | exact h2.2.2.1 (by assumption) | exact h2.2.2.2.1 (by assumption) | exact h2.2.2.2.2 (by assumption) (by assumption) (by assumption)))
  · have c1n : (-4000 ≤ x ∧ x ≤ 4000) := Classical.not_not.mp (fun q => c1 (iB_0.mpr q))
    refine x_iload_n dX10_nearest_7 2 rfl ?_
    refine x_callS (K := jX10_isPlace) [.int y] lk_X10_84 ⟨⟨rfl, rfl⟩, Nat.le_of_ble_eq_true rfl, Nat.le_of_ble_eq_true rfl⟩ (mX10_isPlace V y) rfl (Nat.le_of_ble_eq_true rfl) rfl dX10_nearest_8 (kpI ?_)
    refine x_if_eq 23 dX10_nearest_11 (by decide) (fun c2 => ?_) (fun c2 => ?_)
    · have c2n : ¬ (-4000 ≤ y ∧ y ≤ 4000) := iB_0.mp c2
      refine x_ldc ct_X10_88 dX10_nearest_23 ?_
      refine x_iret dX10_nearest_25 rfl ?_
      rw [hQ]
      first
        | exact ⟨_, rfl, (nrZ_no (fun q => by first | exact absurd q.1 (by assumption) | exact absurd q.2.1 (by assumption) | exact absurd q.2.2 (by assumption))).symm, hMQ, frM.refl V⟩
        | (have hN2 : NM S x y (nsO S fb x y S.2.1) b bx b2 sn := by rw [show S.2.1 = k by omega]; exact hN
           have he := NM_end (what := what) hG h24 hR hx hy hN2
           refine ⟨_, rfl, ?_, hMQ2, hFr⟩
           first
             | exact (nrZ_0 ⟨hx, hy, by assumption⟩ (he.1 (by first | assumption | exact Int64.not_le.mp (by assumption)))).symm
             | (have h2 := he.2 (by first | assumption | exact Int64.not_lt.mpr (by assumption))
                rw [nrZ_1 ⟨hx, hy, by assumption⟩ h2.1]
                first | exact h2.2.1 (by assumption) | exact h2.2.2.1 (by assumption) | exact h2.2.2.2.1 (by assumption) | exact h2.2.2.2.2 (by assumption) (by assumption) (by assumption)))
    · have c2n : (-4000 ≤ y ∧ y ≤ 4000) := Classical.not_not.mp (fun q => c2 (iB_0.mpr q))
      refine x_iload_n dX10_nearest_14 3 rfl ?_
      refine x_iconst (v := 0) dX10_nearest_15 (by decide) ?_
      refine x_iconst (v := 3) dX10_nearest_16 (by decide) ?_
      refine x_callS (K := jX10_in) [.int what, .int 0, .int 3] lk_X10_80 ⟨⟨rfl, rfl⟩, Nat.le_of_ble_eq_true rfl, Nat.le_of_ble_eq_true rfl⟩ (mX10_in V what 0 3) rfl (Nat.le_of_ble_eq_true rfl) rfl dX10_nearest_17 (kpI ?_)
      refine x_if_ne 26 dX10_nearest_20 (by decide) (fun c3 => ?_) (fun c3 => ?_)
      · have c3n : (0 ≤ what ∧ what ≤ 3) := Classical.not_not.mp (fun q => c3 (iB_0.mpr q))
        refine x_aload_n dX10_nearest_26 0 rfl ?_
        refine x_callV (K := jX10_flatten) [] lk_X10_111 ⟨⟨rfl, rfl⟩, Nat.le_of_ble_eq_true rfl, Nat.le_of_ble_eq_true rfl⟩ rfl rfl (mX10_flatten V hw hm50 hN8 t ht9) rfl (Nat.le_of_ble_eq_true rfl) rfl dX10_nearest_27 (keV fun U4 hU5 => ?_)
        have hMQ2 := hMQ.aft hU5
        have hFr := hU5.2.2
        have hF : FRM U4 S N := by rw [← hS]; exact hU5.1
        have hE : U4 65 S.2.1 = nI S.1 := by rw [← hS]; exact hU5.2.1
        have hmU := hMQ2.2.1
        have hR := fall_inr hw hS
        have hx : inR x := by assumption
        have hy : inR y := by assumption
        refine x_ldc2 ct_X10_266 dX10_nearest_30 ?_
        refine x_lstore 4 [(4, .long (-1)), (0, .ref (g.2.1 49)), (1, .int x), (2, .int y), (3, .int what)] dX10_nearest_33 (by decide) rfl ?_
        refine x_lconst (v := 0) dX10_nearest_35 (by decide) ?_
        refine x_lstore 6 [(6, .long 0), (4, .long (-1)), (0, .ref (g.2.1 49)), (1, .int x), (2, .int y), (3, .int what)] dX10_nearest_36 (by decide) rfl ?_
        refine x_lconst (v := 0) dX10_nearest_38 (by decide) ?_
        refine x_lstore 8 [(8, .long 0), (6, .long 0), (4, .long (-1)), (0, .ref (g.2.1 49)), (1, .int x), (2, .int y), (3, .int what)] dX10_nearest_39 (by decide) rfl ?_
        refine x_iconst (v := 0) dX10_nearest_41 (by decide) ?_
        refine x_istore 10 [(10, .int 0), (8, .long 0), (6, .long 0), (4, .long (-1)), (0, .ref (g.2.1 49)), (1, .int x), (2, .int y), (3, .int what)] dX10_nearest_42 (by decide) rfl ?_
        refine x_iconst (v := 0) dX10_nearest_44 (by decide) ?_
        refine x_istore 11 [(11, .int 0), (10, .int 0), (8, .long 0), (6, .long 0), (4, .long (-1)), (0, .ref (g.2.1 49)), (1, .int x), (2, .int y), (3, .int what)] dX10_nearest_45 (by decide) rfl ?_
        have lp6 : ∀ (fu : Nat) (k : Nat) (b : Int64) (bx : Int64) (b2 : Int64) (sn : Int32), (k ≤ S.2.1) → (NM S x y (nsO S fb x y k) b bx b2 sn) → (S.2.1 - k) < fu → XX g jX10_nearest Q U4 47 [(11, .int (nI k)), (10, .int sn), (8, .long b2), (6, .long bx), (4, .long b), (0, .ref (g.2.1 49)), (1, .int x), (2, .int y), (3, .int what)] [] := by
          intro fu
          induction fu with
          | zero => intro _ _ _ _ _ _ _ hmz; exact absurd hmz (Nat.not_lt_zero _)
          | succ fu ih =>
            intro k b bx b2 sn hk hN hmz
            refine x_iload dX10_nearest_47 0 rfl ?_
            refine x_aload_n dX10_nearest_49 5 rfl ?_
            refine x_getI fl_X10_211 rfl rfl dX10_nearest_50 ?_
            refine x_topi (hF.2.1) ?_
            refine x_icmp_ge 303 dX10_nearest_53 (by decide) (fun c7 => ?_) (fun c7 => ?_)
            · have c7n : S.2.1 ≤ k := (nl_le (a := S.2.1) (b := k) (rfl) (rfl) (by omega) (by omega)).mp c7
              refine x_lload dX10_nearest_303 4 rfl ?_
              refine x_lconst (v := 0) dX10_nearest_305 (by decide) ?_
              refine x_lcmp dX10_nearest_306 ?_
              refine x_if_ge 313 dX10_nearest_307 (by decide) (fun c8 => ?_) (fun c8 => ?_)
              · have c8n : 0 ≤ b := lgc_ge.mp c8
                refine x_iload_n dX10_nearest_313 8 rfl ?_
                refine x_if_ne 322 dX10_nearest_314 (by decide) (fun c9 => ?_) (fun c9 => ?_)
                · refine x_iload_n dX10_nearest_322 8 rfl ?_
                  refine x_iconst (v := 1) dX10_nearest_323 (by decide) ?_
                  refine x_icmp_ne 332 dX10_nearest_324 (by decide) (fun c10 => ?_) (fun c10 => ?_)
                  · refine x_iload_n dX10_nearest_332 8 rfl ?_
                    refine x_iconst (v := 2) dX10_nearest_333 (by decide) ?_
                    refine x_icmp_ne 343 dX10_nearest_334 (by decide) (fun c11 => ?_) (fun c11 => ?_)
                    · refine x_lload dX10_nearest_343 4 rfl ?_
                      refine x_l2i dX10_nearest_345 ?_
                      refine x_iret dX10_nearest_346 rfl ?_
                      rw [hQ]
                      first
                        | exact ⟨_, rfl, (nrZ_no (fun q => by first | exact absurd q.1 (by assumption) | exact absurd q.2.1 (by assumption) | exact absurd q.2.2 (by assumption))).symm, hMQ, frM.refl V⟩
                        | (have hN2 : NM S x y (nsO S fb x y S.2.1) b bx b2 sn := by rw [show S.2.1 = k by omega]; exact hN
                           have he := NM_end (what := what) hG h24 hR hx hy hN2
                           refine ⟨_, rfl, ?_, hMQ2, hFr⟩
                           first
                             | exact (nrZ_0 ⟨hx, hy, by assumption⟩ (he.1 (by first | assumption | exact Int64.not_le.mp (by assumption)))).symm
                             | (have h2 := he.2 (by first | assumption | exact Int64.not_lt.mpr (by assumption))
                                rw [nrZ_1 ⟨hx, hy, by assumption⟩ h2.1]
                                first | exact h2.2.1 (by assumption) | exact h2.2.2.1 (by assumption) | exact h2.2.2.2.1 (by assumption) | exact h2.2.2.2.2 (by assumption) (by assumption) (by assumption)))
                    · refine x_iload dX10_nearest_337 1 rfl ?_
                      refine x_i2l dX10_nearest_339 ?_
                      refine x_goto 345 dX10_nearest_340 (by decide) ?_
                      refine x_l2i dX10_nearest_345 ?_
                      refine x_iret dX10_nearest_346 rfl ?_
                      rw [hQ]
                      first
                        | exact ⟨_, rfl, (nrZ_no (fun q => by first | exact absurd q.1 (by assumption) | exact absurd q.2.1 (by assumption) | exact absurd q.2.2 (by assumption))).symm, hMQ, frM.refl V⟩
                        | (have hN2 : NM S x y (nsO S fb x y S.2.1) b bx b2 sn := by rw [show S.2.1 = k by omega]; exact hN
                           have he := NM_end (what := what) hG h24 hR hx hy hN2
                           refine ⟨_, rfl, ?_, hMQ2, hFr⟩
                           first
                             | exact (nrZ_0 ⟨hx, hy, by assumption⟩ (he.1 (by first | assumption | exact Int64.not_le.mp (by assumption)))).symm
                             | (have h2 := he.2 (by first | assumption | exact Int64.not_lt.mpr (by assumption))
                                rw [nrZ_1 ⟨hx, hy, by assumption⟩ h2.1]
                                first | exact h2.2.1 (by assumption) | exact h2.2.2.1 (by assumption) | exact h2.2.2.2.1 (by assumption) | exact h2.2.2.2.2 (by assumption) (by assumption) (by assumption)))
                  · refine x_lload dX10_nearest_327 2 rfl ?_
                    refine x_goto 345 dX10_nearest_329 (by decide) ?_
                    refine x_l2i dX10_nearest_345 ?_
                    refine x_iret dX10_nearest_346 rfl ?_
                    rw [hQ]
                    first
                      | exact ⟨_, rfl, (nrZ_no (fun q => by first | exact absurd q.1 (by assumption) | exact absurd q.2.1 (by assumption) | exact absurd q.2.2 (by assumption))).symm, hMQ, frM.refl V⟩
                      | (have hN2 : NM S x y (nsO S fb x y S.2.1) b bx b2 sn := by rw [show S.2.1 = k by omega]; exact hN
                         have he := NM_end (what := what) hG h24 hR hx hy hN2
                         refine ⟨_, rfl, ?_, hMQ2, hFr⟩
                         first
                           | exact (nrZ_0 ⟨hx, hy, by assumption⟩ (he.1 (by first | assumption | exact Int64.not_le.mp (by assumption)))).symm
                           | (have h2 := he.2 (by first | assumption | exact Int64.not_lt.mpr (by assumption))
                              rw [nrZ_1 ⟨hx, hy, by assumption⟩ h2.1]
                              first | exact h2.2.1 (by assumption) | exact h2.2.2.1 (by assumption) | exact h2.2.2.2.1 (by assumption) | exact h2.2.2.2.2 (by assumption) (by assumption) (by assumption)))
                · refine x_lload dX10_nearest_317 3 rfl ?_
                  refine x_goto 345 dX10_nearest_319 (by decide) ?_
                  refine x_l2i dX10_nearest_345 ?_
                  refine x_iret dX10_nearest_346 rfl ?_
                  rw [hQ]
                  first
                    | exact ⟨_, rfl, (nrZ_no (fun q => by first | exact absurd q.1 (by assumption) | exact absurd q.2.1 (by assumption) | exact absurd q.2.2 (by assumption))).symm, hMQ, frM.refl V⟩
                    | (have hN2 : NM S x y (nsO S fb x y S.2.1) b bx b2 sn := by rw [show S.2.1 = k by omega]; exact hN
                       have he := NM_end (what := what) hG h24 hR hx hy hN2
                       refine ⟨_, rfl, ?_, hMQ2, hFr⟩
                       first
                         | exact (nrZ_0 ⟨hx, hy, by assumption⟩ (he.1 (by first | assumption | exact Int64.not_le.mp (by assumption)))).symm
                         | (have h2 := he.2 (by first | assumption | exact Int64.not_lt.mpr (by assumption))
                            rw [nrZ_1 ⟨hx, hy, by assumption⟩ h2.1]
                            first | exact h2.2.1 (by assumption) | exact h2.2.2.1 (by assumption) | exact h2.2.2.2.1 (by assumption) | exact h2.2.2.2.2 (by assumption) (by assumption) (by assumption)))
              · have c8n : ¬ (0 ≤ b) := fun q => c8 (lgc_ge.mpr q)
                refine x_ldc ct_X10_97 dX10_nearest_310 ?_
                refine x_iret dX10_nearest_312 rfl ?_
                rw [hQ]
                first
                  | exact ⟨_, rfl, (nrZ_no (fun q => by first | exact absurd q.1 (by assumption) | exact absurd q.2.1 (by assumption) | exact absurd q.2.2 (by assumption))).symm, hMQ, frM.refl V⟩
                  | (have hN2 : NM S x y (nsO S fb x y S.2.1) b bx b2 sn := by rw [show S.2.1 = k by omega]; exact hN
                     have he := NM_end (what := what) hG h24 hR hx hy hN2
                     refine ⟨_, rfl, ?_, hMQ2, hFr⟩
                     first
                       | exact (nrZ_0 ⟨hx, hy, by assumption⟩ (he.1 (by first | assumption | exact Int64.not_le.mp (by assumption)))).symm
                       | (have h2 := he.2 (by first | assumption | exact Int64.not_lt.mpr (by assumption))
                          rw [nrZ_1 ⟨hx, hy, by assumption⟩ h2.1]
                          first | exact h2.2.1 (by assumption) | exact h2.2.2.1 (by assumption) | exact h2.2.2.2.1 (by assumption) | exact h2.2.2.2.2 (by assumption) (by assumption) (by assumption)))
            · have c7n : k < S.2.1 := Nat.not_le.mp (fun q => c7 ((nl_le (a := S.2.1) (b := k) (rfl) (rfl) (by omega) (by omega)).mpr q))
              have hkS : k < S.2.1 := by omega
              have hkb := hG.bd (j := k + 1) (by omega)
              have hkl := (hG.2.2.2 k hkS).1
              have hUk : U4 65 k = nI (fb k) := hF.bo hE hG (by omega)
              have hUk1 : U4 65 (k + 1) = nI (fb (k + 1)) := hF.bo hE hG (by omega)
              refine x_aload_n dX10_nearest_56 5 rfl ?_
              refine x_getR fl_X10_56 rfl rfl dX10_nearest_57 ?_
              refine x_iload dX10_nearest_60 0 rfl ?_
              have b12 : vp_in (nI k) 26 := by exact vp_in_nI (by omega) (by decide)
              refine x_iald rfl b12 dX10_nearest_62 ?_
              refine x_topi (y := U4 65 k) (by rw [nI_clamp (by omega)]) ?_
              refine x_topi (hUk) ?_
              refine x_istore 12 [(12, .int (nI (fb k))), (11, .int (nI k)), (10, .int sn), (8, .long b2), (6, .long bx), (4, .long b), (0, .ref (g.2.1 49)), (1, .int x), (2, .int y), (3, .int what)] dX10_nearest_63 (by decide) rfl ?_
              have lp13 : ∀ (fu1 : Nat) (j : Nat) (b : Int64) (bx : Int64) (b2 : Int64) (sn : Int32), (fb k + j + 1 ≤ fb (k + 1)) → (NM S x y (nsI S x y (nsO S fb x y k) k (fb k) j) b bx b2 sn) → (fb (k + 1) - (fb k + j)) < fu1 → XX g jX10_nearest Q U4 65 [(12, .int (nI (fb k + j))), (11, .int (nI k)), (10, .int sn), (8, .long b2), (6, .long bx), (4, .long b), (0, .ref (g.2.1 49)), (1, .int x), (2, .int y), (3, .int what)] [] := by
                intro fu1
                induction fu1 with
                | zero => intro _ _ _ _ _ _ _ hmz; exact absurd hmz (Nat.not_lt_zero _)
                | succ fu1 ih1 =>
                  intro j b bx b2 sn hj hN hmz
                  refine x_iload dX10_nearest_65 0 rfl ?_
                  refine x_aload_n dX10_nearest_67 6 rfl ?_
                  refine x_getR fl_X10_56 rfl rfl dX10_nearest_68 ?_
                  refine x_iload dX10_nearest_71 1 rfl ?_
                  refine x_iconst (v := 1) dX10_nearest_73 (by decide) ?_
                  refine x_iadd dX10_nearest_74 ?_
                  have q14 : ((nI k) + 1 : Int32) = nI (k + 1) := nadd (rfl) (rfl)
                  refine YY.S (st' := [.int (nI (k + 1)), .ref (g.2.1 65), .int (nI (fb k + j))]) (by rw [q14]) ?_
                  have b15 : vp_in (nI (k + 1)) 26 := by exact vp_in_nI (by omega) (by decide)
                  refine x_iald rfl b15 dX10_nearest_75 ?_
                  refine x_topi (y := U4 65 (k + 1)) (by rw [nI_clamp (by omega)]) ?_
                  refine x_topi (hUk1) ?_
                  refine x_iconst (v := 1) dX10_nearest_76 (by decide) ?_
                  refine x_isub dX10_nearest_77 ?_
                  refine x_icmp_ge 297 dX10_nearest_78 (by decide) (fun c16 => ?_) (fun c16 => ?_)
                  · have c16n : (fb (k + 1)) - 1 ≤ fb k + j := (nl_le (a := (fb (k + 1)) - 1) (b := fb k + j) (nsub (by omega) (rfl) (rfl)) (rfl) (by omega) (by omega)).mp c16
                    refine x_iinc 11 (v := (nI k) + 1) 1 [(11, .int ((nI k) + 1)), (12, .int (nI (fb k + j))), (10, .int sn), (8, .long b2), (6, .long bx), (4, .long b), (0, .ref (g.2.1 49)), (1, .int x), (2, .int y), (3, .int what)] dX10_nearest_297 rfl (by rfl) (by decide) rfl ?_
                    refine x_goto 47 dX10_nearest_300 (by decide) ?_
                    refine x_lv [0, 2, 3, 4, 5, 6, 7, 8, 9] rfl ?_
                    refine YY.L (lv' := [(11, .int (nI (k + 1))), (10, .int sn), (8, .long b2), (6, .long bx), (4, .long b), (0, .ref (g.2.1 49)), (1, .int x), (2, .int y), (3, .int what)]) (by rw [nI_1]; rfl) ?_
                    exact ih (k + 1) b bx b2 sn (by omega) (by show NM S x y (nsI S x y (nsO S fb x y k) k (fb k) (fb (k + 1) - fb k - 1)) b bx b2 sn; rw [show fb (k + 1) - fb k - 1 = j by omega]; exact hN) (by omega)
                  · have c16n : fb k + j < (fb (k + 1)) - 1 := Nat.not_le.mp (fun q => c16 ((nl_le (a := (fb (k + 1)) - 1) (b := fb k + j) (nsub (by omega) (rfl) (rfl)) (rfl) (by omega) (by omega)).mpr q))
                    have hs : sgm S (fb k + j + 1) := hG.sgm hR hkS (by omega) (by omega)
                    refine x_aload_n dX10_nearest_81 6 rfl ?_
                    refine x_getR fl_X10_47 rfl rfl dX10_nearest_82 ?_
                    refine x_iload dX10_nearest_85 0 rfl ?_
                    refine x_iconst (v := 1) dX10_nearest_87 (by decide) ?_
                    refine x_iadd dX10_nearest_88 ?_
                    have q17 : ((nI (fb k + j)) + 1 : Int32) = nI ((fb k + j) + 1) := nadd (rfl) (rfl)
                    refine YY.S (st' := [.int (nI ((fb k + j) + 1)), .ref (g.2.1 62)]) (by rw [q17]) ?_
                    have b18 : vp_in (nI ((fb k + j) + 1)) 1700 := by exact vp_in_nI (by omega) (by decide)
                    refine x_iald rfl b18 dX10_nearest_89 ?_
                    refine x_topi (y := U4 62 ((fb k + j) + 1)) (by rw [nI_clamp (by omega)]) ?_
                    refine x_topi (show U4 62 ((fb k + j) + 1) = S.2.2 0 ((fb k + j) + 1) from (hF.2.2.1 ((fb k + j) + 1) (by omega)).1) ?_
                    refine x_aload_n dX10_nearest_90 6 rfl ?_
                    refine x_getR fl_X10_47 rfl rfl dX10_nearest_91 ?_
                    refine x_iload dX10_nearest_94 0 rfl ?_
                    have b19 : vp_in (nI (fb k + j)) 1700 := by exact vp_in_nI (by omega) (by decide)
                    refine x_iald rfl b19 dX10_nearest_96 ?_
                    refine x_topi (y := U4 62 (fb k + j)) (by rw [nI_clamp (by omega)]) ?_
                    refine x_topi (show U4 62 (fb k + j) = S.2.2 0 (fb k + j) from (hF.2.2.1 (fb k + j) (by omega)).1) ?_
                    refine x_isub dX10_nearest_97 ?_
                    refine x_i2l dX10_nearest_98 ?_
                    refine x_topl (y := d64 S 0 (fb k + j + 1)) (by unfold d64; rw [Nat.add_sub_cancel]) ?_
                    refine x_lstore 13 [(13, .long (d64 S 0 (fb k + j + 1))), (12, .int (nI (fb k + j))), (11, .int (nI k)), (10, .int sn), (8, .long b2), (6, .long bx), (4, .long b), (0, .ref (g.2.1 49)), (1, .int x), (2, .int y), (3, .int what)] dX10_nearest_99 (by decide) rfl ?_
                    refine x_aload_n dX10_nearest_101 7 rfl ?_
                    refine x_getR fl_X10_50 rfl rfl dX10_nearest_102 ?_
                    refine x_iload dX10_nearest_105 1 rfl ?_
                    refine x_iconst (v := 1) dX10_nearest_107 (by decide) ?_
                    refine x_iadd dX10_nearest_108 ?_
                    have q20 : ((nI (fb k + j)) + 1 : Int32) = nI ((fb k + j) + 1) := nadd (rfl) (rfl)
                    refine YY.S (st' := [.int (nI ((fb k + j) + 1)), .ref (g.2.1 63)]) (by rw [q20]) ?_
                    have b21 : vp_in (nI ((fb k + j) + 1)) 1700 := by exact vp_in_nI (by omega) (by decide)
                    refine x_iald rfl b21 dX10_nearest_109 ?_
                    refine x_topi (y := U4 63 ((fb k + j) + 1)) (by rw [nI_clamp (by omega)]) ?_
                    refine x_topi (show U4 63 ((fb k + j) + 1) = S.2.2 1 ((fb k + j) + 1) from (hF.2.2.1 ((fb k + j) + 1) (by omega)).2.1) ?_
                    refine x_aload_n dX10_nearest_110 7 rfl ?_
                    refine x_getR fl_X10_50 rfl rfl dX10_nearest_111 ?_
                    refine x_iload dX10_nearest_114 1 rfl ?_
                    have b22 : vp_in (nI (fb k + j)) 1700 := by exact vp_in_nI (by omega) (by decide)
                    refine x_iald rfl b22 dX10_nearest_116 ?_
                    refine x_topi (y := U4 63 (fb k + j)) (by rw [nI_clamp (by omega)]) ?_
                    refine x_topi (show U4 63 (fb k + j) = S.2.2 1 (fb k + j) from (hF.2.2.1 (fb k + j) (by omega)).2.1) ?_
                    refine x_isub dX10_nearest_117 ?_
                    refine x_i2l dX10_nearest_118 ?_
                    refine x_topl (y := d64 S 1 (fb k + j + 1)) (by unfold d64; rw [Nat.add_sub_cancel]) ?_
                    refine x_lstore 15 [(15, .long (d64 S 1 (fb k + j + 1))), (13, .long (d64 S 0 (fb k + j + 1))), (12, .int (nI (fb k + j))), (11, .int (nI k)), (10, .int sn), (8, .long b2), (6, .long bx), (4, .long b), (0, .ref (g.2.1 49)), (1, .int x), (2, .int y), (3, .int what)] dX10_nearest_119 (by decide) rfl ?_
                    refine x_lload dX10_nearest_121 1 rfl ?_
                    refine x_lload dX10_nearest_123 1 rfl ?_
                    refine x_lmul dX10_nearest_125 ?_
                    refine x_lload dX10_nearest_126 0 rfl ?_
                    refine x_lload dX10_nearest_128 0 rfl ?_
                    refine x_lmul dX10_nearest_130 ?_
                    refine x_ladd dX10_nearest_131 ?_
                    refine x_topl (y := wh64 S (fb k + j + 1)) (rfl) ?_
                    refine x_lstore 17 [(17, .long (wh64 S (fb k + j + 1))), (15, .long (d64 S 1 (fb k + j + 1))), (13, .long (d64 S 0 (fb k + j + 1))), (12, .int (nI (fb k + j))), (11, .int (nI k)), (10, .int sn), (8, .long b2), (6, .long bx), (4, .long b), (0, .ref (g.2.1 49)), (1, .int x), (2, .int y), (3, .int what)] dX10_nearest_132 (by decide) rfl ?_
                    refine x_lload dX10_nearest_134 2 rfl ?_
                    refine x_iload_n dX10_nearest_136 10 rfl ?_
                    refine x_aload_n dX10_nearest_137 9 rfl ?_
                    refine x_getR fl_X10_47 rfl rfl dX10_nearest_138 ?_
                    refine x_iload dX10_nearest_141 3 rfl ?_
                    have b23 : vp_in (nI (fb k + j)) 1700 := by exact vp_in_nI (by omega) (by decide)
                    refine x_iald rfl b23 dX10_nearest_143 ?_
                    refine x_topi (y := U4 62 (fb k + j)) (by rw [nI_clamp (by omega)]) ?_
                    refine x_topi (show U4 62 (fb k + j) = S.2.2 0 (fb k + j) from (hF.2.2.1 (fb k + j) (by omega)).1) ?_
                    refine x_isub dX10_nearest_144 ?_
                    refine x_i2l dX10_nearest_145 ?_
                    refine x_lmul dX10_nearest_146 ?_
                    refine x_lload dX10_nearest_147 1 rfl ?_
                    refine x_iload_n dX10_nearest_149 11 rfl ?_
                    refine x_aload_n dX10_nearest_150 9 rfl ?_
                    refine x_getR fl_X10_50 rfl rfl dX10_nearest_151 ?_
                    refine x_iload dX10_nearest_154 3 rfl ?_
                    have b24 : vp_in (nI (fb k + j)) 1700 := by exact vp_in_nI (by omega) (by decide)
                    refine x_iald rfl b24 dX10_nearest_156 ?_
                    refine x_topi (y := U4 63 (fb k + j)) (by rw [nI_clamp (by omega)]) ?_
                    refine x_topi (show U4 63 (fb k + j) = S.2.2 1 (fb k + j) from (hF.2.2.1 (fb k + j) (by omega)).2.1) ?_
                    refine x_isub dX10_nearest_157 ?_
                    refine x_i2l dX10_nearest_158 ?_
                    refine x_lmul dX10_nearest_159 ?_
                    refine x_ladd dX10_nearest_160 ?_
                    refine x_topl (y := pt64 S (fb k + j + 1) x y) (by unfold pt64; rw [Nat.add_sub_cancel]) ?_
                    refine x_lstore 19 [(19, .long (pt64 S (fb k + j + 1) x y)), (17, .long (wh64 S (fb k + j + 1))), (15, .long (d64 S 1 (fb k + j + 1))), (13, .long (d64 S 0 (fb k + j + 1))), (12, .int (nI (fb k + j))), (11, .int (nI k)), (10, .int sn), (8, .long b2), (6, .long bx), (4, .long b), (0, .ref (g.2.1 49)), (1, .int x), (2, .int y), (3, .int what)] dX10_nearest_161 (by decide) rfl ?_
                    refine x_lload dX10_nearest_163 0 rfl ?_
                    refine x_lconst (v := 0) dX10_nearest_165 (by decide) ?_
                    refine x_lcmp dX10_nearest_166 ?_
                    refine x_if_ge 174 dX10_nearest_167 (by decide) (fun c25 => ?_) (fun c25 => ?_)
                    · have c25n : 0 ≤ (pt64 S (fb k + j + 1) x y) := lgc_ge.mp c25
                      refine x_lload dX10_nearest_174 0 rfl ?_
                      refine x_lload dX10_nearest_176 1 rfl ?_
                      refine x_lcmp dX10_nearest_178 ?_
                      refine x_if_le 187 dX10_nearest_179 (by decide) (fun c26 => ?_) (fun c26 => ?_)
                      · have c26n : (pt64 S (fb k + j + 1) x y) ≤ (wh64 S (fb k + j + 1)) := lgc_le.mp c26
                        refine x_lload dX10_nearest_187 0 rfl ?_
                        refine x_topl (y := q64 S (fb k + j + 1) x y) ((q_bc hs (show 0 ≤ pt64 S (fb k + j + 1) x y by assumption)).1 (show pt64 S (fb k + j + 1) x y ≤ wh64 S (fb k + j + 1) by assumption)) ?_
                        refine x_lstore 19 [(19, .long (q64 S (fb k + j + 1) x y)), (17, .long (wh64 S (fb k + j + 1))), (15, .long (d64 S 1 (fb k + j + 1))), (13, .long (d64 S 0 (fb k + j + 1))), (12, .int (nI (fb k + j))), (11, .int (nI k)), (10, .int sn), (8, .long b2), (6, .long bx), (4, .long b), (0, .ref (g.2.1 49)), (1, .int x), (2, .int y), (3, .int what)] dX10_nearest_189 (by decide) rfl ?_
                        refine x_aload_n dX10_nearest_191 10 rfl ?_
                        refine x_getR fl_X10_47 rfl rfl dX10_nearest_192 ?_
                        refine x_iload dX10_nearest_195 4 rfl ?_
                        have b27 : vp_in (nI (fb k + j)) 1700 := by exact vp_in_nI (by omega) (by decide)
                        refine x_iald rfl b27 dX10_nearest_197 ?_
                        refine x_topi (y := U4 62 (fb k + j)) (by rw [nI_clamp (by omega)]) ?_
                        refine x_topi (show U4 62 (fb k + j) = S.2.2 0 (fb k + j) from (hF.2.2.1 (fb k + j) (by omega)).1) ?_
                        refine x_i2l dX10_nearest_198 ?_
                        refine x_lload dX10_nearest_199 3 rfl ?_
                        refine x_lload dX10_nearest_201 0 rfl ?_
                        refine x_lmul dX10_nearest_203 ?_
                        refine x_lload dX10_nearest_204 1 rfl ?_
                        have nz28 : ¬ (wh64 S (fb k + j + 1) : Int64) = 0 := by exact wh_nz hs
                        refine x_ldiv dX10_nearest_206 nz28 ?_
                        refine x_ladd dX10_nearest_207 ?_
                        refine x_topl (y := np64 S 0 (fb k + j + 1) x y) (by unfold np64; rw [Nat.add_sub_cancel]) ?_
                        refine x_lstore 21 [(21, .long (np64 S 0 (fb k + j + 1) x y)), (19, .long (q64 S (fb k + j + 1) x y)), (17, .long (wh64 S (fb k + j + 1))), (15, .long (d64 S 1 (fb k + j + 1))), (13, .long (d64 S 0 (fb k + j + 1))), (12, .int (nI (fb k + j))), (11, .int (nI k)), (10, .int sn), (8, .long b2), (6, .long bx), (4, .long b), (0, .ref (g.2.1 49)), (1, .int x), (2, .int y), (3, .int what)] dX10_nearest_208 (by decide) rfl ?_
                        refine x_aload_n dX10_nearest_210 11 rfl ?_
                        refine x_getR fl_X10_50 rfl rfl dX10_nearest_211 ?_
                        refine x_iload dX10_nearest_214 5 rfl ?_
                        have b29 : vp_in (nI (fb k + j)) 1700 := by exact vp_in_nI (by omega) (by decide)
                        refine x_iald rfl b29 dX10_nearest_216 ?_
                        refine x_topi (y := U4 63 (fb k + j)) (by rw [nI_clamp (by omega)]) ?_
                        refine x_topi (show U4 63 (fb k + j) = S.2.2 1 (fb k + j) from (hF.2.2.1 (fb k + j) (by omega)).2.1) ?_
                        refine x_i2l dX10_nearest_217 ?_
                        refine x_lload dX10_nearest_218 3 rfl ?_
                        refine x_lload dX10_nearest_220 1 rfl ?_
                        refine x_lmul dX10_nearest_222 ?_
                        refine x_lload dX10_nearest_223 2 rfl ?_
                        have nz30 : ¬ (wh64 S (fb k + j + 1) : Int64) = 0 := by exact wh_nz hs
                        refine x_ldiv dX10_nearest_225 nz30 ?_
                        refine x_ladd dX10_nearest_226 ?_
                        refine x_topl (y := np64 S 1 (fb k + j + 1) x y) (by unfold np64; rw [Nat.add_sub_cancel]) ?_
                        refine x_lstore 23 [(23, .long (np64 S 1 (fb k + j + 1) x y)), (21, .long (np64 S 0 (fb k + j + 1) x y)), (19, .long (q64 S (fb k + j + 1) x y)), (17, .long (wh64 S (fb k + j + 1))), (15, .long (d64 S 1 (fb k + j + 1))), (13, .long (d64 S 0 (fb k + j + 1))), (12, .int (nI (fb k + j))), (11, .int (nI k)), (10, .int sn), (8, .long b2), (6, .long bx), (4, .long b), (0, .ref (g.2.1 49)), (1, .int x), (2, .int y), (3, .int what)] dX10_nearest_227 (by decide) rfl ?_
                        refine x_lload dX10_nearest_229 1 rfl ?_
                        refine x_iload_n dX10_nearest_231 13 rfl ?_
                        refine x_i2l dX10_nearest_232 ?_
                        refine x_lsub dX10_nearest_233 ?_
                        refine x_lload dX10_nearest_234 1 rfl ?_
                        refine x_iload_n dX10_nearest_236 13 rfl ?_
                        refine x_i2l dX10_nearest_237 ?_
                        refine x_lsub dX10_nearest_238 ?_
                        refine x_lmul dX10_nearest_239 ?_
                        refine x_lload dX10_nearest_240 0 rfl ?_
                        refine x_iload_n dX10_nearest_242 14 rfl ?_
                        refine x_i2l dX10_nearest_243 ?_
                        refine x_lsub dX10_nearest_244 ?_
                        refine x_lload dX10_nearest_245 0 rfl ?_
                        refine x_iload_n dX10_nearest_247 14 rfl ?_
                        refine x_i2l dX10_nearest_248 ?_
                        refine x_lsub dX10_nearest_249 ?_
                        refine x_lmul dX10_nearest_250 ?_
                        refine x_ladd dX10_nearest_251 ?_
                        refine x_topl (y := nsq64 S (fb k + j + 1) x y) (rfl) ?_
                        refine x_lstore 25 [(25, .long (nsq64 S (fb k + j + 1) x y)), (23, .long (np64 S 1 (fb k + j + 1) x y)), (21, .long (np64 S 0 (fb k + j + 1) x y)), (19, .long (q64 S (fb k + j + 1) x y)), (17, .long (wh64 S (fb k + j + 1))), (15, .long (d64 S 1 (fb k + j + 1))), (13, .long (d64 S 0 (fb k + j + 1))), (12, .int (nI (fb k + j))), (11, .int (nI k)), (10, .int sn), (8, .long b2), (6, .long bx), (4, .long b), (0, .ref (g.2.1 49)), (1, .int x), (2, .int y), (3, .int what)] dX10_nearest_252 (by decide) rfl ?_
                        refine x_lload dX10_nearest_254 12 rfl ?_
                        refine x_lconst (v := 0) dX10_nearest_256 (by decide) ?_
                        refine x_lcmp dX10_nearest_257 ?_
                        refine x_if_lt 269 dX10_nearest_258 (by decide) (fun c31 => ?_) (fun c31 => ?_)
                        · have c31n : b < 0 := lgc_lt.mp c31
                          refine x_lload dX10_nearest_269 0 rfl ?_
                          refine x_lstore 4 [(4, .long (nsq64 S (fb k + j + 1) x y)), (25, .long (nsq64 S (fb k + j + 1) x y)), (23, .long (np64 S 1 (fb k + j + 1) x y)), (21, .long (np64 S 0 (fb k + j + 1) x y)), (19, .long (q64 S (fb k + j + 1) x y)), (17, .long (wh64 S (fb k + j + 1))), (15, .long (d64 S 1 (fb k + j + 1))), (13, .long (d64 S 0 (fb k + j + 1))), (12, .int (nI (fb k + j))), (11, .int (nI k)), (10, .int sn), (8, .long b2), (6, .long bx), (0, .ref (g.2.1 49)), (1, .int x), (2, .int y), (3, .int what)] dX10_nearest_271 (by decide) rfl ?_
                          refine x_lload dX10_nearest_273 3 rfl ?_
                          refine x_lstore 6 [(6, .long (np64 S 0 (fb k + j + 1) x y)), (4, .long (nsq64 S (fb k + j + 1) x y)), (25, .long (nsq64 S (fb k + j + 1) x y)), (23, .long (np64 S 1 (fb k + j + 1) x y)), (21, .long (np64 S 0 (fb k + j + 1) x y)), (19, .long (q64 S (fb k + j + 1) x y)), (17, .long (wh64 S (fb k + j + 1))), (15, .long (d64 S 1 (fb k + j + 1))), (13, .long (d64 S 0 (fb k + j + 1))), (12, .int (nI (fb k + j))), (11, .int (nI k)), (10, .int sn), (8, .long b2), (0, .ref (g.2.1 49)), (1, .int x), (2, .int y), (3, .int what)] dX10_nearest_275 (by decide) rfl ?_
                          refine x_lload dX10_nearest_277 3 rfl ?_
                          refine x_lstore 8 [(8, .long (np64 S 1 (fb k + j + 1) x y)), (6, .long (np64 S 0 (fb k + j + 1) x y)), (4, .long (nsq64 S (fb k + j + 1) x y)), (25, .long (nsq64 S (fb k + j + 1) x y)), (23, .long (np64 S 1 (fb k + j + 1) x y)), (21, .long (np64 S 0 (fb k + j + 1) x y)), (19, .long (q64 S (fb k + j + 1) x y)), (17, .long (wh64 S (fb k + j + 1))), (15, .long (d64 S 1 (fb k + j + 1))), (13, .long (d64 S 0 (fb k + j + 1))), (12, .int (nI (fb k + j))), (11, .int (nI k)), (10, .int sn), (0, .ref (g.2.1 49)), (1, .int x), (2, .int y), (3, .int what)] dX10_nearest_279 (by decide) rfl ?_
                          refine x_aload_n dX10_nearest_281 13 rfl ?_
                          refine x_iload dX10_nearest_282 11 rfl ?_
                          refine x_iload dX10_nearest_284 10 rfl ?_
                          refine x_callV (K := jX10_segmentAt) [.int (nI k), .int (nI (fb k + j))] lk_X10_260 ⟨⟨rfl, rfl⟩, Nat.le_of_ble_eq_true rfl, Nat.le_of_ble_eq_true rfl⟩ rfl rfl (mX10_segmentAt U4 (nI k) (nI (fb k + j))) rfl (Nat.le_of_ble_eq_true rfl) rfl dX10_nearest_286 (kpI ?_)
                          refine x_istore 10 [(10, .int ((nI (fb k + j)) - (nI k))), (8, .long (np64 S 1 (fb k + j + 1) x y)), (6, .long (np64 S 0 (fb k + j + 1) x y)), (4, .long (nsq64 S (fb k + j + 1) x y)), (25, .long (nsq64 S (fb k + j + 1) x y)), (23, .long (np64 S 1 (fb k + j + 1) x y)), (21, .long (np64 S 0 (fb k + j + 1) x y)), (19, .long (q64 S (fb k + j + 1) x y)), (17, .long (wh64 S (fb k + j + 1))), (15, .long (d64 S 1 (fb k + j + 1))), (13, .long (d64 S 0 (fb k + j + 1))), (12, .int (nI (fb k + j))), (11, .int (nI k)), (0, .ref (g.2.1 49)), (1, .int x), (2, .int y), (3, .int what)] dX10_nearest_289 (by decide) rfl ?_
                          refine x_iinc 12 (v := (nI (fb k + j)) + 1) 11 [(12, .int ((nI (fb k + j)) + 1)), (10, .int ((nI (fb k + j)) - (nI k))), (8, .long (np64 S 1 (fb k + j + 1) x y)), (6, .long (np64 S 0 (fb k + j + 1) x y)), (4, .long (nsq64 S (fb k + j + 1) x y)), (25, .long (nsq64 S (fb k + j + 1) x y)), (23, .long (np64 S 1 (fb k + j + 1) x y)), (21, .long (np64 S 0 (fb k + j + 1) x y)), (19, .long (q64 S (fb k + j + 1) x y)), (17, .long (wh64 S (fb k + j + 1))), (15, .long (d64 S 1 (fb k + j + 1))), (13, .long (d64 S 0 (fb k + j + 1))), (11, .int (nI k)), (0, .ref (g.2.1 49)), (1, .int x), (2, .int y), (3, .int what)] dX10_nearest_291 rfl (by rfl) (by decide) rfl ?_
                          refine x_goto 65 dX10_nearest_294 (by decide) ?_
                          refine x_lv [0, 12, 1, 2, 3, 4, 13, 14, 15, 16] rfl ?_
                          refine YY.L (lv' := [(12, .int (nI (fb k + (j + 1)))), (11, .int (nI k)), (10, .int ((nI (fb k + j)) - (nI k))), (8, .long (np64 S 1 (fb k + j + 1) x y)), (6, .long (np64 S 0 (fb k + j + 1) x y)), (4, .long (nsq64 S (fb k + j + 1) x y)), (0, .ref (g.2.1 49)), (1, .int x), (2, .int y), (3, .int what)]) (by rw [nI_1]; rfl) ?_
                          exact ih1 (j + 1) (nsq64 S (fb k + j + 1) x y) (np64 S 0 (fb k + j + 1) x y) (np64 S 1 (fb k + j + 1) x y) ((nI (fb k + j)) - (nI k)) (by omega) (by exact NM_up hx hy (by omega) hN hs (by omega) (Or.inl (show b < 0 by assumption))) (by omega)
                        · have c31n : ¬ (b < 0) := fun q => c31 (lgc_lt.mpr q)
                          refine x_lload dX10_nearest_261 0 rfl ?_
                          refine x_lload dX10_nearest_263 12 rfl ?_
                          refine x_lcmp dX10_nearest_265 ?_
                          refine x_if_ge 291 dX10_nearest_266 (by decide) (fun c32 => ?_) (fun c32 => ?_)
                          · have c32n : b ≤ (nsq64 S (fb k + j + 1) x y) := lgc_ge.mp c32
                            refine x_iinc 12 (v := (nI (fb k + j)) + 1) 7 [(12, .int ((nI (fb k + j)) + 1)), (25, .long (nsq64 S (fb k + j + 1) x y)), (23, .long (np64 S 1 (fb k + j + 1) x y)), (21, .long (np64 S 0 (fb k + j + 1) x y)), (19, .long (q64 S (fb k + j + 1) x y)), (17, .long (wh64 S (fb k + j + 1))), (15, .long (d64 S 1 (fb k + j + 1))), (13, .long (d64 S 0 (fb k + j + 1))), (11, .int (nI k)), (10, .int sn), (8, .long b2), (6, .long bx), (4, .long b), (0, .ref (g.2.1 49)), (1, .int x), (2, .int y), (3, .int what)] dX10_nearest_291 rfl (by rfl) (by decide) rfl ?_
                            refine x_goto 65 dX10_nearest_294 (by decide) ?_
                            refine x_lv [0, 8, 9, 10, 11, 12, 13, 14, 15, 16] rfl ?_
                            refine YY.L (lv' := [(12, .int (nI (fb k + (j + 1)))), (11, .int (nI k)), (10, .int sn), (8, .long b2), (6, .long bx), (4, .long b), (0, .ref (g.2.1 49)), (1, .int x), (2, .int y), (3, .int what)]) (by rw [nI_1]; rfl) ?_
                            exact ih1 (j + 1) b bx b2 sn (by omega) (by exact NM_no hx hy hN hs (show ¬ b < 0 by assumption) (by first | exact (show ¬ nsq64 S (fb k + j + 1) x y < b by assumption) | exact Int64.not_lt.mpr (show b ≤ nsq64 S (fb k + j + 1) x y by assumption))) (by omega)
                          · have c32n : ¬ (b ≤ (nsq64 S (fb k + j + 1) x y)) := fun q => c32 (lgc_ge.mpr q)
                            refine x_lload dX10_nearest_269 0 rfl ?_
                            refine x_lstore 4 [(4, .long (nsq64 S (fb k + j + 1) x y)), (25, .long (nsq64 S (fb k + j + 1) x y)), (23, .long (np64 S 1 (fb k + j + 1) x y)), (21, .long (np64 S 0 (fb k + j + 1) x y)), (19, .long (q64 S (fb k + j + 1) x y)), (17, .long (wh64 S (fb k + j + 1))), (15, .long (d64 S 1 (fb k + j + 1))), (13, .long (d64 S 0 (fb k + j + 1))), (12, .int (nI (fb k + j))), (11, .int (nI k)), (10, .int sn), (8, .long b2), (6, .long bx), (0, .ref (g.2.1 49)), (1, .int x), (2, .int y), (3, .int what)] dX10_nearest_271 (by decide) rfl ?_
                            refine x_lload dX10_nearest_273 3 rfl ?_
                            refine x_lstore 6 [(6, .long (np64 S 0 (fb k + j + 1) x y)), (4, .long (nsq64 S (fb k + j + 1) x y)), (25, .long (nsq64 S (fb k + j + 1) x y)), (23, .long (np64 S 1 (fb k + j + 1) x y)), (21, .long (np64 S 0 (fb k + j + 1) x y)), (19, .long (q64 S (fb k + j + 1) x y)), (17, .long (wh64 S (fb k + j + 1))), (15, .long (d64 S 1 (fb k + j + 1))), (13, .long (d64 S 0 (fb k + j + 1))), (12, .int (nI (fb k + j))), (11, .int (nI k)), (10, .int sn), (8, .long b2), (0, .ref (g.2.1 49)), (1, .int x), (2, .int y), (3, .int what)] dX10_nearest_275 (by decide) rfl ?_
                            refine x_lload dX10_nearest_277 3 rfl ?_
                            refine x_lstore 8 [(8, .long (np64 S 1 (fb k + j + 1) x y)), (6, .long (np64 S 0 (fb k + j + 1) x y)), (4, .long (nsq64 S (fb k + j + 1) x y)), (25, .long (nsq64 S (fb k + j + 1) x y)), (23, .long (np64 S 1 (fb k + j + 1) x y)), (21, .long (np64 S 0 (fb k + j + 1) x y)), (19, .long (q64 S (fb k + j + 1) x y)), (17, .long (wh64 S (fb k + j + 1))), (15, .long (d64 S 1 (fb k + j + 1))), (13, .long (d64 S 0 (fb k + j + 1))), (12, .int (nI (fb k + j))), (11, .int (nI k)), (10, .int sn), (0, .ref (g.2.1 49)), (1, .int x), (2, .int y), (3, .int what)] dX10_nearest_279 (by decide) rfl ?_
                            refine x_aload_n dX10_nearest_281 13 rfl ?_
                            refine x_iload dX10_nearest_282 11 rfl ?_
                            refine x_iload dX10_nearest_284 10 rfl ?_
                            refine x_callV (K := jX10_segmentAt) [.int (nI k), .int (nI (fb k + j))] lk_X10_260 ⟨⟨rfl, rfl⟩, Nat.le_of_ble_eq_true rfl, Nat.le_of_ble_eq_true rfl⟩ rfl rfl (mX10_segmentAt U4 (nI k) (nI (fb k + j))) rfl (Nat.le_of_ble_eq_true rfl) rfl dX10_nearest_286 (kpI ?_)
                            refine x_istore 10 [(10, .int ((nI (fb k + j)) - (nI k))), (8, .long (np64 S 1 (fb k + j + 1) x y)), (6, .long (np64 S 0 (fb k + j + 1) x y)), (4, .long (nsq64 S (fb k + j + 1) x y)), (25, .long (nsq64 S (fb k + j + 1) x y)), (23, .long (np64 S 1 (fb k + j + 1) x y)), (21, .long (np64 S 0 (fb k + j + 1) x y)), (19, .long (q64 S (fb k + j + 1) x y)), (17, .long (wh64 S (fb k + j + 1))), (15, .long (d64 S 1 (fb k + j + 1))), (13, .long (d64 S 0 (fb k + j + 1))), (12, .int (nI (fb k + j))), (11, .int (nI k)), (0, .ref (g.2.1 49)), (1, .int x), (2, .int y), (3, .int what)] dX10_nearest_289 (by decide) rfl ?_
                            refine x_iinc 12 (v := (nI (fb k + j)) + 1) 11 [(12, .int ((nI (fb k + j)) + 1)), (10, .int ((nI (fb k + j)) - (nI k))), (8, .long (np64 S 1 (fb k + j + 1) x y)), (6, .long (np64 S 0 (fb k + j + 1) x y)), (4, .long (nsq64 S (fb k + j + 1) x y)), (25, .long (nsq64 S (fb k + j + 1) x y)), (23, .long (np64 S 1 (fb k + j + 1) x y)), (21, .long (np64 S 0 (fb k + j + 1) x y)), (19, .long (q64 S (fb k + j + 1) x y)), (17, .long (wh64 S (fb k + j + 1))), (15, .long (d64 S 1 (fb k + j + 1))), (13, .long (d64 S 0 (fb k + j + 1))), (11, .int (nI k)), (0, .ref (g.2.1 49)), (1, .int x), (2, .int y), (3, .int what)] dX10_nearest_291 rfl (by rfl) (by decide) rfl ?_
                            refine x_goto 65 dX10_nearest_294 (by decide) ?_
                            refine x_lv [0, 12, 1, 2, 3, 4, 13, 14, 15, 16] rfl ?_
                            refine YY.L (lv' := [(12, .int (nI (fb k + (j + 1)))), (11, .int (nI k)), (10, .int ((nI (fb k + j)) - (nI k))), (8, .long (np64 S 1 (fb k + j + 1) x y)), (6, .long (np64 S 0 (fb k + j + 1) x y)), (4, .long (nsq64 S (fb k + j + 1) x y)), (0, .ref (g.2.1 49)), (1, .int x), (2, .int y), (3, .int what)]) (by rw [nI_1]; rfl) ?_
                            exact ih1 (j + 1) (nsq64 S (fb k + j + 1) x y) (np64 S 0 (fb k + j + 1) x y) (np64 S 1 (fb k + j + 1) x y) ((nI (fb k + j)) - (nI k)) (by omega) (by exact NM_up hx hy (by omega) hN hs (by omega) (Or.inr (by first | exact (show nsq64 S (fb k + j + 1) x y < b by assumption) | exact Int64.not_le.mp (show ¬ b ≤ nsq64 S (fb k + j + 1) x y by assumption)))) (by omega)
                      · have c26n : ¬ ((pt64 S (fb k + j + 1) x y) ≤ (wh64 S (fb k + j + 1))) := fun q => c26 (lgc_le.mpr q)
                        refine x_lload dX10_nearest_182 1 rfl ?_
                        refine x_goto 189 dX10_nearest_184 (by decide) ?_
                        refine x_topl (y := q64 S (fb k + j + 1) x y) ((q_bc hs (show 0 ≤ pt64 S (fb k + j + 1) x y by assumption)).2 (show ¬ pt64 S (fb k + j + 1) x y ≤ wh64 S (fb k + j + 1) by assumption)) ?_
                        refine x_lstore 19 [(19, .long (q64 S (fb k + j + 1) x y)), (17, .long (wh64 S (fb k + j + 1))), (15, .long (d64 S 1 (fb k + j + 1))), (13, .long (d64 S 0 (fb k + j + 1))), (12, .int (nI (fb k + j))), (11, .int (nI k)), (10, .int sn), (8, .long b2), (6, .long bx), (4, .long b), (0, .ref (g.2.1 49)), (1, .int x), (2, .int y), (3, .int what)] dX10_nearest_189 (by decide) rfl ?_
                        refine x_aload_n dX10_nearest_191 10 rfl ?_
                        refine x_getR fl_X10_47 rfl rfl dX10_nearest_192 ?_
                        refine x_iload dX10_nearest_195 4 rfl ?_
                        have b33 : vp_in (nI (fb k + j)) 1700 := by exact vp_in_nI (by omega) (by decide)
                        refine x_iald rfl b33 dX10_nearest_197 ?_
                        refine x_topi (y := U4 62 (fb k + j)) (by rw [nI_clamp (by omega)]) ?_
                        refine x_topi (show U4 62 (fb k + j) = S.2.2 0 (fb k + j) from (hF.2.2.1 (fb k + j) (by omega)).1) ?_
                        refine x_i2l dX10_nearest_198 ?_
                        refine x_lload dX10_nearest_199 3 rfl ?_
                        refine x_lload dX10_nearest_201 0 rfl ?_
                        refine x_lmul dX10_nearest_203 ?_
                        refine x_lload dX10_nearest_204 1 rfl ?_
                        have nz34 : ¬ (wh64 S (fb k + j + 1) : Int64) = 0 := by exact wh_nz hs
                        refine x_ldiv dX10_nearest_206 nz34 ?_
                        refine x_ladd dX10_nearest_207 ?_
                        refine x_topl (y := np64 S 0 (fb k + j + 1) x y) (by unfold np64; rw [Nat.add_sub_cancel]) ?_
                        refine x_lstore 21 [(21, .long (np64 S 0 (fb k + j + 1) x y)), (19, .long (q64 S (fb k + j + 1) x y)), (17, .long (wh64 S (fb k + j + 1))), (15, .long (d64 S 1 (fb k + j + 1))), (13, .long (d64 S 0 (fb k + j + 1))), (12, .int (nI (fb k + j))), (11, .int (nI k)), (10, .int sn), (8, .long b2), (6, .long bx), (4, .long b), (0, .ref (g.2.1 49)), (1, .int x), (2, .int y), (3, .int what)] dX10_nearest_208 (by decide) rfl ?_
                        refine x_aload_n dX10_nearest_210 11 rfl ?_
                        refine x_getR fl_X10_50 rfl rfl dX10_nearest_211 ?_
                        refine x_iload dX10_nearest_214 5 rfl ?_
                        have b35 : vp_in (nI (fb k + j)) 1700 := by exact vp_in_nI (by omega) (by decide)
                        refine x_iald rfl b35 dX10_nearest_216 ?_
                        refine x_topi (y := U4 63 (fb k + j)) (by rw [nI_clamp (by omega)]) ?_
                        refine x_topi (show U4 63 (fb k + j) = S.2.2 1 (fb k + j) from (hF.2.2.1 (fb k + j) (by omega)).2.1) ?_
                        refine x_i2l dX10_nearest_217 ?_
                        refine x_lload dX10_nearest_218 3 rfl ?_
                        refine x_lload dX10_nearest_220 1 rfl ?_
                        refine x_lmul dX10_nearest_222 ?_
                        refine x_lload dX10_nearest_223 2 rfl ?_
                        have nz36 : ¬ (wh64 S (fb k + j + 1) : Int64) = 0 := by exact wh_nz hs
                        refine x_ldiv dX10_nearest_225 nz36 ?_
                        refine x_ladd dX10_nearest_226 ?_
                        refine x_topl (y := np64 S 1 (fb k + j + 1) x y) (by unfold np64; rw [Nat.add_sub_cancel]) ?_
                        refine x_lstore 23 [(23, .long (np64 S 1 (fb k + j + 1) x y)), (21, .long (np64 S 0 (fb k + j + 1) x y)), (19, .long (q64 S (fb k + j + 1) x y)), (17, .long (wh64 S (fb k + j + 1))), (15, .long (d64 S 1 (fb k + j + 1))), (13, .long (d64 S 0 (fb k + j + 1))), (12, .int (nI (fb k + j))), (11, .int (nI k)), (10, .int sn), (8, .long b2), (6, .long bx), (4, .long b), (0, .ref (g.2.1 49)), (1, .int x), (2, .int y), (3, .int what)] dX10_nearest_227 (by decide) rfl ?_
                        refine x_lload dX10_nearest_229 1 rfl ?_
                        refine x_iload_n dX10_nearest_231 13 rfl ?_
                        refine x_i2l dX10_nearest_232 ?_
                        refine x_lsub dX10_nearest_233 ?_
                        refine x_lload dX10_nearest_234 1 rfl ?_
                        refine x_iload_n dX10_nearest_236 13 rfl ?_
                        refine x_i2l dX10_nearest_237 ?_
                        refine x_lsub dX10_nearest_238 ?_
                        refine x_lmul dX10_nearest_239 ?_
                        refine x_lload dX10_nearest_240 0 rfl ?_
                        refine x_iload_n dX10_nearest_242 14 rfl ?_
                        refine x_i2l dX10_nearest_243 ?_
                        refine x_lsub dX10_nearest_244 ?_
                        refine x_lload dX10_nearest_245 0 rfl ?_
                        refine x_iload_n dX10_nearest_247 14 rfl ?_
                        refine x_i2l dX10_nearest_248 ?_
                        refine x_lsub dX10_nearest_249 ?_
                        refine x_lmul dX10_nearest_250 ?_
                        refine x_ladd dX10_nearest_251 ?_
                        refine x_topl (y := nsq64 S (fb k + j + 1) x y) (rfl) ?_
                        refine x_lstore 25 [(25, .long (nsq64 S (fb k + j + 1) x y)), (23, .long (np64 S 1 (fb k + j + 1) x y)), (21, .long (np64 S 0 (fb k + j + 1) x y)), (19, .long (q64 S (fb k + j + 1) x y)), (17, .long (wh64 S (fb k + j + 1))), (15, .long (d64 S 1 (fb k + j + 1))), (13, .long (d64 S 0 (fb k + j + 1))), (12, .int (nI (fb k + j))), (11, .int (nI k)), (10, .int sn), (8, .long b2), (6, .long bx), (4, .long b), (0, .ref (g.2.1 49)), (1, .int x), (2, .int y), (3, .int what)] dX10_nearest_252 (by decide) rfl ?_
                        refine x_lload dX10_nearest_254 12 rfl ?_
                        refine x_lconst (v := 0) dX10_nearest_256 (by decide) ?_
                        refine x_lcmp dX10_nearest_257 ?_
                        refine x_if_lt 269 dX10_nearest_258 (by decide) (fun c37 => ?_) (fun c37 => ?_)
                        · have c37n : b < 0 := lgc_lt.mp c37
                          refine x_lload dX10_nearest_269 0 rfl ?_
                          refine x_lstore 4 [(4, .long (nsq64 S (fb k + j + 1) x y)), (25, .long (nsq64 S (fb k + j + 1) x y)), (23, .long (np64 S 1 (fb k + j + 1) x y)), (21, .long (np64 S 0 (fb k + j + 1) x y)), (19, .long (q64 S (fb k + j + 1) x y)), (17, .long (wh64 S (fb k + j + 1))), (15, .long (d64 S 1 (fb k + j + 1))), (13, .long (d64 S 0 (fb k + j + 1))), (12, .int (nI (fb k + j))), (11, .int (nI k)), (10, .int sn), (8, .long b2), (6, .long bx), (0, .ref (g.2.1 49)), (1, .int x), (2, .int y), (3, .int what)] dX10_nearest_271 (by decide) rfl ?_
                          refine x_lload dX10_nearest_273 3 rfl ?_
                          refine x_lstore 6 [(6, .long (np64 S 0 (fb k + j + 1) x y)), (4, .long (nsq64 S (fb k + j + 1) x y)), (25, .long (nsq64 S (fb k + j + 1) x y)), (23, .long (np64 S 1 (fb k + j + 1) x y)), (21, .long (np64 S 0 (fb k + j + 1) x y)), (19, .long (q64 S (fb k + j + 1) x y)), (17, .long (wh64 S (fb k + j + 1))), (15, .long (d64 S 1 (fb k + j + 1))), (13, .long (d64 S 0 (fb k + j + 1))), (12, .int (nI (fb k + j))), (11, .int (nI k)), (10, .int sn), (8, .long b2), (0, .ref (g.2.1 49)), (1, .int x), (2, .int y), (3, .int what)] dX10_nearest_275 (by decide) rfl ?_
                          refine x_lload dX10_nearest_277 3 rfl ?_
                          refine x_lstore 8 [(8, .long (np64 S 1 (fb k + j + 1) x y)), (6, .long (np64 S 0 (fb k + j + 1) x y)), (4, .long (nsq64 S (fb k + j + 1) x y)), (25, .long (nsq64 S (fb k + j + 1) x y)), (23, .long (np64 S 1 (fb k + j + 1) x y)), (21, .long (np64 S 0 (fb k + j + 1) x y)), (19, .long (q64 S (fb k + j + 1) x y)), (17, .long (wh64 S (fb k + j + 1))), (15, .long (d64 S 1 (fb k + j + 1))), (13, .long (d64 S 0 (fb k + j + 1))), (12, .int (nI (fb k + j))), (11, .int (nI k)), (10, .int sn), (0, .ref (g.2.1 49)), (1, .int x), (2, .int y), (3, .int what)] dX10_nearest_279 (by decide) rfl ?_
                          refine x_aload_n dX10_nearest_281 13 rfl ?_
                          refine x_iload dX10_nearest_282 11 rfl ?_
                          refine x_iload dX10_nearest_284 10 rfl ?_
                          refine x_callV (K := jX10_segmentAt) [.int (nI k), .int (nI (fb k + j))] lk_X10_260 ⟨⟨rfl, rfl⟩, Nat.le_of_ble_eq_true rfl, Nat.le_of_ble_eq_true rfl⟩ rfl rfl (mX10_segmentAt U4 (nI k) (nI (fb k + j))) rfl (Nat.le_of_ble_eq_true rfl) rfl dX10_nearest_286 (kpI ?_)
                          refine x_istore 10 [(10, .int ((nI (fb k + j)) - (nI k))), (8, .long (np64 S 1 (fb k + j + 1) x y)), (6, .long (np64 S 0 (fb k + j + 1) x y)), (4, .long (nsq64 S (fb k + j + 1) x y)), (25, .long (nsq64 S (fb k + j + 1) x y)), (23, .long (np64 S 1 (fb k + j + 1) x y)), (21, .long (np64 S 0 (fb k + j + 1) x y)), (19, .long (q64 S (fb k + j + 1) x y)), (17, .long (wh64 S (fb k + j + 1))), (15, .long (d64 S 1 (fb k + j + 1))), (13, .long (d64 S 0 (fb k + j + 1))), (12, .int (nI (fb k + j))), (11, .int (nI k)), (0, .ref (g.2.1 49)), (1, .int x), (2, .int y), (3, .int what)] dX10_nearest_289 (by decide) rfl ?_
                          refine x_iinc 12 (v := (nI (fb k + j)) + 1) 11 [(12, .int ((nI (fb k + j)) + 1)), (10, .int ((nI (fb k + j)) - (nI k))), (8, .long (np64 S 1 (fb k + j + 1) x y)), (6, .long (np64 S 0 (fb k + j + 1) x y)), (4, .long (nsq64 S (fb k + j + 1) x y)), (25, .long (nsq64 S (fb k + j + 1) x y)), (23, .long (np64 S 1 (fb k + j + 1) x y)), (21, .long (np64 S 0 (fb k + j + 1) x y)), (19, .long (q64 S (fb k + j + 1) x y)), (17, .long (wh64 S (fb k + j + 1))), (15, .long (d64 S 1 (fb k + j + 1))), (13, .long (d64 S 0 (fb k + j + 1))), (11, .int (nI k)), (0, .ref (g.2.1 49)), (1, .int x), (2, .int y), (3, .int what)] dX10_nearest_291 rfl (by rfl) (by decide) rfl ?_
                          refine x_goto 65 dX10_nearest_294 (by decide) ?_
                          refine x_lv [0, 12, 1, 2, 3, 4, 13, 14, 15, 16] rfl ?_
                          refine YY.L (lv' := [(12, .int (nI (fb k + (j + 1)))), (11, .int (nI k)), (10, .int ((nI (fb k + j)) - (nI k))), (8, .long (np64 S 1 (fb k + j + 1) x y)), (6, .long (np64 S 0 (fb k + j + 1) x y)), (4, .long (nsq64 S (fb k + j + 1) x y)), (0, .ref (g.2.1 49)), (1, .int x), (2, .int y), (3, .int what)]) (by rw [nI_1]; rfl) ?_
                          exact ih1 (j + 1) (nsq64 S (fb k + j + 1) x y) (np64 S 0 (fb k + j + 1) x y) (np64 S 1 (fb k + j + 1) x y) ((nI (fb k + j)) - (nI k)) (by omega) (by exact NM_up hx hy (by omega) hN hs (by omega) (Or.inl (show b < 0 by assumption))) (by omega)
                        · have c37n : ¬ (b < 0) := fun q => c37 (lgc_lt.mpr q)
                          refine x_lload dX10_nearest_261 0 rfl ?_
                          refine x_lload dX10_nearest_263 12 rfl ?_
                          refine x_lcmp dX10_nearest_265 ?_
                          refine x_if_ge 291 dX10_nearest_266 (by decide) (fun c38 => ?_) (fun c38 => ?_)
                          · have c38n : b ≤ (nsq64 S (fb k + j + 1) x y) := lgc_ge.mp c38
                            refine x_iinc 12 (v := (nI (fb k + j)) + 1) 7 [(12, .int ((nI (fb k + j)) + 1)), (25, .long (nsq64 S (fb k + j + 1) x y)), (23, .long (np64 S 1 (fb k + j + 1) x y)), (21, .long (np64 S 0 (fb k + j + 1) x y)), (19, .long (q64 S (fb k + j + 1) x y)), (17, .long (wh64 S (fb k + j + 1))), (15, .long (d64 S 1 (fb k + j + 1))), (13, .long (d64 S 0 (fb k + j + 1))), (11, .int (nI k)), (10, .int sn), (8, .long b2), (6, .long bx), (4, .long b), (0, .ref (g.2.1 49)), (1, .int x), (2, .int y), (3, .int what)] dX10_nearest_291 rfl (by rfl) (by decide) rfl ?_
                            refine x_goto 65 dX10_nearest_294 (by decide) ?_
                            refine x_lv [0, 8, 9, 10, 11, 12, 13, 14, 15, 16] rfl ?_
                            refine YY.L (lv' := [(12, .int (nI (fb k + (j + 1)))), (11, .int (nI k)), (10, .int sn), (8, .long b2), (6, .long bx), (4, .long b), (0, .ref (g.2.1 49)), (1, .int x), (2, .int y), (3, .int what)]) (by rw [nI_1]; rfl) ?_
                            exact ih1 (j + 1) b bx b2 sn (by omega) (by exact NM_no hx hy hN hs (show ¬ b < 0 by assumption) (by first | exact (show ¬ nsq64 S (fb k + j + 1) x y < b by assumption) | exact Int64.not_lt.mpr (show b ≤ nsq64 S (fb k + j + 1) x y by assumption))) (by omega)
                          · have c38n : ¬ (b ≤ (nsq64 S (fb k + j + 1) x y)) := fun q => c38 (lgc_ge.mpr q)
                            refine x_lload dX10_nearest_269 0 rfl ?_
                            refine x_lstore 4 [(4, .long (nsq64 S (fb k + j + 1) x y)), (25, .long (nsq64 S (fb k + j + 1) x y)), (23, .long (np64 S 1 (fb k + j + 1) x y)), (21, .long (np64 S 0 (fb k + j + 1) x y)), (19, .long (q64 S (fb k + j + 1) x y)), (17, .long (wh64 S (fb k + j + 1))), (15, .long (d64 S 1 (fb k + j + 1))), (13, .long (d64 S 0 (fb k + j + 1))), (12, .int (nI (fb k + j))), (11, .int (nI k)), (10, .int sn), (8, .long b2), (6, .long bx), (0, .ref (g.2.1 49)), (1, .int x), (2, .int y), (3, .int what)] dX10_nearest_271 (by decide) rfl ?_
                            refine x_lload dX10_nearest_273 3 rfl ?_
                            refine x_lstore 6 [(6, .long (np64 S 0 (fb k + j + 1) x y)), (4, .long (nsq64 S (fb k + j + 1) x y)), (25, .long (nsq64 S (fb k + j + 1) x y)), (23, .long (np64 S 1 (fb k + j + 1) x y)), (21, .long (np64 S 0 (fb k + j + 1) x y)), (19, .long (q64 S (fb k + j + 1) x y)), (17, .long (wh64 S (fb k + j + 1))), (15, .long (d64 S 1 (fb k + j + 1))), (13, .long (d64 S 0 (fb k + j + 1))), (12, .int (nI (fb k + j))), (11, .int (nI k)), (10, .int sn), (8, .long b2), (0, .ref (g.2.1 49)), (1, .int x), (2, .int y), (3, .int what)] dX10_nearest_275 (by decide) rfl ?_
                            refine x_lload dX10_nearest_277 3 rfl ?_
                            refine x_lstore 8 [(8, .long (np64 S 1 (fb k + j + 1) x y)), (6, .long (np64 S 0 (fb k + j + 1) x y)), (4, .long (nsq64 S (fb k + j + 1) x y)), (25, .long (nsq64 S (fb k + j + 1) x y)), (23, .long (np64 S 1 (fb k + j + 1) x y)), (21, .long (np64 S 0 (fb k + j + 1) x y)), (19, .long (q64 S (fb k + j + 1) x y)), (17, .long (wh64 S (fb k + j + 1))), (15, .long (d64 S 1 (fb k + j + 1))), (13, .long (d64 S 0 (fb k + j + 1))), (12, .int (nI (fb k + j))), (11, .int (nI k)), (10, .int sn), (0, .ref (g.2.1 49)), (1, .int x), (2, .int y), (3, .int what)] dX10_nearest_279 (by decide) rfl ?_
                            refine x_aload_n dX10_nearest_281 13 rfl ?_
                            refine x_iload dX10_nearest_282 11 rfl ?_
                            refine x_iload dX10_nearest_284 10 rfl ?_
                            refine x_callV (K := jX10_segmentAt) [.int (nI k), .int (nI (fb k + j))] lk_X10_260 ⟨⟨rfl, rfl⟩, Nat.le_of_ble_eq_true rfl, Nat.le_of_ble_eq_true rfl⟩ rfl rfl (mX10_segmentAt U4 (nI k) (nI (fb k + j))) rfl (Nat.le_of_ble_eq_true rfl) rfl dX10_nearest_286 (kpI ?_)
                            refine x_istore 10 [(10, .int ((nI (fb k + j)) - (nI k))), (8, .long (np64 S 1 (fb k + j + 1) x y)), (6, .long (np64 S 0 (fb k + j + 1) x y)), (4, .long (nsq64 S (fb k + j + 1) x y)), (25, .long (nsq64 S (fb k + j + 1) x y)), (23, .long (np64 S 1 (fb k + j + 1) x y)), (21, .long (np64 S 0 (fb k + j + 1) x y)), (19, .long (q64 S (fb k + j + 1) x y)), (17, .long (wh64 S (fb k + j + 1))), (15, .long (d64 S 1 (fb k + j + 1))), (13, .long (d64 S 0 (fb k + j + 1))), (12, .int (nI (fb k + j))), (11, .int (nI k)), (0, .ref (g.2.1 49)), (1, .int x), (2, .int y), (3, .int what)] dX10_nearest_289 (by decide) rfl ?_
                            refine x_iinc 12 (v := (nI (fb k + j)) + 1) 11 [(12, .int ((nI (fb k + j)) + 1)), (10, .int ((nI (fb k + j)) - (nI k))), (8, .long (np64 S 1 (fb k + j + 1) x y)), (6, .long (np64 S 0 (fb k + j + 1) x y)), (4, .long (nsq64 S (fb k + j + 1) x y)), (25, .long (nsq64 S (fb k + j + 1) x y)), (23, .long (np64 S 1 (fb k + j + 1) x y)), (21, .long (np64 S 0 (fb k + j + 1) x y)), (19, .long (q64 S (fb k + j + 1) x y)), (17, .long (wh64 S (fb k + j + 1))), (15, .long (d64 S 1 (fb k + j + 1))), (13, .long (d64 S 0 (fb k + j + 1))), (11, .int (nI k)), (0, .ref (g.2.1 49)), (1, .int x), (2, .int y), (3, .int what)] dX10_nearest_291 rfl (by rfl) (by decide) rfl ?_
                            refine x_goto 65 dX10_nearest_294 (by decide) ?_
                            refine x_lv [0, 12, 1, 2, 3, 4, 13, 14, 15, 16] rfl ?_
                            refine YY.L (lv' := [(12, .int (nI (fb k + (j + 1)))), (11, .int (nI k)), (10, .int ((nI (fb k + j)) - (nI k))), (8, .long (np64 S 1 (fb k + j + 1) x y)), (6, .long (np64 S 0 (fb k + j + 1) x y)), (4, .long (nsq64 S (fb k + j + 1) x y)), (0, .ref (g.2.1 49)), (1, .int x), (2, .int y), (3, .int what)]) (by rw [nI_1]; rfl) ?_
                            exact ih1 (j + 1) (nsq64 S (fb k + j + 1) x y) (np64 S 0 (fb k + j + 1) x y) (np64 S 1 (fb k + j + 1) x y) ((nI (fb k + j)) - (nI k)) (by omega) (by exact NM_up hx hy (by omega) hN hs (by omega) (Or.inr (by first | exact (show nsq64 S (fb k + j + 1) x y < b by assumption) | exact Int64.not_le.mp (show ¬ b ≤ nsq64 S (fb k + j + 1) x y by assumption)))) (by omega)
                    · have c25n : ¬ (0 ≤ (pt64 S (fb k + j + 1) x y)) := fun q => c25 (lgc_ge.mpr q)
                      refine x_lconst (v := 0) dX10_nearest_170 (by decide) ?_
                      refine x_goto 189 dX10_nearest_171 (by decide) ?_
                      refine x_topl (y := q64 S (fb k + j + 1) x y) (q_a hs (show ¬ 0 ≤ pt64 S (fb k + j + 1) x y by assumption)) ?_
                      refine x_lstore 19 [(19, .long (q64 S (fb k + j + 1) x y)), (17, .long (wh64 S (fb k + j + 1))), (15, .long (d64 S 1 (fb k + j + 1))), (13, .long (d64 S 0 (fb k + j + 1))), (12, .int (nI (fb k + j))), (11, .int (nI k)), (10, .int sn), (8, .long b2), (6, .long bx), (4, .long b), (0, .ref (g.2.1 49)), (1, .int x), (2, .int y), (3, .int what)] dX10_nearest_189 (by decide) rfl ?_
                      refine x_aload_n dX10_nearest_191 10 rfl ?_
                      refine x_getR fl_X10_47 rfl rfl dX10_nearest_192 ?_
                      refine x_iload dX10_nearest_195 4 rfl ?_
                      have b39 : vp_in (nI (fb k + j)) 1700 := by exact vp_in_nI (by omega) (by decide)
                      refine x_iald rfl b39 dX10_nearest_197 ?_
                      refine x_topi (y := U4 62 (fb k + j)) (by rw [nI_clamp (by omega)]) ?_
                      refine x_topi (show U4 62 (fb k + j) = S.2.2 0 (fb k + j) from (hF.2.2.1 (fb k + j) (by omega)).1) ?_
                      refine x_i2l dX10_nearest_198 ?_
                      refine x_lload dX10_nearest_199 3 rfl ?_
                      refine x_lload dX10_nearest_201 0 rfl ?_
                      refine x_lmul dX10_nearest_203 ?_
                      refine x_lload dX10_nearest_204 1 rfl ?_
                      have nz40 : ¬ (wh64 S (fb k + j + 1) : Int64) = 0 := by exact wh_nz hs
                      refine x_ldiv dX10_nearest_206 nz40 ?_
                      refine x_ladd dX10_nearest_207 ?_
                      refine x_topl (y := np64 S 0 (fb k + j + 1) x y) (by unfold np64; rw [Nat.add_sub_cancel]) ?_
                      refine x_lstore 21 [(21, .long (np64 S 0 (fb k + j + 1) x y)), (19, .long (q64 S (fb k + j + 1) x y)), (17, .long (wh64 S (fb k + j + 1))), (15, .long (d64 S 1 (fb k + j + 1))), (13, .long (d64 S 0 (fb k + j + 1))), (12, .int (nI (fb k + j))), (11, .int (nI k)), (10, .int sn), (8, .long b2), (6, .long bx), (4, .long b), (0, .ref (g.2.1 49)), (1, .int x), (2, .int y), (3, .int what)] dX10_nearest_208 (by decide) rfl ?_
                      refine x_aload_n dX10_nearest_210 11 rfl ?_
                      refine x_getR fl_X10_50 rfl rfl dX10_nearest_211 ?_
                      refine x_iload dX10_nearest_214 5 rfl ?_
                      have b41 : vp_in (nI (fb k + j)) 1700 := by exact vp_in_nI (by omega) (by decide)
                      refine x_iald rfl b41 dX10_nearest_216 ?_
                      refine x_topi (y := U4 63 (fb k + j)) (by rw [nI_clamp (by omega)]) ?_
                      refine x_topi (show U4 63 (fb k + j) = S.2.2 1 (fb k + j) from (hF.2.2.1 (fb k + j) (by omega)).2.1) ?_
                      refine x_i2l dX10_nearest_217 ?_
                      refine x_lload dX10_nearest_218 3 rfl ?_
                      refine x_lload dX10_nearest_220 1 rfl ?_
                      refine x_lmul dX10_nearest_222 ?_
                      refine x_lload dX10_nearest_223 2 rfl ?_
                      have nz42 : ¬ (wh64 S (fb k + j + 1) : Int64) = 0 := by exact wh_nz hs
                      refine x_ldiv dX10_nearest_225 nz42 ?_
                      refine x_ladd dX10_nearest_226 ?_
                      refine x_topl (y := np64 S 1 (fb k + j + 1) x y) (by unfold np64; rw [Nat.add_sub_cancel]) ?_
                      refine x_lstore 23 [(23, .long (np64 S 1 (fb k + j + 1) x y)), (21, .long (np64 S 0 (fb k + j + 1) x y)), (19, .long (q64 S (fb k + j + 1) x y)), (17, .long (wh64 S (fb k + j + 1))), (15, .long (d64 S 1 (fb k + j + 1))), (13, .long (d64 S 0 (fb k + j + 1))), (12, .int (nI (fb k + j))), (11, .int (nI k)), (10, .int sn), (8, .long b2), (6, .long bx), (4, .long b), (0, .ref (g.2.1 49)), (1, .int x), (2, .int y), (3, .int what)] dX10_nearest_227 (by decide) rfl ?_
                      refine x_lload dX10_nearest_229 1 rfl ?_
                      refine x_iload_n dX10_nearest_231 13 rfl ?_
                      refine x_i2l dX10_nearest_232 ?_
                      refine x_lsub dX10_nearest_233 ?_
                      refine x_lload dX10_nearest_234 1 rfl ?_
                      refine x_iload_n dX10_nearest_236 13 rfl ?_
                      refine x_i2l dX10_nearest_237 ?_
                      refine x_lsub dX10_nearest_238 ?_
                      refine x_lmul dX10_nearest_239 ?_
                      refine x_lload dX10_nearest_240 0 rfl ?_
                      refine x_iload_n dX10_nearest_242 14 rfl ?_
                      refine x_i2l dX10_nearest_243 ?_
                      refine x_lsub dX10_nearest_244 ?_
                      refine x_lload dX10_nearest_245 0 rfl ?_
                      refine x_iload_n dX10_nearest_247 14 rfl ?_
                      refine x_i2l dX10_nearest_248 ?_
                      refine x_lsub dX10_nearest_249 ?_
                      refine x_lmul dX10_nearest_250 ?_
                      refine x_ladd dX10_nearest_251 ?_
                      refine x_topl (y := nsq64 S (fb k + j + 1) x y) (rfl) ?_
                      refine x_lstore 25 [(25, .long (nsq64 S (fb k + j + 1) x y)), (23, .long (np64 S 1 (fb k + j + 1) x y)), (21, .long (np64 S 0 (fb k + j + 1) x y)), (19, .long (q64 S (fb k + j + 1) x y)), (17, .long (wh64 S (fb k + j + 1))), (15, .long (d64 S 1 (fb k + j + 1))), (13, .long (d64 S 0 (fb k + j + 1))), (12, .int (nI (fb k + j))), (11, .int (nI k)), (10, .int sn), (8, .long b2), (6, .long bx), (4, .long b), (0, .ref (g.2.1 49)), (1, .int x), (2, .int y), (3, .int what)] dX10_nearest_252 (by decide) rfl ?_
                      refine x_lload dX10_nearest_254 12 rfl ?_
                      refine x_lconst (v := 0) dX10_nearest_256 (by decide) ?_
                      refine x_lcmp dX10_nearest_257 ?_
                      refine x_if_lt 269 dX10_nearest_258 (by decide) (fun c43 => ?_) (fun c43 => ?_)
                      · have c43n : b < 0 := lgc_lt.mp c43
                        refine x_lload dX10_nearest_269 0 rfl ?_
                        refine x_lstore 4 [(4, .long (nsq64 S (fb k + j + 1) x y)), (25, .long (nsq64 S (fb k + j + 1) x y)), (23, .long (np64 S 1 (fb k + j + 1) x y)), (21, .long (np64 S 0 (fb k + j + 1) x y)), (19, .long (q64 S (fb k + j + 1) x y)), (17, .long (wh64 S (fb k + j + 1))), (15, .long (d64 S 1 (fb k + j + 1))), (13, .long (d64 S 0 (fb k + j + 1))), (12, .int (nI (fb k + j))), (11, .int (nI k)), (10, .int sn), (8, .long b2), (6, .long bx), (0, .ref (g.2.1 49)), (1, .int x), (2, .int y), (3, .int what)] dX10_nearest_271 (by decide) rfl ?_
                        refine x_lload dX10_nearest_273 3 rfl ?_
                        refine x_lstore 6 [(6, .long (np64 S 0 (fb k + j + 1) x y)), (4, .long (nsq64 S (fb k + j + 1) x y)), (25, .long (nsq64 S (fb k + j + 1) x y)), (23, .long (np64 S 1 (fb k + j + 1) x y)), (21, .long (np64 S 0 (fb k + j + 1) x y)), (19, .long (q64 S (fb k + j + 1) x y)), (17, .long (wh64 S (fb k + j + 1))), (15, .long (d64 S 1 (fb k + j + 1))), (13, .long (d64 S 0 (fb k + j + 1))), (12, .int (nI (fb k + j))), (11, .int (nI k)), (10, .int sn), (8, .long b2), (0, .ref (g.2.1 49)), (1, .int x), (2, .int y), (3, .int what)] dX10_nearest_275 (by decide) rfl ?_
                        refine x_lload dX10_nearest_277 3 rfl ?_
                        refine x_lstore 8 [(8, .long (np64 S 1 (fb k + j + 1) x y)), (6, .long (np64 S 0 (fb k + j + 1) x y)), (4, .long (nsq64 S (fb k + j + 1) x y)), (25, .long (nsq64 S (fb k + j + 1) x y)), (23, .long (np64 S 1 (fb k + j + 1) x y)), (21, .long (np64 S 0 (fb k + j + 1) x y)), (19, .long (q64 S (fb k + j + 1) x y)), (17, .long (wh64 S (fb k + j + 1))), (15, .long (d64 S 1 (fb k + j + 1))), (13, .long (d64 S 0 (fb k + j + 1))), (12, .int (nI (fb k + j))), (11, .int (nI k)), (10, .int sn), (0, .ref (g.2.1 49)), (1, .int x), (2, .int y), (3, .int what)] dX10_nearest_279 (by decide) rfl ?_
                        refine x_aload_n dX10_nearest_281 13 rfl ?_
                        refine x_iload dX10_nearest_282 11 rfl ?_
                        refine x_iload dX10_nearest_284 10 rfl ?_
                        refine x_callV (K := jX10_segmentAt) [.int (nI k), .int (nI (fb k + j))] lk_X10_260 ⟨⟨rfl, rfl⟩, Nat.le_of_ble_eq_true rfl, Nat.le_of_ble_eq_true rfl⟩ rfl rfl (mX10_segmentAt U4 (nI k) (nI (fb k + j))) rfl (Nat.le_of_ble_eq_true rfl) rfl dX10_nearest_286 (kpI ?_)
                        refine x_istore 10 [(10, .int ((nI (fb k + j)) - (nI k))), (8, .long (np64 S 1 (fb k + j + 1) x y)), (6, .long (np64 S 0 (fb k + j + 1) x y)), (4, .long (nsq64 S (fb k + j + 1) x y)), (25, .long (nsq64 S (fb k + j + 1) x y)), (23, .long (np64 S 1 (fb k + j + 1) x y)), (21, .long (np64 S 0 (fb k + j + 1) x y)), (19, .long (q64 S (fb k + j + 1) x y)), (17, .long (wh64 S (fb k + j + 1))), (15, .long (d64 S 1 (fb k + j + 1))), (13, .long (d64 S 0 (fb k + j + 1))), (12, .int (nI (fb k + j))), (11, .int (nI k)), (0, .ref (g.2.1 49)), (1, .int x), (2, .int y), (3, .int what)] dX10_nearest_289 (by decide) rfl ?_
                        refine x_iinc 12 (v := (nI (fb k + j)) + 1) 11 [(12, .int ((nI (fb k + j)) + 1)), (10, .int ((nI (fb k + j)) - (nI k))), (8, .long (np64 S 1 (fb k + j + 1) x y)), (6, .long (np64 S 0 (fb k + j + 1) x y)), (4, .long (nsq64 S (fb k + j + 1) x y)), (25, .long (nsq64 S (fb k + j + 1) x y)), (23, .long (np64 S 1 (fb k + j + 1) x y)), (21, .long (np64 S 0 (fb k + j + 1) x y)), (19, .long (q64 S (fb k + j + 1) x y)), (17, .long (wh64 S (fb k + j + 1))), (15, .long (d64 S 1 (fb k + j + 1))), (13, .long (d64 S 0 (fb k + j + 1))), (11, .int (nI k)), (0, .ref (g.2.1 49)), (1, .int x), (2, .int y), (3, .int what)] dX10_nearest_291 rfl (by rfl) (by decide) rfl ?_
                        refine x_goto 65 dX10_nearest_294 (by decide) ?_
                        refine x_lv [0, 12, 1, 2, 3, 4, 13, 14, 15, 16] rfl ?_
                        refine YY.L (lv' := [(12, .int (nI (fb k + (j + 1)))), (11, .int (nI k)), (10, .int ((nI (fb k + j)) - (nI k))), (8, .long (np64 S 1 (fb k + j + 1) x y)), (6, .long (np64 S 0 (fb k + j + 1) x y)), (4, .long (nsq64 S (fb k + j + 1) x y)), (0, .ref (g.2.1 49)), (1, .int x), (2, .int y), (3, .int what)]) (by rw [nI_1]; rfl) ?_
                        exact ih1 (j + 1) (nsq64 S (fb k + j + 1) x y) (np64 S 0 (fb k + j + 1) x y) (np64 S 1 (fb k + j + 1) x y) ((nI (fb k + j)) - (nI k)) (by omega) (by exact NM_up hx hy (by omega) hN hs (by omega) (Or.inl (show b < 0 by assumption))) (by omega)
                      · have c43n : ¬ (b < 0) := fun q => c43 (lgc_lt.mpr q)
                        refine x_lload dX10_nearest_261 0 rfl ?_
                        refine x_lload dX10_nearest_263 12 rfl ?_
                        refine x_lcmp dX10_nearest_265 ?_
                        refine x_if_ge 291 dX10_nearest_266 (by decide) (fun c44 => ?_) (fun c44 => ?_)
                        · have c44n : b ≤ (nsq64 S (fb k + j + 1) x y) := lgc_ge.mp c44
                          refine x_iinc 12 (v := (nI (fb k + j)) + 1) 7 [(12, .int ((nI (fb k + j)) + 1)), (25, .long (nsq64 S (fb k + j + 1) x y)), (23, .long (np64 S 1 (fb k + j + 1) x y)), (21, .long (np64 S 0 (fb k + j + 1) x y)), (19, .long (q64 S (fb k + j + 1) x y)), (17, .long (wh64 S (fb k + j + 1))), (15, .long (d64 S 1 (fb k + j + 1))), (13, .long (d64 S 0 (fb k + j + 1))), (11, .int (nI k)), (10, .int sn), (8, .long b2), (6, .long bx), (4, .long b), (0, .ref (g.2.1 49)), (1, .int x), (2, .int y), (3, .int what)] dX10_nearest_291 rfl (by rfl) (by decide) rfl ?_
                          refine x_goto 65 dX10_nearest_294 (by decide) ?_
                          refine x_lv [0, 8, 9, 10, 11, 12, 13, 14, 15, 16] rfl ?_
                          refine YY.L (lv' := [(12, .int (nI (fb k + (j + 1)))), (11, .int (nI k)), (10, .int sn), (8, .long b2), (6, .long bx), (4, .long b), (0, .ref (g.2.1 49)), (1, .int x), (2, .int y), (3, .int what)]) (by rw [nI_1]; rfl) ?_
                          exact ih1 (j + 1) b bx b2 sn (by omega) (by exact NM_no hx hy hN hs (show ¬ b < 0 by assumption) (by first | exact (show ¬ nsq64 S (fb k + j + 1) x y < b by assumption) | exact Int64.not_lt.mpr (show b ≤ nsq64 S (fb k + j + 1) x y by assumption))) (by omega)
                        · have c44n : ¬ (b ≤ (nsq64 S (fb k + j + 1) x y)) := fun q => c44 (lgc_ge.mpr q)
                          refine x_lload dX10_nearest_269 0 rfl ?_
                          refine x_lstore 4 [(4, .long (nsq64 S (fb k + j + 1) x y)), (25, .long (nsq64 S (fb k + j + 1) x y)), (23, .long (np64 S 1 (fb k + j + 1) x y)), (21, .long (np64 S 0 (fb k + j + 1) x y)), (19, .long (q64 S (fb k + j + 1) x y)), (17, .long (wh64 S (fb k + j + 1))), (15, .long (d64 S 1 (fb k + j + 1))), (13, .long (d64 S 0 (fb k + j + 1))), (12, .int (nI (fb k + j))), (11, .int (nI k)), (10, .int sn), (8, .long b2), (6, .long bx), (0, .ref (g.2.1 49)), (1, .int x), (2, .int y), (3, .int what)] dX10_nearest_271 (by decide) rfl ?_
                          refine x_lload dX10_nearest_273 3 rfl ?_
                          refine x_lstore 6 [(6, .long (np64 S 0 (fb k + j + 1) x y)), (4, .long (nsq64 S (fb k + j + 1) x y)), (25, .long (nsq64 S (fb k + j + 1) x y)), (23, .long (np64 S 1 (fb k + j + 1) x y)), (21, .long (np64 S 0 (fb k + j + 1) x y)), (19, .long (q64 S (fb k + j + 1) x y)), (17, .long (wh64 S (fb k + j + 1))), (15, .long (d64 S 1 (fb k + j + 1))), (13, .long (d64 S 0 (fb k + j + 1))), (12, .int (nI (fb k + j))), (11, .int (nI k)), (10, .int sn), (8, .long b2), (0, .ref (g.2.1 49)), (1, .int x), (2, .int y), (3, .int what)] dX10_nearest_275 (by decide) rfl ?_
                          refine x_lload dX10_nearest_277 3 rfl ?_
                          refine x_lstore 8 [(8, .long (np64 S 1 (fb k + j + 1) x y)), (6, .long (np64 S 0 (fb k + j + 1) x y)), (4, .long (nsq64 S (fb k + j + 1) x y)), (25, .long (nsq64 S (fb k + j + 1) x y)), (23, .long (np64 S 1 (fb k + j + 1) x y)), (21, .long (np64 S 0 (fb k + j + 1) x y)), (19, .long (q64 S (fb k + j + 1) x y)), (17, .long (wh64 S (fb k + j + 1))), (15, .long (d64 S 1 (fb k + j + 1))), (13, .long (d64 S 0 (fb k + j + 1))), (12, .int (nI (fb k + j))), (11, .int (nI k)), (10, .int sn), (0, .ref (g.2.1 49)), (1, .int x), (2, .int y), (3, .int what)] dX10_nearest_279 (by decide) rfl ?_
                          refine x_aload_n dX10_nearest_281 13 rfl ?_
                          refine x_iload dX10_nearest_282 11 rfl ?_
                          refine x_iload dX10_nearest_284 10 rfl ?_
                          refine x_callV (K := jX10_segmentAt) [.int (nI k), .int (nI (fb k + j))] lk_X10_260 ⟨⟨rfl, rfl⟩, Nat.le_of_ble_eq_true rfl, Nat.le_of_ble_eq_true rfl⟩ rfl rfl (mX10_segmentAt U4 (nI k) (nI (fb k + j))) rfl (Nat.le_of_ble_eq_true rfl) rfl dX10_nearest_286 (kpI ?_)
                          refine x_istore 10 [(10, .int ((nI (fb k + j)) - (nI k))), (8, .long (np64 S 1 (fb k + j + 1) x y)), (6, .long (np64 S 0 (fb k + j + 1) x y)), (4, .long (nsq64 S (fb k + j + 1) x y)), (25, .long (nsq64 S (fb k + j + 1) x y)), (23, .long (np64 S 1 (fb k + j + 1) x y)), (21, .long (np64 S 0 (fb k + j + 1) x y)), (19, .long (q64 S (fb k + j + 1) x y)), (17, .long (wh64 S (fb k + j + 1))), (15, .long (d64 S 1 (fb k + j + 1))), (13, .long (d64 S 0 (fb k + j + 1))), (12, .int (nI (fb k + j))), (11, .int (nI k)), (0, .ref (g.2.1 49)), (1, .int x), (2, .int y), (3, .int what)] dX10_nearest_289 (by decide) rfl ?_
                          refine x_iinc 12 (v := (nI (fb k + j)) + 1) 11 [(12, .int ((nI (fb k + j)) + 1)), (10, .int ((nI (fb k + j)) - (nI k))), (8, .long (np64 S 1 (fb k + j + 1) x y)), (6, .long (np64 S 0 (fb k + j + 1) x y)), (4, .long (nsq64 S (fb k + j + 1) x y)), (25, .long (nsq64 S (fb k + j + 1) x y)), (23, .long (np64 S 1 (fb k + j + 1) x y)), (21, .long (np64 S 0 (fb k + j + 1) x y)), (19, .long (q64 S (fb k + j + 1) x y)), (17, .long (wh64 S (fb k + j + 1))), (15, .long (d64 S 1 (fb k + j + 1))), (13, .long (d64 S 0 (fb k + j + 1))), (11, .int (nI k)), (0, .ref (g.2.1 49)), (1, .int x), (2, .int y), (3, .int what)] dX10_nearest_291 rfl (by rfl) (by decide) rfl ?_
                          refine x_goto 65 dX10_nearest_294 (by decide) ?_
                          refine x_lv [0, 12, 1, 2, 3, 4, 13, 14, 15, 16] rfl ?_
                          refine YY.L (lv' := [(12, .int (nI (fb k + (j + 1)))), (11, .int (nI k)), (10, .int ((nI (fb k + j)) - (nI k))), (8, .long (np64 S 1 (fb k + j + 1) x y)), (6, .long (np64 S 0 (fb k + j + 1) x y)), (4, .long (nsq64 S (fb k + j + 1) x y)), (0, .ref (g.2.1 49)), (1, .int x), (2, .int y), (3, .int what)]) (by rw [nI_1]; rfl) ?_
                          exact ih1 (j + 1) (nsq64 S (fb k + j + 1) x y) (np64 S 0 (fb k + j + 1) x y) (np64 S 1 (fb k + j + 1) x y) ((nI (fb k + j)) - (nI k)) (by omega) (by exact NM_up hx hy (by omega) hN hs (by omega) (Or.inr (by first | exact (show nsq64 S (fb k + j + 1) x y < b by assumption) | exact Int64.not_le.mp (show ¬ b ≤ nsq64 S (fb k + j + 1) x y by assumption)))) (by omega)
              refine YY.L (lv' := [(12, .int (nI (fb k + 0))), (11, .int (nI k)), (10, .int sn), (8, .long b2), (6, .long bx), (4, .long b), (0, .ref (g.2.1 49)), (1, .int x), (2, .int y), (3, .int what)]) (by rfl) ?_
              exact lp13 _ 0 b bx b2 sn (by omega) (by exact hN) (Nat.lt_succ_self _)
        refine YY.L (lv' := [(11, .int (nI 0)), (10, .int 0), (8, .long 0), (6, .long 0), (4, .long (-1)), (0, .ref (g.2.1 49)), (1, .int x), (2, .int y), (3, .int what)]) (by rfl) ?_
        exact lp6 _ 0 (-1) 0 0 0 (by omega) (by exact Or.inl ⟨rfl, rfl⟩) (Nat.lt_succ_self _)
      · have c3n : ¬ (0 ≤ what ∧ what ≤ 3) := iB_0.mp c3
        refine x_ldc ct_X10_88 dX10_nearest_23 ?_
        refine x_iret dX10_nearest_25 rfl ?_
        rw [hQ]
        first
          | exact ⟨_, rfl, (nrZ_no (fun q => by first | exact absurd q.1 (by assumption) | exact absurd q.2.1 (by assumption) | exact absurd q.2.2 (by assumption))).symm, hMQ, frM.refl V⟩
          | (have hN2 : NM S x y (nsO S fb x y S.2.1) b bx b2 sn := by rw [show S.2.1 = k by omega]; exact hN
             have he := NM_end (what := what) hG h24 hR hx hy hN2
             refine ⟨_, rfl, ?_, hMQ2, hFr⟩
             first
               | exact (nrZ_0 ⟨hx, hy, by assumption⟩ (he.1 (by first | assumption | exact Int64.not_le.mp (by assumption)))).symm
               | (have h2 := he.2 (by first | assumption | exact Int64.not_lt.mpr (by assumption))
                  rw [nrZ_1 ⟨hx, hy, by assumption⟩ h2.1]
                  first | exact h2.2.1 (by assumption) | exact h2.2.2.1 (by assumption) | exact h2.2.2.2.1 (by assumption) | exact h2.2.2.2.2 (by assumption) (by assumption) (by assumption)))
