theorem kz_t {n j : Nat} (h : j = 0 ∨ j = n - 1) : ¬ kz n j = 0 := by
  unfold kz; rw [if_pos h]; decide
theorem upd_last {K : Nat → Int32} {w l : Nat} (h : ¬ K l = 0) : ¬ upd K w 1 l = 0 := by
  unfold upd
  split
  · decide
  · exact h
set_option maxHeartbeats 4000000 in
set_option maxRecDepth 100000 in
theorem mX10_simplified {g : gX} {V : vM} {m : Nat → Int32} {N : Nat} {t : Int32} {S : FS} {fb : Nat → Nat} (hMQ : MZ V m N t S fb) (c lim x : Int32) : MM g jX10_simplified V [.ref (g.2.1 49), .int c, .int lim, .int x] (eI (fun z U => z = smZ S fb c lim x ∧ MZ U m N t S fb ∧ frN V U)) := by
  refine MM.of plX10_simplified (Nat.le_of_ble_eq_true rfl) ?_
  obtain ⟨Q, hQ⟩ : ∃ Q : Option Value → vM → Prop, Q = (eI (fun z U => z = smZ S fb c lim x ∧ MZ U m N t S fb ∧ frN V U)) := ⟨_, rfl⟩
  rw [← hQ]
  show XX g jX10_simplified Q V 0 [(0, .ref (g.2.1 49)), (1, .int c), (2, .int lim), (3, .int x)] []
  obtain ⟨hw, hm50, hN8, ht9, hS, hG, h24, h15, hcn, hL⟩ := id hMQ
  have hN24 := hw.1
  have hcl := cntM_le (kd7 m) N
  refine x_aload_n dX10_simplified_0 0 rfl ?_
  refine x_iload_n dX10_simplified_1 1 rfl ?_
  refine x_callV (K := jX10_isContour) [.int c] lk_X10_123 ⟨⟨rfl, rfl⟩, Nat.le_of_ble_eq_true rfl, Nat.le_of_ble_eq_true rfl⟩ rfl rfl (by have := mX10_isContour (g := g) V N hw.1 (by rw [hm50]; exact hN8) (by rw [hm50]; exact hw) c; rw [hm50, ← hcn] at this; exact this) rfl (Nat.le_of_ble_eq_true rfl) rfl dX10_simplified_2 (kpI ?_)
  refine x_if_ne 11 dX10_simplified_5 (by decide) (fun c1 => ?_) (fun c1 => ?_)
  · have c1n : (0 ≤ c ∧ c < nI S.2.1) := Classical.not_not.mp (fun q => c1 (iB_0.mpr q))
    refine x_iload_n dX10_simplified_11 2 rfl ?_
    refine x_iconst (v := 0) dX10_simplified_12 (by decide) ?_
    refine x_sipush (v := 1000) dX10_simplified_13 (by decide) ?_
    refine x_callS (K := jX10_in) [.int lim, .int 0, .int 1000] lk_X10_80 ⟨⟨rfl, rfl⟩, Nat.le_of_ble_eq_true rfl, Nat.le_of_ble_eq_true rfl⟩ (mX10_in V lim 0 1000) rfl (Nat.le_of_ble_eq_true rfl) rfl dX10_simplified_16 (kpI ?_)
    refine x_if_ne 25 dX10_simplified_19 (by decide) (fun c2 => ?_) (fun c2 => ?_)
    · have c2n : (0 ≤ lim ∧ lim ≤ 1000) := Classical.not_not.mp (fun q => c2 (iB_0.mpr q))
      obtain ⟨k, hk0, hkS⟩ := nI_ex (c := c) (n := S.2.1) (by omega) (by assumption)
      refine YY.L (lv' := [(0, .ref (g.2.1 49)), (1, .int (nI k)), (2, .int lim), (3, .int x)]) (by rw [hk0]) ?_
      have hkb := hG.bd (j := k + 1) (by omega)
      have hkl := (hG.2.2.2 k hkS).1
      refine x_aload_n dX10_simplified_25 0 rfl ?_
      refine x_callV (K := jX10_flatten) [] lk_X10_111 ⟨⟨rfl, rfl⟩, Nat.le_of_ble_eq_true rfl, Nat.le_of_ble_eq_true rfl⟩ rfl rfl (mX10_flatten V hw hm50 hN8 t ht9) rfl (Nat.le_of_ble_eq_true rfl) rfl dX10_simplified_26 (keV fun U3 hU4 => ?_)
      have hMQ2 := hMQ.aft hU4
      have hFr := hU4.2.2
      have hF : FRM U3 S N := by rw [← hS]; exact hU4.1
      have hE : U3 65 S.2.1 = nI S.1 := by rw [← hS]; exact hU4.2.1
      have hmU := hMQ2.2.1
      obtain ⟨p, ep⟩ : ∃ z : Nat, z = fb k := ⟨_, rfl⟩
      obtain ⟨n, en⟩ : ∃ z : Nat, z = fb (k + 1) - fb k := ⟨_, rfl⟩
      have hUk : U3 65 k = nI p := by rw [ep]; exact hF.bo hE hG (by omega)
      have hUk1 : U3 65 (k + 1) = nI (p + n) := by rw [hF.bo hE hG (by omega)]; congr 1; omega
      have hR := fall_inr hw hS
      have hF0 := hF
      have hE0 := hE
      refine x_aload_n dX10_simplified_29 0 rfl ?_
      refine x_getR fl_X10_56 rfl rfl dX10_simplified_30 ?_
      refine x_iload_n dX10_simplified_33 1 rfl ?_
      have b5 : vp_in (nI k) 26 := by exact vp_in_nI (by omega) (by decide)
      refine x_iald rfl b5 dX10_simplified_34 ?_
      refine x_topi (y := U3 65 k) (by rw [nI_clamp (by omega)]) ?_
      refine x_topi (hUk) ?_
      refine x_istore 4 [(4, .int (nI p)), (0, .ref (g.2.1 49)), (1, .int (nI k)), (2, .int lim), (3, .int x)] dX10_simplified_35 (by decide) rfl ?_
      refine x_aload_n dX10_simplified_37 1 rfl ?_
      refine x_getR fl_X10_56 rfl rfl dX10_simplified_38 ?_
      refine x_iload_n dX10_simplified_41 2 rfl ?_
      refine x_iconst (v := 1) dX10_simplified_42 (by decide) ?_
      refine x_iadd dX10_simplified_43 ?_
      have q6 : ((nI k) + 1 : Int32) = nI (k + 1) := nadd (rfl) (rfl)
      refine YY.S (st' := [.int (nI (k + 1)), .ref (g.2.1 65)]) (by rw [q6]) ?_
      have b7 : vp_in (nI (k + 1)) 26 := by exact vp_in_nI (by omega) (by decide)
      refine x_iald rfl b7 dX10_simplified_44 ?_
      refine x_topi (y := U3 65 (k + 1)) (by rw [nI_clamp (by omega)]) ?_
      refine x_topi (hUk1) ?_
      refine x_iconst (v := 1) dX10_simplified_45 (by decide) ?_
      refine x_isub dX10_simplified_46 ?_
      refine x_istore 5 [(5, .int ((nI (p + n)) - 1)), (4, .int (nI p)), (0, .ref (g.2.1 49)), (1, .int (nI k)), (2, .int lim), (3, .int x)] dX10_simplified_47 (by decide) rfl ?_
      refine x_iload dX10_simplified_49 1 rfl ?_
      refine x_istore 6 [(6, .int (nI p)), (5, .int ((nI (p + n)) - 1)), (4, .int (nI p)), (0, .ref (g.2.1 49)), (1, .int (nI k)), (2, .int lim), (3, .int x)] dX10_simplified_51 (by decide) rfl ?_
      have lp8 : ∀ (fu : Nat) (j : Nat) (U : vM), (j ≤ n) → (fr69 U3 U) → (∀ i, i < j → U 69 (p + i) = kz n i) → (n - j) < fu → XX g jX10_simplified Q U 53 [(6, .int (nI (p + j))), (5, .int ((nI (p + n)) - 1)), (4, .int (nI p)), (0, .ref (g.2.1 49)), (1, .int (nI k)), (2, .int lim), (3, .int x)] [] := by
        intro fu
        induction fu with
        | zero => intro _ _ _ _ _ hmz; exact absurd hmz (Nat.not_lt_zero _)
        | succ fu ih =>
          intro j U hj hfU hK hmz
          refine x_iload dX10_simplified_53 0 rfl ?_
          refine x_iload dX10_simplified_55 1 rfl ?_
          refine x_icmp_gt 92 dX10_simplified_57 (by decide) (fun c9 => ?_) (fun c9 => ?_)
          · have c9n : (p + n) - 1 < p + j := (nl_lt (a := (p + n) - 1) (b := p + j) (nsub (by omega) (rfl) (rfl)) (rfl) (by omega) (by omega)).mp c9
            refine x_iload dX10_simplified_92 2 rfl ?_
            refine x_istore 6 [(6, .int (nI p)), (5, .int ((nI (p + n)) - 1)), (4, .int (nI p)), (0, .ref (g.2.1 49)), (1, .int (nI k)), (2, .int lim), (3, .int x)] dX10_simplified_94 (by decide) rfl ?_
            have lp10 : ∀ (fu1 : Nat) (r : Nat) (f : Nat) (K : Nat → Int32) (U : vM), (f ≤ n - 1) → (fr69 U3 U) → (∀ i, i < n → U 69 (p + i) = K i) → (¬ K (n - 1) = 0) → (uc K n + (n - 1 - f) < r) → (smp S p n lim r K f = smp S p n lim (2 * n) (kz n) 0) → (uc K n + (n - 1 - f)) < fu1 → XX g jX10_simplified Q U 96 [(6, .int (nI (p + f))), (5, .int ((nI (p + n)) - 1)), (4, .int (nI p)), (0, .ref (g.2.1 49)), (1, .int (nI k)), (2, .int lim), (3, .int x)] [] := by
              intro fu1
              induction fu1 with
              | zero => intro _ _ _ _ _ _ _ _ _ _ hmz; exact absurd hmz (Nat.not_lt_zero _)
              | succ fu1 ih1 =>
                intro r f K U hf hfU hK hl hr hS2 hmz
                have hF := hF0.ag (fun a i _ q => hfU a i (by omega))
                have hE := hE0
                rw [← hfU 65 S.2.1 (by omega)] at hE
                refine x_iload dX10_simplified_96 0 rfl ?_
                refine x_iload dX10_simplified_98 1 rfl ?_
                refine x_icmp_ge 159 dX10_simplified_100 (by decide) (fun c11 => ?_) (fun c11 => ?_)
                · have c11n : (p + n) - 1 ≤ p + f := (nl_le (a := (p + n) - 1) (b := p + f) (nsub (by omega) (rfl) (rfl)) (rfl) (by omega) (by omega)).mp c11
                  have hMQ3 := hMQ2.ag (fun i => hfU 50 i (by omega))
                  have hFr3 := hFr.N.trans hfU.N
                  have hkcl := kc_le K
                  have hKe : smp S p n lim (2 * n) (kz n) 0 = K := by rw [← hS2, smp_e (by omega)]
                  refine x_iconst (v := 0) dX10_simplified_159 (by decide) ?_
                  refine x_istore 7 [(7, .int 0), (6, .int (nI (p + f))), (5, .int ((nI (p + n)) - 1)), (4, .int (nI p)), (0, .ref (g.2.1 49)), (1, .int (nI k)), (2, .int lim), (3, .int x)] dX10_simplified_160 (by decide) rfl ?_
                  refine x_iload dX10_simplified_162 3 rfl ?_
                  refine x_istore 8 [(8, .int (nI p)), (7, .int 0), (6, .int (nI (p + f))), (5, .int ((nI (p + n)) - 1)), (4, .int (nI p)), (0, .ref (g.2.1 49)), (1, .int (nI k)), (2, .int lim), (3, .int x)] dX10_simplified_164 (by decide) rfl ?_
                  have lp12 : ∀ (fu2 : Nat) (i : Nat), (i ≤ n) → (kvL K x (n - i) i = kvL K x n 0) → (n - i) < fu2 → XX g jX10_simplified Q U 166 [(8, .int (nI (p + i))), (7, .int (nI (kc K i))), (6, .int (nI (p + f))), (5, .int ((nI (p + n)) - 1)), (4, .int (nI p)), (0, .ref (g.2.1 49)), (1, .int (nI k)), (2, .int lim), (3, .int x)] [] := by
                    intro fu2
                    induction fu2 with
                    | zero => intro _ _ _ hmz; exact absurd hmz (Nat.not_lt_zero _)
                    | succ fu2 ih2 =>
                      intro i hi hv hmz
                      refine x_iload dX10_simplified_166 0 rfl ?_
                      refine x_iload dX10_simplified_168 3 rfl ?_
                      refine x_icmp_gt 204 dX10_simplified_170 (by decide) (fun c13 => ?_) (fun c13 => ?_)
                      · have c13n : (p + n) - 1 < p + i := (nl_lt (a := (p + n) - 1) (b := p + i) (nsub (by omega) (rfl) (rfl)) (rfl) (by omega) (by omega)).mp c13
                        refine x_iload_n dX10_simplified_204 8 rfl ?_
                        refine x_iconst (v := -1) dX10_simplified_205 (by decide) ?_
                        refine x_icmp_ne 214 dX10_simplified_206 (by decide) (fun c14 => ?_) (fun c14 => ?_)
                        · refine x_ldc ct_X10_103 dX10_simplified_214 ?_
                          refine x_iret dX10_simplified_216 rfl ?_
                          rw [hQ]
                          first
                            | exact ⟨_, rfl, (smZ_no (by assumption)).symm, hMQ, frN.refl V⟩
                            | exact ⟨_, rfl, (smZ_l (by assumption) (by assumption)).symm, hMQ, frN.refl V⟩
                            | (refine ⟨_, rfl, ?_, hMQ3, hFr3⟩
                               rw [smZ_k h24 hk0 hkS (by assumption), ← en, ← ep, smR, hKe]
                               first
                                 | rw [if_neg (fun q => by have hx := (show nI (kc K i) = x by assumption); rw [q] at hx; exact nI_nm1 (by have := hkcl i; omega) hx), ← hv, show n - i = (n - (i + 1)) + 1 by omega, kvL_hit (by assumption) (by assumption)]
                                 | rw [if_pos (by assumption), show i = n by omega]
                                 | (rw [if_neg (by assumption), ← hv, show n - i = 0 by omega]; rfl))
                        · refine x_iload dX10_simplified_209 1 rfl ?_
                          refine x_goto 216 dX10_simplified_211 (by decide) ?_
                          refine x_iret dX10_simplified_216 rfl ?_
                          rw [hQ]
                          first
                            | exact ⟨_, rfl, (smZ_no (by assumption)).symm, hMQ, frN.refl V⟩
                            | exact ⟨_, rfl, (smZ_l (by assumption) (by assumption)).symm, hMQ, frN.refl V⟩
                            | (refine ⟨_, rfl, ?_, hMQ3, hFr3⟩
                               rw [smZ_k h24 hk0 hkS (by assumption), ← en, ← ep, smR, hKe]
                               first
                                 | rw [if_neg (fun q => by have hx := (show nI (kc K i) = x by assumption); rw [q] at hx; exact nI_nm1 (by have := hkcl i; omega) hx), ← hv, show n - i = (n - (i + 1)) + 1 by omega, kvL_hit (by assumption) (by assumption)]
                                 | rw [if_pos (by assumption), show i = n by omega]
                                 | (rw [if_neg (by assumption), ← hv, show n - i = 0 by omega]; rfl))
                      · have c13n : p + i ≤ (p + n) - 1 := Nat.not_lt.mp (fun q => c13 ((nl_lt (a := (p + n) - 1) (b := p + i) (nsub (by omega) (rfl) (rfl)) (rfl) (by omega) (by omega)).mpr q))
                        refine x_aload_n dX10_simplified_173 5 rfl ?_
                        refine x_getR fl_X10_68 rfl rfl dX10_simplified_174 ?_
                        refine x_iload dX10_simplified_177 0 rfl ?_
                        have b15 : vp_in (nI (p + i)) 1700 := by exact vp_in_nI (by omega) (by decide)
                        refine x_zald rfl b15 dX10_simplified_179 ?_
                        refine x_topi (y := U 69 (p + i)) (by rw [nI_clamp (by omega)]) ?_
                        refine x_topi (hK i (by omega)) ?_
                        refine x_if_eq 198 dX10_simplified_180 (by decide) (fun c16 => ?_) (fun c16 => ?_)
                        · refine x_iinc 8 (v := (nI (p + i)) + 1) 0 [(8, .int ((nI (p + i)) + 1)), (7, .int (nI (kc K i))), (6, .int (nI (p + f))), (5, .int ((nI (p + n)) - 1)), (4, .int (nI p)), (0, .ref (g.2.1 49)), (1, .int (nI k)), (2, .int lim), (3, .int x)] dX10_simplified_198 rfl (by rfl) (by decide) rfl ?_
                          refine x_goto 166 dX10_simplified_201 (by decide) ?_
                          refine YY.L (lv' := [(8, .int (nI (p + (i + 1)))), (7, .int (nI (kc K (i + 1)))), (6, .int (nI (p + f))), (5, .int ((nI (p + n)) - 1)), (4, .int (nI p)), (0, .ref (g.2.1 49)), (1, .int (nI k)), (2, .int lim), (3, .int x)]) (by first | (rw [kc_z (by assumption), nI_1] <;> rfl) | (rw [kc_n (by assumption), nI_1, nI_1] <;> rfl)) ?_
                          exact ih2 (i + 1) (by omega) (by rw [← hv, show n - i = (n - (i + 1)) + 1 by omega, kvL_miss (fun q => by first | exact absurd (by assumption) q.1 | exact absurd q.2 (by assumption))]) (by omega)
                        · refine x_iload dX10_simplified_183 1 rfl ?_
                          refine x_iload_n dX10_simplified_185 8 rfl ?_
                          refine x_icmp_ne 195 dX10_simplified_186 (by decide) (fun c17 => ?_) (fun c17 => ?_)
                          · refine x_iinc 7 (v := (nI (kc K i)) + 1) 1 [(7, .int ((nI (kc K i)) + 1)), (8, .int (nI (p + i))), (6, .int (nI (p + f))), (5, .int ((nI (p + n)) - 1)), (4, .int (nI p)), (0, .ref (g.2.1 49)), (1, .int (nI k)), (2, .int lim), (3, .int x)] dX10_simplified_195 rfl (by rfl) (by decide) rfl ?_
                            refine x_iinc 8 (v := (nI (p + i)) + 1) 1 [(8, .int ((nI (p + i)) + 1)), (7, .int ((nI (kc K i)) + 1)), (6, .int (nI (p + f))), (5, .int ((nI (p + n)) - 1)), (4, .int (nI p)), (0, .ref (g.2.1 49)), (1, .int (nI k)), (2, .int lim), (3, .int x)] dX10_simplified_198 rfl (by rfl) (by decide) rfl ?_
                            refine x_goto 166 dX10_simplified_201 (by decide) ?_
                            refine YY.L (lv' := [(8, .int (nI (p + (i + 1)))), (7, .int (nI (kc K (i + 1)))), (6, .int (nI (p + f))), (5, .int ((nI (p + n)) - 1)), (4, .int (nI p)), (0, .ref (g.2.1 49)), (1, .int (nI k)), (2, .int lim), (3, .int x)]) (by first | (rw [kc_z (by assumption), nI_1] <;> rfl) | (rw [kc_n (by assumption), nI_1, nI_1] <;> rfl)) ?_
                            exact ih2 (i + 1) (by omega) (by rw [← hv, show n - i = (n - (i + 1)) + 1 by omega, kvL_miss (fun q => by first | exact absurd (by assumption) q.1 | exact absurd q.2 (by assumption))]) (by omega)
                          · refine x_iload dX10_simplified_189 0 rfl ?_
                            refine x_iload dX10_simplified_191 4 rfl ?_
                            refine x_isub dX10_simplified_193 ?_
                            refine x_topi (y := nI i) (by rw [nsub (a := p + i) (b := p) (by omega) rfl rfl, Nat.add_sub_cancel_left]) ?_
                            refine x_iret dX10_simplified_194 rfl ?_
                            rw [hQ]
                            first
                              | exact ⟨_, rfl, (smZ_no (by assumption)).symm, hMQ, frN.refl V⟩
                              | exact ⟨_, rfl, (smZ_l (by assumption) (by assumption)).symm, hMQ, frN.refl V⟩
                              | (refine ⟨_, rfl, ?_, hMQ3, hFr3⟩
                                 rw [smZ_k h24 hk0 hkS (by assumption), ← en, ← ep, smR, hKe]
                                 first
                                   | rw [if_neg (fun q => by have hx := (show nI (kc K i) = x by assumption); rw [q] at hx; exact nI_nm1 (by have := hkcl i; omega) hx), ← hv, show n - i = (n - (i + 1)) + 1 by omega, kvL_hit (by assumption) (by assumption)]
                                   | rw [if_pos (by assumption), show i = n by omega]
                                   | (rw [if_neg (by assumption), ← hv, show n - i = 0 by omega]; rfl))
                  refine YY.L (lv' := [(8, .int (nI (p + 0))), (7, .int (nI (kc K 0))), (6, .int (nI (p + f))), (5, .int ((nI (p + n)) - 1)), (4, .int (nI p)), (0, .ref (g.2.1 49)), (1, .int (nI k)), (2, .int lim), (3, .int x)]) (by rfl) ?_
                  exact lp12 _ 0 (by omega) (by rfl) (Nat.lt_succ_self _)
                · have c11n : p + f < (p + n) - 1 := Nat.not_le.mp (fun q => c11 ((nl_le (a := (p + n) - 1) (b := p + f) (nsub (by omega) (rfl) (rfl)) (rfl) (by omega) (by omega)).mpr q))
                  refine x_iload dX10_simplified_103 0 rfl ?_
                  refine x_iconst (v := 1) dX10_simplified_105 (by decide) ?_
                  refine x_iadd dX10_simplified_106 ?_
                  refine x_istore 7 [(7, .int ((nI (p + f)) + 1)), (6, .int (nI (p + f))), (5, .int ((nI (p + n)) - 1)), (4, .int (nI p)), (0, .ref (g.2.1 49)), (1, .int (nI k)), (2, .int lim), (3, .int x)] dX10_simplified_107 (by decide) rfl ?_
                  have lp18 : ∀ (fu2 : Nat) (i : Nat), (f + 1 ≤ i ∧ i ≤ n - 1) → (nkL K (n - 1 - i) i = nk K f n) → (n - i) < fu2 → XX g jX10_simplified Q U 109 [(7, .int (nI (p + i))), (6, .int (nI (p + f))), (5, .int ((nI (p + n)) - 1)), (4, .int (nI p)), (0, .ref (g.2.1 49)), (1, .int (nI k)), (2, .int lim), (3, .int x)] [] := by
                    intro fu2
                    induction fu2 with
                    | zero => intro _ _ _ hmz; exact absurd hmz (Nat.not_lt_zero _)
                    | succ fu2 ih2 =>
                      intro i hi hv hmz
                      refine x_aload_n dX10_simplified_109 4 rfl ?_
                      refine x_getR fl_X10_68 rfl rfl dX10_simplified_110 ?_
                      refine x_iload dX10_simplified_113 0 rfl ?_
                      have b19 : vp_in (nI (p + i)) 1700 := by exact vp_in_nI (by omega) (by decide)
                      refine x_zald rfl b19 dX10_simplified_115 ?_
                      refine x_topi (y := U 69 (p + i)) (by rw [nI_clamp (by omega)]) ?_
                      refine x_topi (hK i (by omega)) ?_
                      refine x_if_ne 125 dX10_simplified_116 (by decide) (fun c20 => ?_) (fun c20 => ?_)
                      · have hin : i = nk K f n := by rw [← hv, nkL_hit (by assumption)]
                        have hnb := nk_b K (f := f) (n := n) (by omega)
                        refine YY.L (lv' := [(7, .int (nI (p + nk K f n))), (6, .int (nI (p + f))), (5, .int ((nI (p + n)) - 1)), (4, .int (nI p)), (0, .ref (g.2.1 49)), (1, .int (nI k)), (2, .int lim), (3, .int x)]) (by rw [hin]) ?_
                        have hwb := wR_b S lim (a := p + f) (b := p + nk K f n) (by omega)
                        refine x_aload_n dX10_simplified_125 4 rfl ?_
                        refine x_iload dX10_simplified_126 1 rfl ?_
                        refine x_iload dX10_simplified_128 0 rfl ?_
                        refine x_iload_n dX10_simplified_130 6 rfl ?_
                        refine x_callV (K := jX10_farthest) [.int (nI (p + f)), .int (nI (p + nk K f n)), .int lim] lk_X10_274 ⟨⟨rfl, rfl⟩, Nat.le_of_ble_eq_true rfl, Nat.le_of_ble_eq_true rfl⟩ rfl rfl (mX10_farthest hF hE hG h24 h15 hR (p + f) (p + nk K f n) (by omega) (by omega) lim) rfl (Nat.le_of_ble_eq_true rfl) rfl dX10_simplified_131 (kpI ?_)
                        refine x_istore 8 [(8, .int (fnd (p + f) (wR S (p + f) (p + nk K f n) lim))), (7, .int (nI (p + nk K f n))), (6, .int (nI (p + f))), (5, .int ((nI (p + n)) - 1)), (4, .int (nI p)), (0, .ref (g.2.1 49)), (1, .int (nI k)), (2, .int lim), (3, .int x)] dX10_simplified_134 (by decide) rfl ?_
                        rcases Nat.eq_or_lt_of_le hwb.1 with hw0 | hw0
                        · -- case 0
                          refine YY.L (lv' := [(8, .int (-1000006)), (7, .int (nI (p + nk K f n))), (6, .int (nI (p + f))), (5, .int ((nI (p + n)) - 1)), (4, .int (nI p)), (0, .ref (g.2.1 49)), (1, .int (nI k)), (2, .int lim), (3, .int x)]) (by rw [fnd, if_pos hw0.symm]) ?_
                          refine x_iload dX10_simplified_136 0 rfl ?_
                          refine x_if_lt 152 dX10_simplified_138 (by decide) (fun c21 => ?_) (fun c21 => by exfalso; revert c21; decide)
                          refine x_iload dX10_simplified_152 1 rfl ?_
                          refine x_istore 6 [(6, .int (nI (p + nk K f n))), (8, .int (-1000006)), (7, .int (nI (p + nk K f n))), (5, .int ((nI (p + n)) - 1)), (4, .int (nI p)), (0, .ref (g.2.1 49)), (1, .int (nI k)), (2, .int lim), (3, .int x)] dX10_simplified_154 (by decide) rfl ?_
                          refine x_goto 96 dX10_simplified_156 (by decide) ?_
                          refine x_lv [0, 3, 4, 5, 6, 7, 8] rfl ?_
                          refine YY.L (lv' := [(6, .int (nI (p + (nk K f n)))), (5, .int ((nI (p + n)) - 1)), (4, .int (nI p)), (0, .ref (g.2.1 49)), (1, .int (nI k)), (2, .int lim), (3, .int x)]) (by rfl) ?_
                          exact ih1 (r - 1) (nk K f n) K U (by omega) (by exact hfU) (by exact hK) (by exact hl) (by omega) (by obtain ⟨r1, rfl⟩ : ∃ z, r = z + 1 := ⟨r - 1, by omega⟩; rw [Nat.add_sub_cancel]; rw [← hS2, smp_f (by omega) (by omega)]) (by omega)
                        · -- case 1
                          refine YY.L (lv' := [(8, .int (nI (wR S (p + f) (p + nk K f n) lim))), (7, .int (nI (p + nk K f n))), (6, .int (nI (p + f))), (5, .int ((nI (p + n)) - 1)), (4, .int (nI p)), (0, .ref (g.2.1 49)), (1, .int (nI k)), (2, .int lim), (3, .int x)]) (by rw [fnd_v hw0]) ?_
                          refine x_iload dX10_simplified_136 0 rfl ?_
                          refine x_if_lt 152 dX10_simplified_138 (by decide) (fun c22 => by exfalso; exact absurd c22 (nI_pos (by omega))) (fun c22 => ?_)
                          refine x_aload_n dX10_simplified_141 5 rfl ?_
                          refine x_getR fl_X10_68 rfl rfl dX10_simplified_142 ?_
                          refine x_iload dX10_simplified_145 0 rfl ?_
                          refine x_iconst (v := 1) dX10_simplified_147 (by decide) ?_
                          have b23 : vp_in (nI (wR S (p + f) (p + nk K f n) lim)) 1700 := by exact vp_in_nI (by omega) (by decide)
                          refine x_zast rfl b23 dX10_simplified_148 ?_
                          refine YY.V (V' := uM U 69 (wR S (p + f) (p + nk K f n) lim) (vp_nar .boolean 1)) (by rw [nI_clamp (by omega)]) ?_
                          obtain ⟨U24, eU24⟩ : ∃ v_v : vM, v_v = uM U 69 (wR S (p + f) (p + nk K f n) lim) (vp_nar .boolean 1) := ⟨_, rfl⟩
                          refine YY.V eU24.symm ?_
                          refine x_goto 156 dX10_simplified_149 (by decide) ?_
                          refine x_goto 96 dX10_simplified_156 (by decide) ?_
                          refine x_lv [2, 3, 4, 5, 6, 7, 8] rfl ?_
                          exact ih1 (r - 1) f (upd K (wR S (p + f) (p + nk K f n) lim - p) 1) U24 (by omega) (by exact hfU.st eU24) (by exact K_up hK (by rw [eU24, show p + (wR S (p + f) (p + nk K f n) lim - p) = wR S (p + f) (p + nk K f n) lim by omega])) (by exact upd_last hl) (by have hz := (uc_up (K := K) (w := wR S (p + f) (p + nk K f n) lim - p) (nk_z (f := f) (n := n) (by omega) (by omega)) n).2 (by omega); omega) (by obtain ⟨r1, rfl⟩ : ∃ z, r = z + 1 := ⟨r - 1, by omega⟩; rw [Nat.add_sub_cancel]; rw [← hS2, smp_t (by omega) (by omega)]) (by have hz := (uc_up (K := K) (w := wR S (p + f) (p + nk K f n) lim - p) (nk_z (f := f) (n := n) (by omega) (by omega)) n).2 (by omega); omega)
                      · refine x_iinc 7 (v := (nI (p + i)) + 1) 0 [(7, .int ((nI (p + i)) + 1)), (6, .int (nI (p + f))), (5, .int ((nI (p + n)) - 1)), (4, .int (nI p)), (0, .ref (g.2.1 49)), (1, .int (nI k)), (2, .int lim), (3, .int x)] dX10_simplified_119 rfl (by rfl) (by decide) rfl ?_
                        refine x_goto 109 dX10_simplified_122 (by decide) ?_
                        refine YY.L (lv' := [(7, .int (nI (p + (i + 1)))), (6, .int (nI (p + f))), (5, .int ((nI (p + n)) - 1)), (4, .int (nI p)), (0, .ref (g.2.1 49)), (1, .int (nI k)), (2, .int lim), (3, .int x)]) (by rw [nI_1] <;> rfl) ?_
                        exact ih2 (i + 1) (by by_cases q : i = n - 1; (subst q; exact absurd (by assumption) hl); omega) (by by_cases q : i = n - 1; (subst q; exact absurd (by assumption) hl); rw [← hv, show n - 1 - i = (n - 1 - (i + 1)) + 1 by omega, nkL_miss (by assumption)]) (by omega)
                  refine YY.L (lv' := [(7, .int (nI (p + (f + 1)))), (6, .int (nI (p + f))), (5, .int ((nI (p + n)) - 1)), (4, .int (nI p)), (0, .ref (g.2.1 49)), (1, .int (nI k)), (2, .int lim), (3, .int x)]) (by rw [nI_1]; rfl) ?_
                  exact lp18 _ (f + 1) (by omega) (by rfl) (Nat.lt_succ_self _)
            refine YY.L (lv' := [(6, .int (nI (p + 0))), (5, .int ((nI (p + n)) - 1)), (4, .int (nI p)), (0, .ref (g.2.1 49)), (1, .int (nI k)), (2, .int lim), (3, .int x)]) (by rfl) ?_
            exact lp10 _ (2 * n) 0 (kz n) U (by omega) (by exact hfU) (by exact fun i hi => hK i (by omega)) (by exact kz_t (by omega)) (by have := uc_le (kz n) (kz_t (by omega)) (n - 1); rw [show n - 1 + 1 = n by omega] at this; omega) (by rfl) (Nat.lt_succ_self _)
          · have c9n : p + j ≤ (p + n) - 1 := Nat.not_lt.mp (fun q => c9 ((nl_lt (a := (p + n) - 1) (b := p + j) (nsub (by omega) (rfl) (rfl)) (rfl) (by omega) (by omega)).mpr q))
            refine x_aload_n dX10_simplified_60 3 rfl ?_
            refine x_getR fl_X10_68 rfl rfl dX10_simplified_61 ?_
            refine x_iload dX10_simplified_64 0 rfl ?_
            refine x_iload dX10_simplified_66 0 rfl ?_
            refine x_iload dX10_simplified_68 2 rfl ?_
            refine x_icmp_eq 80 dX10_simplified_70 (by decide) (fun c25 => ?_) (fun c25 => ?_)
            · have c25n : p + j = p := (nl_eq (a := p + j) (b := p) (rfl) (rfl) (by omega) (by omega)).mp c25
              refine x_iconst (v := 1) dX10_simplified_80 (by decide) ?_
              refine x_goto 85 dX10_simplified_81 (by decide) ?_
              have b26 : vp_in (nI (p + j)) 1700 := by exact vp_in_nI (by omega) (by decide)
              refine x_zast rfl b26 dX10_simplified_85 ?_
              refine YY.V (V' := uM U 69 (p + j) (vp_nar .boolean 1)) (by rw [nI_clamp (by omega)]) ?_
              obtain ⟨U27, eU27⟩ : ∃ v_v : vM, v_v = uM U 69 (p + j) (vp_nar .boolean 1) := ⟨_, rfl⟩
              refine YY.V eU27.symm ?_
              refine x_iinc 6 (v := (nI (p + j)) + 1) 0 [(6, .int ((nI (p + j)) + 1)), (5, .int ((nI (p + n)) - 1)), (4, .int (nI p)), (0, .ref (g.2.1 49)), (1, .int (nI k)), (2, .int lim), (3, .int x)] dX10_simplified_86 rfl (by rfl) (by decide) rfl ?_
              refine x_goto 53 dX10_simplified_89 (by decide) ?_
              refine YY.L (lv' := [(6, .int (nI (p + (j + 1)))), (5, .int ((nI (p + n)) - 1)), (4, .int (nI p)), (0, .ref (g.2.1 49)), (1, .int (nI k)), (2, .int lim), (3, .int x)]) (by rw [nI_1] <;> rfl) ?_
              exact ih (j + 1) U27 (by omega) (by exact hfU.st eU27) (by exact kz_up hK eU27 (kz_1 (by omega))) (by omega)
            · have c25n : ¬ p + j = p := fun q => c25 ((nl_eq (a := p + j) (b := p) (rfl) (rfl) (by omega) (by omega)).mpr q)
              refine x_iload dX10_simplified_73 0 rfl ?_
              refine x_iload dX10_simplified_75 1 rfl ?_
              refine x_icmp_ne 84 dX10_simplified_77 (by decide) (fun c28 => ?_) (fun c28 => ?_)
              · have c28n : ¬ p + j = (p + n) - 1 := fun q => c28 ((nl_eq (a := p + j) (b := (p + n) - 1) (rfl) (nsub (by omega) (rfl) (rfl)) (by omega) (by omega)).mpr q)
                refine x_iconst (v := 0) dX10_simplified_84 (by decide) ?_
                have b29 : vp_in (nI (p + j)) 1700 := by exact vp_in_nI (by omega) (by decide)
                refine x_zast rfl b29 dX10_simplified_85 ?_
                refine YY.V (V' := uM U 69 (p + j) (vp_nar .boolean 0)) (by rw [nI_clamp (by omega)]) ?_
                obtain ⟨U30, eU30⟩ : ∃ v_v : vM, v_v = uM U 69 (p + j) (vp_nar .boolean 0) := ⟨_, rfl⟩
                refine YY.V eU30.symm ?_
                refine x_iinc 6 (v := (nI (p + j)) + 1) 0 [(6, .int ((nI (p + j)) + 1)), (5, .int ((nI (p + n)) - 1)), (4, .int (nI p)), (0, .ref (g.2.1 49)), (1, .int (nI k)), (2, .int lim), (3, .int x)] dX10_simplified_86 rfl (by rfl) (by decide) rfl ?_
                refine x_goto 53 dX10_simplified_89 (by decide) ?_
                refine YY.L (lv' := [(6, .int (nI (p + (j + 1)))), (5, .int ((nI (p + n)) - 1)), (4, .int (nI p)), (0, .ref (g.2.1 49)), (1, .int (nI k)), (2, .int lim), (3, .int x)]) (by rw [nI_1] <;> rfl) ?_
                exact ih (j + 1) U30 (by omega) (by exact hfU.st eU30) (by exact kz_up hK eU30 (kz_0 (by omega))) (by omega)
              · have c28n : p + j = (p + n) - 1 := (nl_eq (a := p + j) (b := (p + n) - 1) (rfl) (nsub (by omega) (rfl) (rfl)) (by omega) (by omega)).mp c28
                refine x_iconst (v := 1) dX10_simplified_80 (by decide) ?_
                refine x_goto 85 dX10_simplified_81 (by decide) ?_
                have b31 : vp_in (nI (p + j)) 1700 := by exact vp_in_nI (by omega) (by decide)
                refine x_zast rfl b31 dX10_simplified_85 ?_
                refine YY.V (V' := uM U 69 (p + j) (vp_nar .boolean 1)) (by rw [nI_clamp (by omega)]) ?_
                obtain ⟨U32, eU32⟩ : ∃ v_v : vM, v_v = uM U 69 (p + j) (vp_nar .boolean 1) := ⟨_, rfl⟩
                refine YY.V eU32.symm ?_
                refine x_iinc 6 (v := (nI (p + j)) + 1) 0 [(6, .int ((nI (p + j)) + 1)), (5, .int ((nI (p + n)) - 1)), (4, .int (nI p)), (0, .ref (g.2.1 49)), (1, .int (nI k)), (2, .int lim), (3, .int x)] dX10_simplified_86 rfl (by rfl) (by decide) rfl ?_
                refine x_goto 53 dX10_simplified_89 (by decide) ?_
                refine YY.L (lv' := [(6, .int (nI (p + (j + 1)))), (5, .int ((nI (p + n)) - 1)), (4, .int (nI p)), (0, .ref (g.2.1 49)), (1, .int (nI k)), (2, .int lim), (3, .int x)]) (by rw [nI_1] <;> rfl) ?_
                exact ih (j + 1) U32 (by omega) (by exact hfU.st eU32) (by exact kz_up hK eU32 (kz_1 (by omega))) (by omega)
      refine YY.L (lv' := [(6, .int (nI (p + 0))), (5, .int ((nI (p + n)) - 1)), (4, .int (nI p)), (0, .ref (g.2.1 49)), (1, .int (nI k)), (2, .int lim), (3, .int x)]) (by rfl) ?_
      exact lp8 _ 0 U3 (by omega) (by exact fr69.refl _) (by exact fun i hi => absurd hi (Nat.not_lt_zero _)) (Nat.lt_succ_self _)
    · have c2n : ¬ (0 ≤ lim ∧ lim ≤ 1000) := iB_0.mp c2
      refine x_ldc ct_X10_88 dX10_simplified_22 ?_
      refine x_iret dX10_simplified_24 rfl ?_
      rw [hQ]
      first
        | exact ⟨_, rfl, (smZ_no (by assumption)).symm, hMQ, frN.refl V⟩
        | exact ⟨_, rfl, (smZ_l (by assumption) (by assumption)).symm, hMQ, frN.refl V⟩
        | (refine ⟨_, rfl, ?_, hMQ3, hFr3⟩
           rw [smZ_k h24 hk0 hkS (by assumption), ← en, ← ep, smR, hKe]
           first
             | rw [if_neg (fun q => by have hx := (show nI (kc K i) = x by assumption); rw [q] at hx; exact nI_nm1 (by have := hkcl i; omega) hx), ← hv, show n - i = (n - (i + 1)) + 1 by omega, kvL_hit (by assumption) (by assumption)]
             | rw [if_pos (by assumption), show i = n by omega]
             | (rw [if_neg (by assumption), ← hv, show n - i = 0 by omega]; rfl))
  · have c1n : ¬ (0 ≤ c ∧ c < nI S.2.1) := iB_0.mp c1
    refine x_ldc ct_X10_107 dX10_simplified_8 ?_
    refine x_iret dX10_simplified_10 rfl ?_
    rw [hQ]
    first
      | exact ⟨_, rfl, (smZ_no (by assumption)).symm, hMQ, frN.refl V⟩
      | exact ⟨_, rfl, (smZ_l (by assumption) (by assumption)).symm, hMQ, frN.refl V⟩
      | (refine ⟨_, rfl, ?_, hMQ3, hFr3⟩
         rw [smZ_k h24 hk0 hkS (by assumption), ← en, ← ep, smR, hKe]
         first
           | rw [if_neg (fun q => by have hx := (show nI (kc K i) = x by assumption); rw [q] at hx; exact nI_nm1 (by have := hkcl i; omega) hx), ← hv, show n - i = (n - (i + 1)) + 1 by omega, kvL_hit (by assumption) (by assumption)]
           | rw [if_pos (by assumption), show i = n by omega]
           | (rw [if_neg (by assumption), ← hv, show n - i = 0 by omega]; rfl))
