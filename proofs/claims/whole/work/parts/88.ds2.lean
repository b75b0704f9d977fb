theorem neg_nI {a : Nat} (h : a < 2 ^ 31) : (-(nI a)).toInt = - (a : Int) := by
  rw [fb_negI] <;> rw [nI_toInt h] <;> omega
theorem ds_q {ph : Nat} {d : Nat → Nat} {n : Nat} : dsE ph d n (n * (ph / dsP d n)) = - ((ph % dsP d n : Nat) : Int) := by
  unfold dsE
  rw [dsT_p]
  have := Nat.div_add_mod ph (dsP d n)
  rw [Nat.mul_comm] at this
  omega
/-- every round but the first finds a dash -/
theorem ds_cnt {ph : Nat} {d : Nat → Nat} {n : Nat} {L : Int} (h0 : 0 < n) (hn2 : n % 2 = 0) (hd : ∀ i, i < n → 1 ≤ d i ∧ d i ≤ 100000) {j : Nat} (h1 : 0 ≤ dsE ph d n (n * j)) (h2 : dsE ph d n (n * j) < L) : (dsL ph d n L (n * j)).length + 1 ≤ (dsL ph d n L (n * (j + 1))).length := by
  obtain ⟨R, e⟩ := dsL_m ph d n L (n - 1) (n * j + 1)
  rw [show n * j + 1 + (n - 1) = n * (j + 1) by rw [Nat.mul_succ]; omega] at e
  have b := dsE_s ph d n (n * j)
  have dd := hd ((n * j) % n) (Nat.mod_lt _ h0)
  have ev : n * j % 2 = 0 := by rw [show n * j = n / 2 * 2 * j by rw [show n / 2 * 2 = n by omega], Nat.mul_right_comm]; omega
  rw [e, List.length_append, dsL, if_pos ev, List.length_append, iv_some h1 h2 (by omega)]
  omega
set_option maxHeartbeats 1000000 in
set_option maxRecDepth 100000 in
theorem mX0_layAlong {g : gX} (V : vM) (n ph : Nat) (d : Nat → Nat) (hD : DCc V n ph d) (hn2 : n % 2 = 0) (h0 : 0 < n) (len : Int32) (hLb : len.toInt ≤ 300000000) : MM g jX0_layAlong V [.ref (g.2.1 8), .int len] (eI (fun z U => z = nI (min (dsA ph d n len.toInt).length 1001) ∧ DRr U (dsA ph d n len.toInt) ∧ fr8 V U)) := by
  refine MM.of plX0_layAlong (Nat.le_of_ble_eq_true rfl) ?_
  obtain ⟨Q, hQ⟩ : ∃ Q : Option Value → vM → Prop, Q = (eI (fun z U => z = nI (min (dsA ph d n len.toInt).length 1001) ∧ DRr U (dsA ph d n len.toInt) ∧ fr8 V U)) := ⟨_, rfl⟩
  rw [← hQ]
  show XX g jX0_layAlong Q V 0 [(0, .ref (g.2.1 8)), (1, .int len)] []
  have hd := hD.2.2.2.2.2
  have hn6 := hD.2.1
  have hph := hD.2.2.2.1
  refine x_aload_n dX0_layAlong_0 0 rfl ?_
  refine x_iconst (v := 0) dX0_layAlong_1 (by decide) ?_
  refine x_putI fp_X0_21 rfl rfl dX0_layAlong_2 ?_
  obtain ⟨U1, eU1⟩ : ∃ v_v : vM, v_v = uM V 8 3 0 := ⟨_, rfl⟩
  refine YY.V eU1.symm ?_
  refine x_iconst (v := 0) dX0_layAlong_5 (by decide) ?_
  refine x_istore_n 2 [(2, .int 0), (0, .ref (g.2.1 8)), (1, .int len)] dX0_layAlong_6 rfl (by decide) rfl ?_
  refine x_iconst (v := 0) dX0_layAlong_7 (by decide) ?_
  refine x_istore_n 3 [(3, .int 0), (2, .int 0), (0, .ref (g.2.1 8)), (1, .int len)] dX0_layAlong_8 rfl (by decide) rfl ?_
  have lp2 : ∀ (fu : Nat) (i : Nat), (i ≤ n) → (n - i) < fu → XX g jX0_layAlong Q U1 9 [(3, .int (nI i)), (2, .int (nI (dsP d i))), (0, .ref (g.2.1 8)), (1, .int len)] [] := by
    intro fu
    induction fu with
    | zero => intro _ _ hmz; exact absurd hmz (Nat.not_lt_zero _)
    | succ fu ih =>
      intro i hi hmz
      have hpi := dsP_b hd i hi
      refine x_iload_n dX0_layAlong_9 0 rfl ?_
      refine x_aload_n dX0_layAlong_10 2 rfl ?_
      refine x_getI fl_X0_25 rfl rfl dX0_layAlong_11 ?_
      refine x_topi (y := V 8 4) (by rw [eU1, uM_ni (by decide)]) ?_
      refine x_topi (hD.1) ?_
      refine x_icmp_ge 32 dX0_layAlong_14 (by decide) (fun c3 => ?_) (fun c3 => ?_)
      · have c3n : n ≤ i := (nl_le (a := n) (b := i) (rfl) (rfl) (by omega) (by omega)).mp c3
        refine YY.L (lv' := [(3, .int (nI i)), (2, .int (nI (dsP d n))), (0, .ref (g.2.1 8)), (1, .int len)]) (by rw [show i = n by omega]) ?_
        refine x_iload_n dX0_layAlong_32 1 rfl ?_
        refine x_if_gt 38 dX0_layAlong_33 (by decide) (fun c4 => ?_) (fun c4 => by exfalso; have hpz := dsP_b hd n (Nat.le_refl _); exact c4 ((nI_ltI (a := 0) (by omega) (by omega)).mpr (by omega)))
        refine x_aload_n dX0_layAlong_38 2 rfl ?_
        refine x_getI fl_X0_28 rfl rfl dX0_layAlong_39 ?_
        refine x_topi (y := V 8 5) (by rw [eU1, uM_ni (by decide)]) ?_
        refine x_topi (hD.2.2.1) ?_
        refine x_iload_n dX0_layAlong_42 1 rfl ?_
        have nz5 : ¬ (nI (dsP d n) : Int32) = 0 := by exact nI_ne (b := 0) (by have := dsP_b hd n (Nat.le_refl _); omega) (by omega) (by have := dsP_b hd n (Nat.le_refl _); omega)
        refine x_irem dX0_layAlong_43 nz5 ?_
        refine x_ineg dX0_layAlong_44 ?_
        have hpn := dsP_b hd n (Nat.le_refl _)
        obtain ⟨x0, ex0⟩ : ∃ z : Int32, z = -(nI ph - nI ph / nI (dsP d n) * nI (dsP d n)) := ⟨_, rfl⟩
        have hml := Nat.mod_lt ph (show 0 < dsP d n by omega)
        have hx0 : x0.toInt = dsE ph d n (n * (ph / dsP d n)) := by rw [ex0, nI_mod (by omega) (by omega) (by omega), neg_nI (by omega), ds_q]
        refine x_topi (y := x0) ex0.symm ?_
        have hf0 : fr8 V U1 := fun a i q1 q2 q3 => by rw [eU1, uM_at, if_neg (fun q => q3 q.1 q.2)]
        have hmle := Nat.mod_le ph (dsP d n)
        have hq0 : dsE ph d n (n * (ph / dsP d n)) ≤ 0 := by rw [ds_q]; omega
        have hq1 : -100000 ≤ dsE ph d n (n * (ph / dsP d n)) := by rw [ds_q]; omega
        have hr0 : DRr U1 (dsL ph d n len.toInt (n * (ph / dsP d n))) := by rw [dsL_pre h0 hd _ hq0]; exact ⟨by rw [eU1, uM_hit]; rfl, fun i q => absurd q (Nat.not_lt_zero _)⟩
        refine x_istore_n 3 [(3, .int x0), (2, .int (nI (dsP d n))), (0, .ref (g.2.1 8)), (1, .int len)] dX0_layAlong_45 rfl (by decide) rfl ?_
        refine x_iconst (v := 0) dX0_layAlong_46 (by decide) ?_
        refine x_istore 4 [(4, .int 0), (3, .int x0), (2, .int (nI (dsP d n))), (0, .ref (g.2.1 8)), (1, .int len)] dX0_layAlong_47 (by decide) rfl ?_
        have lp6 : ∀ (fu1 : Nat) (r : Nat) (x : Int32) (U : vM), (r ≤ 2000) → (x.toInt = dsE ph d n (n * (ph / dsP d n + r))) → (dsE ph d n (n * (ph / dsP d n + r)) ≤ 300600000) → (-100000 ≤ dsE ph d n (n * (ph / dsP d n + r)) ∧ (0 < r → 0 ≤ dsE ph d n (n * (ph / dsP d n + r)))) → (r ≤ (dsL ph d n len.toInt (n * (ph / dsP d n + r))).length + 1) → (DRr U (dsL ph d n len.toInt (n * (ph / dsP d n + r)))) → (fr8 V U) → (2000 - r) < fu1 → XX g jX0_layAlong Q U 49 [(4, .int (nI r)), (3, .int x), (2, .int (nI (dsP d n))), (0, .ref (g.2.1 8)), (1, .int len)] [] := by
          intro fu1
          induction fu1 with
          | zero => intro _ _ _ _ _ _ _ _ _ _ hmz; exact absurd hmz (Nat.not_lt_zero _)
          | succ fu1 ih1 =>
            intro r x U hr hx hxb hxp hc hDR hfU hmz
            refine x_iload dX0_layAlong_49 0 rfl ?_
            refine x_sipush (v := 2000) dX0_layAlong_51 (by decide) ?_
            refine x_icmp_ge 78 dX0_layAlong_54 (by decide) (fun c7 => ?_) (fun c7 => ?_)
            · have c7n : 2000 ≤ r := (nl_le (a := 2000) (b := r) (rfl) (rfl) (by omega) (by omega)).mp c7
              refine x_aload_n dX0_layAlong_78 3 rfl ?_
              refine x_getI fl_X0_21 rfl rfl dX0_layAlong_79 ?_
              refine x_topi (y := nI (min (dsL ph d n len.toInt (n * (ph / dsP d n + r))).length 1001)) hDR.1 ?_
              refine x_iret dX0_layAlong_82 rfl ?_
              rw [hQ]
              have hfin : dsF ph d n len.toInt (n * (ph / dsP d n + r)) := by
                first
                  | exact Or.inl (by rw [← hx]; exact Int32.le_iff_toInt_le.mp (by assumption))
                  | exact Or.inr (by omega)
              have he := dsF_A h0 hd hfin
              exact ⟨_, rfl, by rw [he.1], hDR.eqL he, hfU⟩
            · have c7n : r < 2000 := Nat.not_le.mp (fun q => c7 ((nl_le (a := 2000) (b := r) (rfl) (rfl) (by omega) (by omega)).mpr q))
              refine x_iload_n dX0_layAlong_57 1 rfl ?_
              refine x_iload_n dX0_layAlong_58 4 rfl ?_
              refine x_icmp_ge 78 dX0_layAlong_59 (by decide) (fun c8 => ?_) (fun c8 => ?_)
              · refine x_aload_n dX0_layAlong_78 3 rfl ?_
                refine x_getI fl_X0_21 rfl rfl dX0_layAlong_79 ?_
                refine x_topi (y := nI (min (dsL ph d n len.toInt (n * (ph / dsP d n + r))).length 1001)) hDR.1 ?_
                refine x_iret dX0_layAlong_82 rfl ?_
                rw [hQ]
                have hfin : dsF ph d n len.toInt (n * (ph / dsP d n + r)) := by
                  first
                    | exact Or.inl (by rw [← hx]; exact Int32.le_iff_toInt_le.mp (by assumption))
                    | exact Or.inr (by omega)
                have he := dsF_A h0 hd hfin
                exact ⟨_, rfl, by rw [he.1], hDR.eqL he, hfU⟩
              · refine x_aload_n dX0_layAlong_62 3 rfl ?_
                refine x_iload_n dX0_layAlong_63 1 rfl ?_
                refine x_iload_n dX0_layAlong_64 4 rfl ?_
                refine x_callV (K := jX0_layPattern) [.int x, .int len] lk_X0_31 ⟨⟨rfl, rfl⟩, Nat.le_of_ble_eq_true rfl, Nat.le_of_ble_eq_true rfl⟩ rfl rfl (mX0_layPattern U n ph d (hD.ag (fun a i q => hfU a i (by omega) (by omega) (by omega))) hn2 h0 len.toInt len rfl hLb (ph / dsP d n + r) x hx (by rw [← hx]; exact Int32.lt_iff_toInt_lt.mp (Int32.not_le.mp (by assumption))) (by omega) hDR) rfl (Nat.le_of_ble_eq_true rfl) rfl dX0_layAlong_65 (keV fun U9 hU10 => ?_)
                obtain ⟨hDR2, hf8⟩ := hU10
                refine x_iload_n dX0_layAlong_68 1 rfl ?_
                refine x_iload_n dX0_layAlong_69 2 rfl ?_
                refine x_iadd dX0_layAlong_70 ?_
                have hxL : dsE ph d n (n * (ph / dsP d n + r)) < len.toInt := by rw [← hx]; exact Int32.lt_iff_toInt_lt.mp (Int32.not_le.mp (by assumption))
                obtain ⟨x3, ex3⟩ : ∃ z : Int32, z = x + nI (dsP d n) := ⟨_, rfl⟩
                have hx3 : x3.toInt = dsE ph d n (n * (ph / dsP d n + (r + 1))) := by rw [ex3, add_i hx (by omega) (by omega) (by omega), ← Nat.add_assoc, dsE_n]
                refine x_topi (y := x3) ex3.symm ?_
                refine x_istore_n 3 [(3, .int x3), (4, .int (nI r)), (2, .int (nI (dsP d n))), (0, .ref (g.2.1 8)), (1, .int len)] dX0_layAlong_71 rfl (by decide) rfl ?_
                refine x_iinc 4 (v := (nI r) + 1) 1 [(4, .int ((nI r) + 1)), (3, .int x3), (2, .int (nI (dsP d n))), (0, .ref (g.2.1 8)), (1, .int len)] dX0_layAlong_72 rfl (by rfl) (by decide) rfl ?_
                refine x_goto 49 dX0_layAlong_75 (by decide) ?_
                refine YY.L (lv' := [(4, .int (nI (r + 1))), (3, .int x3), (2, .int (nI (dsP d n))), (0, .ref (g.2.1 8)), (1, .int len)]) (by rw [nI_1] <;> rfl) ?_
                exact ih1 (r + 1) x3 U9 (by omega) (by exact hx3) (by rw [← Nat.add_assoc, dsE_n]; omega) (by rw [← Nat.add_assoc, dsE_n]; exact ⟨by omega, fun _ => by rcases Nat.eq_zero_or_pos r with q | q; (subst q; rw [Nat.add_zero, ds_q]; omega); (have := hxp.2 q; omega)⟩) (by rcases Nat.eq_zero_or_pos r with q | q; omega; (have := ds_cnt h0 hn2 hd (L := len.toInt) (j := ph / dsP d n + r) (hxp.2 q) hxL; rw [← Nat.add_assoc]; omega)) (by exact hDR2) (by exact hfU.trans hf8) (by omega)
        refine YY.L (lv' := [(4, .int (nI 0)), (3, .int x0), (2, .int (nI (dsP d n))), (0, .ref (g.2.1 8)), (1, .int len)]) (by rfl) ?_
        exact lp6 _ 0 x0 U1 (by omega) (by exact hx0) (by rw [Nat.add_zero]; omega) (by rw [Nat.add_zero]; exact ⟨hq1, fun q => absurd q (by decide)⟩) (by omega) (by rw [Nat.add_zero]; exact hr0) (by exact hf0) (Nat.lt_succ_self _)
      · have c3n : i < n := Nat.not_le.mp (fun q => c3 ((nl_le (a := n) (b := i) (rfl) (rfl) (by omega) (by omega)).mpr q))
        refine x_iload_n dX0_layAlong_17 1 rfl ?_
        refine x_aload_n dX0_layAlong_18 2 rfl ?_
        refine x_getR fl_X0_9 rfl rfl dX0_layAlong_19 ?_
        refine x_iload_n dX0_layAlong_22 0 rfl ?_
        have b11 : vp_in (nI i) 6 := by exact vp_in_nI (by omega) (by decide)
        refine x_iald rfl b11 dX0_layAlong_23 ?_
        refine x_topi (y := U1 28 i) (by rw [nI_clamp (by omega)]) ?_
        refine x_topi (y := V 28 i) (by rw [eU1, uM_na (by decide)]) ?_
        refine x_topi (hD.2.2.2.2.1 i (by omega)) ?_
        refine x_iadd dX0_layAlong_24 ?_
        refine x_istore_n 2 [(2, .int ((nI (dsP d i)) + (nI (d i)))), (3, .int (nI i)), (0, .ref (g.2.1 8)), (1, .int len)] dX0_layAlong_25 rfl (by decide) rfl ?_
        refine x_iinc 3 (v := (nI i) + 1) 1 [(3, .int ((nI i) + 1)), (2, .int ((nI (dsP d i)) + (nI (d i)))), (0, .ref (g.2.1 8)), (1, .int len)] dX0_layAlong_26 rfl (by rfl) (by decide) rfl ?_
        refine x_goto 9 dX0_layAlong_29 (by decide) ?_
        refine YY.L (lv' := [(3, .int (nI (i + 1))), (2, .int (nI (dsP d (i + 1)))), (0, .ref (g.2.1 8)), (1, .int len)]) (by rw [nI_1, nI_add]; rfl) ?_
        exact ih (i + 1) (by omega) (by omega)
  refine YY.L (lv' := [(3, .int (nI 0)), (2, .int (nI (dsP d 0))), (0, .ref (g.2.1 8)), (1, .int len)]) (by rfl) ?_
  exact lp2 _ 0 (by omega) (Nat.lt_succ_self _)
