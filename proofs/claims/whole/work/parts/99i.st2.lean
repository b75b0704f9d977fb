theorem clM_36 {m : Nat → Int32} {k : Nat} (h : 0 ≤ m (k * 7) ∧ m (k * 7) ≤ 4) : (clM m k).length ≤ 36 := by
  rw [clM_jp h]
  have b := ptn_b (m (k * 7))
  have j := jp_len (nbx m k) (2 * ptn (m (k * 7)))
  rw [List.length_append, List.length_singleton]
  split
  · simp
  · omega
theorem wl_36 {m : Nat → Int32} {N : Nat} (hw : WF m N) : ∀ k, k ≤ N → (wl m k).length ≤ 36 * k
  | 0, _ => Nat.le_refl _
  | k + 1, h => by
    have := wl_36 hw k (by omega)
    have := clM_36 (hw.2 k (by omega)).1
    unfold wl
    rw [List.length_append]
    omega
theorem wrC_get : ∀ (L : List Int32) (V : vM) (n j : Nat), (j < n → wrC V n L 38 j = V 38 j) ∧ (j < L.length → wrC V n L 38 (n + j) = L.getD j 0)
  | [], V, n, j => ⟨fun _ => rfl, fun h => absurd h (Nat.not_lt_zero _)⟩
  | c :: L, V, n, j => by
    show (j < n → wrC (apC V n c) (n + 1) L 38 j = V 38 j) ∧ (j < L.length + 1 → wrC (apC V n c) (n + 1) L 38 (n + j) = _)
    have e : ∀ i, i ≠ n → apC V n c 38 i = V 38 i := fun i h => by unfold apC; rw [uM_na (by decide), uM_ni h]
    refine ⟨fun h => by rw [(wrC_get L (apC V n c) (n + 1) j).1 (by omega), e j (by omega)], fun h => ?_⟩
    cases j with
    | zero =>
      show wrC (apC V n c) (n + 1) L 38 n = c
      rw [(wrC_get L (apC V n c) (n + 1) n).1 (by omega)]
      unfold apC
      rw [uM_na (by decide), uM_hit]
    | succ j =>
      rw [show n + (j + 1) = n + 1 + j by omega, (wrC_get L (apC V n c) (n + 1) j).2 (by omega)]
      rfl
theorem wrM_get : ∀ (L : List Int32) (V : vM) (n j : Nat), (j < n → wrM V n L 61 j = V 61 j) ∧ (j < L.length → wrM V n L 61 (n + j) = L.getD j 0)
  | [], V, n, j => ⟨fun _ => rfl, fun h => absurd h (Nat.not_lt_zero _)⟩
  | c :: L, V, n, j => by
    show (j < n → wrM (apM V n c) (n + 1) L 61 j = V 61 j) ∧ (j < L.length + 1 → wrM (apM V n c) (n + 1) L 61 (n + j) = _)
    have e : ∀ i, i ≠ n → apM V n c 61 i = V 61 i := fun i h => by unfold apM; rw [uM_na (by decide), uM_ni h]
    refine ⟨fun h => by rw [(wrM_get L (apM V n c) (n + 1) j).1 (by omega), e j (by omega)], fun h => ?_⟩
    cases j with
    | zero =>
      show wrM (apM V n c) (n + 1) L 61 n = c
      rw [(wrM_get L (apM V n c) (n + 1) n).1 (by omega)]
      unfold apM
      rw [uM_na (by decide), uM_hit]
    | succ j =>
      rw [show n + (j + 1) = n + 1 + j by omega, (wrM_get L (apM V n c) (n + 1) j).2 (by omega)]
      rfl
def spZ (m : Nat → Int32) (N : Nat) (x : Int32) : Int32 := if x = -1 then nI (wl m N).length else if 0 ≤ x ∧ x < nI (wl m N).length then (wl m N).getD x.toNatClampNeg 0 else -1000006
set_option maxHeartbeats 1000000 in
set_option maxRecDepth 100000 in
theorem mX8_spellOut {g : gX} {V : vM} {m : Nat → Int32} {N : Nat} (hp : PR V 1 12 13 N m) : MM g jX8_spellOut V [.ref (g.2.1 11), .ref (g.2.1 1)] (dV (wrC (uM V 11 1 0) 0 (wl m N))) := by
  refine MM.of plX8_spellOut (Nat.le_of_ble_eq_true rfl) ?_
  obtain ⟨Q, hQ⟩ : ∃ Q : Option Value → vM → Prop, Q = (dV (wrC (uM V 11 1 0) 0 (wl m N))) := ⟨_, rfl⟩
  rw [← hQ]
  show XX g jX8_spellOut Q V 0 [(0, .ref (g.2.1 11)), (1, .ref (g.2.1 1))] []
  have hw := hp.2.2.1
  have hN := hw.1
  refine x_aload_n dX8_spellOut_0 0 rfl ?_
  refine x_iconst (v := 0) dX8_spellOut_1 (by decide) ?_
  refine x_putI fp_X8_15 rfl rfl dX8_spellOut_2 ?_
  obtain ⟨U1, eU1⟩ : ∃ v_v : vM, v_v = uM V 11 1 0 := ⟨_, rfl⟩
  refine YY.V eU1.symm ?_
  refine x_iconst (v := 0) dX8_spellOut_5 (by decide) ?_
  refine x_istore_n 2 [(2, .int 0), (0, .ref (g.2.1 11)), (1, .ref (g.2.1 1))] dX8_spellOut_6 rfl (by decide) rfl ?_
  have lp2 : ∀ (fu : Nat) (k : Nat) (U : vM), (k ≤ N) → (U = wrC (uM V 11 1 0) 0 (wl m k)) → (N - k) < fu → XX g jX8_spellOut Q U 7 [(2, .int (nI k)), (0, .ref (g.2.1 11)), (1, .ref (g.2.1 1))] [] := by
    intro fu
    induction fu with
    | zero => intro _ _ _ _ hmz; exact absurd hmz (Nat.not_lt_zero _)
    | succ fu ih =>
      intro k U hk hU hmz
      have hwl := wl_36 hw k hk
      have hmU : U 11 1 = nI ((wl m k).length) := by rw [hU, wrC_n (wl m k) (uM V 11 1 0) 0 uM_hit, Nat.zero_add]
      have hPU : PR U 1 12 13 N m := hp.kept (fun i => by rw [hU, wrC_at (by decide) (by decide), uM_na (by decide)]) (fun i => by rw [hU, wrC_at (by decide) (by decide), uM_na (by decide)]) (fun i => by rw [hU, wrC_at (by decide) (by decide), uM_na (by decide)])
      refine x_iload_n dX8_spellOut_7 0 rfl ?_
      refine x_aload_n dX8_spellOut_8 2 rfl ?_
      refine x_getI fl_X8_20 rfl rfl dX8_spellOut_9 ?_
      refine x_topi (hPU.1) ?_
      refine x_icmp_ge 48 dX8_spellOut_12 (by decide) (fun c3 => ?_) (fun c3 => ?_)
      · have c3n : N ≤ k := (nl_le (a := N) (b := k) (rfl) (rfl) (by omega) (by omega)).mp c3
        refine x_vret dX8_spellOut_48 rfl ?_
        rw [hQ]
        refine ⟨?_, rfl⟩
        rw [hU, show k = N by omega]
      · have c3n : k < N := Nat.not_le.mp (fun q => c3 ((nl_le (a := N) (b := k) (rfl) (rfl) (by omega) (by omega)).mpr q))
        refine x_aload_n dX8_spellOut_15 2 rfl ?_
        refine x_iload_n dX8_spellOut_16 0 rfl ?_
        refine x_callV (K := jX5_kindOf) [.int (nI k)] lk_X8_23 ⟨⟨rfl, rfl⟩, Nat.le_of_ble_eq_true rfl, Nat.le_of_ble_eq_true rfl⟩ rfl rfl (by have := mX5_kindOf (g := g) U isP1 hPU.kok.1 (nI k); rw [hPU.ki (i := k) (by omega)] at this; exact this) rfl (Nat.le_of_ble_eq_true rfl) rfl dX8_spellOut_17 (kpI ?_)
        rcases k5 (hw.2 k (by omega)).1 with e5 | e5 | e5 | e5 | e5
        · -- kind 0
          refine x_topi (y := 0) e5 ?_
          refine x_istore_n 3 [(3, .int 0), (2, .int (nI k)), (0, .ref (g.2.1 11)), (1, .ref (g.2.1 1))] dX8_spellOut_20 rfl (by decide) rfl ?_
          refine x_aload_n dX8_spellOut_21 2 rfl ?_
          refine x_ldcS (own := "") (sr_X8_27 (g := g)) dX8_spellOut_22 ?_
          refine x_iload_n dX8_spellOut_24 0 rfl ?_
          have q4 : (0 : Int32) = nI 0 := rfl
          refine YY.S (st' := [.int (nI 0), .ref (g.2.2.2.2.1 0), .ref (g.2.1 11)]) (by rw [q4]) ?_
          refine x_callVS (K := jJ0_charAt_5068e) [.int (nI 0)] lk_X8_29 ⟨⟨rfl, rfl⟩, Nat.le_of_ble_eq_true rfl, Nat.le_of_ble_eq_true rfl⟩ (by decide) rfl (mJ0_charAt_5068e U 0 (by decide) 0 (by decide)) rfl (Nat.le_of_ble_eq_true rfl) rfl dX8_spellOut_25 (kpI ?_)
          refine x_topi (y := 77) (by decide +kernel) ?_
          refine x_callV (K := jX8_append) [.int 77] lk_X8_35 ⟨⟨rfl, rfl⟩, Nat.le_of_ble_eq_true rfl, Nat.le_of_ble_eq_true rfl⟩ rfl rfl (mX8_append U ((wl m k).length) (by omega) hmU 77 (by decide +kernel)) rfl (Nat.le_of_ble_eq_true rfl) rfl dX8_spellOut_28 (kdV ?_)
          obtain ⟨U5, eU5⟩ : ∃ v_v : vM, v_v = apC U ((wl m k).length) 77 := ⟨_, rfl⟩
          refine YY.V eU5.symm ?_
          have hmA : U5 11 1 = nI ((wl m k).length + 1) := by rw [eU5]; exact apC_n _ _ _
          have hPA : PR U5 1 12 13 N m := hPU.kept (fun i => by rw [eU5, apC, uM_na (by decide), uM_na (by decide)]) (fun i => by rw [eU5, apC, uM_na (by decide), uM_na (by decide)]) (fun i => by rw [eU5, apC, uM_na (by decide), uM_na (by decide)])
          refine x_iload_n dX8_spellOut_31 0 rfl ?_
          refine x_iconst (v := 4) dX8_spellOut_32 (by decide) ?_
          refine x_icmp_eq 42 dX8_spellOut_33 (by decide) (fun c6 => by exfalso; revert c6; decide) (fun c6 => ?_)
          refine x_aload_n dX8_spellOut_36 2 rfl ?_
          refine x_aload_n dX8_spellOut_37 3 rfl ?_
          refine x_iload_n dX8_spellOut_38 1 rfl ?_
          refine x_callV (K := jX8_spellNumbers) [.ref (g.2.1 1), .int (nI k)] lk_X8_39 ⟨⟨rfl, rfl⟩, Nat.le_of_ble_eq_true rfl, Nat.le_of_ble_eq_true rfl⟩ rfl rfl (mX8_spellNumbers U5 hPA k (by omega) (by rw [e5]; decide) ((wl m k).length + 1) (by omega) hmA) rfl (Nat.le_of_ble_eq_true rfl) rfl dX8_spellOut_39 (kdV ?_)
          obtain ⟨U7, eU7⟩ : ∃ v_v : vM, v_v = wrC U5 ((wl m k).length + 1) (jp (nbx m k) (2 * ptn (m (k * 7)))) := ⟨_, rfl⟩
          refine YY.V eU7.symm ?_
          refine x_iinc 2 (v := (nI k) + 1) 1 [(2, .int ((nI k) + 1)), (3, .int 0), (0, .ref (g.2.1 11)), (1, .ref (g.2.1 1))] dX8_spellOut_42 rfl (by rfl) (by decide) rfl ?_
          refine x_goto 7 dX8_spellOut_45 (by decide) ?_
          refine x_lv [0, 2, 3] rfl ?_
          refine YY.L (lv' := [(2, .int (nI (k + 1))), (0, .ref (g.2.1 11)), (1, .ref (g.2.1 1))]) (by rw [nI_1] <;> rfl) ?_
          exact ih (k + 1) U7 (by omega) (by have hl : ltr (m (k * 7)) = 77 := (by rw [e5]; rfl); rw [eU7, eU5, hU, wl, clM_jp (hw.2 k (by omega)).1, if_neg (by rw [e5]; decide), hl, wrC_app, wrC_app, Nat.zero_add]; rfl) (by omega)
        · -- kind 1
          refine x_topi (y := 1) e5 ?_
          refine x_istore_n 3 [(3, .int 1), (2, .int (nI k)), (0, .ref (g.2.1 11)), (1, .ref (g.2.1 1))] dX8_spellOut_20 rfl (by decide) rfl ?_
          refine x_aload_n dX8_spellOut_21 2 rfl ?_
          refine x_ldcS (own := "") (sr_X8_27 (g := g)) dX8_spellOut_22 ?_
          refine x_iload_n dX8_spellOut_24 0 rfl ?_
          have q8 : (1 : Int32) = nI 1 := rfl
          refine YY.S (st' := [.int (nI 1), .ref (g.2.2.2.2.1 0), .ref (g.2.1 11)]) (by rw [q8]) ?_
          refine x_callVS (K := jJ0_charAt_5068e) [.int (nI 1)] lk_X8_29 ⟨⟨rfl, rfl⟩, Nat.le_of_ble_eq_true rfl, Nat.le_of_ble_eq_true rfl⟩ (by decide) rfl (mJ0_charAt_5068e U 0 (by decide) 1 (by decide)) rfl (Nat.le_of_ble_eq_true rfl) rfl dX8_spellOut_25 (kpI ?_)
          refine x_topi (y := 76) (by decide +kernel) ?_
          refine x_callV (K := jX8_append) [.int 76] lk_X8_35 ⟨⟨rfl, rfl⟩, Nat.le_of_ble_eq_true rfl, Nat.le_of_ble_eq_true rfl⟩ rfl rfl (mX8_append U ((wl m k).length) (by omega) hmU 76 (by decide +kernel)) rfl (Nat.le_of_ble_eq_true rfl) rfl dX8_spellOut_28 (kdV ?_)
          obtain ⟨U9, eU9⟩ : ∃ v_v : vM, v_v = apC U ((wl m k).length) 76 := ⟨_, rfl⟩
          refine YY.V eU9.symm ?_
          have hmA : U9 11 1 = nI ((wl m k).length + 1) := by rw [eU9]; exact apC_n _ _ _
          have hPA : PR U9 1 12 13 N m := hPU.kept (fun i => by rw [eU9, apC, uM_na (by decide), uM_na (by decide)]) (fun i => by rw [eU9, apC, uM_na (by decide), uM_na (by decide)]) (fun i => by rw [eU9, apC, uM_na (by decide), uM_na (by decide)])
          refine x_iload_n dX8_spellOut_31 0 rfl ?_
          refine x_iconst (v := 4) dX8_spellOut_32 (by decide) ?_
          refine x_icmp_eq 42 dX8_spellOut_33 (by decide) (fun c10 => by exfalso; revert c10; decide) (fun c10 => ?_)
          refine x_aload_n dX8_spellOut_36 2 rfl ?_
          refine x_aload_n dX8_spellOut_37 3 rfl ?_
          refine x_iload_n dX8_spellOut_38 1 rfl ?_
          refine x_callV (K := jX8_spellNumbers) [.ref (g.2.1 1), .int (nI k)] lk_X8_39 ⟨⟨rfl, rfl⟩, Nat.le_of_ble_eq_true rfl, Nat.le_of_ble_eq_true rfl⟩ rfl rfl (mX8_spellNumbers U9 hPA k (by omega) (by rw [e5]; decide) ((wl m k).length + 1) (by omega) hmA) rfl (Nat.le_of_ble_eq_true rfl) rfl dX8_spellOut_39 (kdV ?_)
          obtain ⟨U11, eU11⟩ : ∃ v_v : vM, v_v = wrC U9 ((wl m k).length + 1) (jp (nbx m k) (2 * ptn (m (k * 7)))) := ⟨_, rfl⟩
          refine YY.V eU11.symm ?_
          refine x_iinc 2 (v := (nI k) + 1) 1 [(2, .int ((nI k) + 1)), (3, .int 1), (0, .ref (g.2.1 11)), (1, .ref (g.2.1 1))] dX8_spellOut_42 rfl (by rfl) (by decide) rfl ?_
          refine x_goto 7 dX8_spellOut_45 (by decide) ?_
          refine x_lv [0, 2, 3] rfl ?_
          refine YY.L (lv' := [(2, .int (nI (k + 1))), (0, .ref (g.2.1 11)), (1, .ref (g.2.1 1))]) (by rw [nI_1] <;> rfl) ?_
          exact ih (k + 1) U11 (by omega) (by have hl : ltr (m (k * 7)) = 76 := (by rw [e5]; rfl); rw [eU11, eU9, hU, wl, clM_jp (hw.2 k (by omega)).1, if_neg (by rw [e5]; decide), hl, wrC_app, wrC_app, Nat.zero_add]; rfl) (by omega)
        · -- kind 2
          refine x_topi (y := 2) e5 ?_
          refine x_istore_n 3 [(3, .int 2), (2, .int (nI k)), (0, .ref (g.2.1 11)), (1, .ref (g.2.1 1))] dX8_spellOut_20 rfl (by decide) rfl ?_
          refine x_aload_n dX8_spellOut_21 2 rfl ?_
          refine x_ldcS (own := "") (sr_X8_27 (g := g)) dX8_spellOut_22 ?_
          refine x_iload_n dX8_spellOut_24 0 rfl ?_
          have q12 : (2 : Int32) = nI 2 := rfl
          refine YY.S (st' := [.int (nI 2), .ref (g.2.2.2.2.1 0), .ref (g.2.1 11)]) (by rw [q12]) ?_
          refine x_callVS (K := jJ0_charAt_5068e) [.int (nI 2)] lk_X8_29 ⟨⟨rfl, rfl⟩, Nat.le_of_ble_eq_true rfl, Nat.le_of_ble_eq_true rfl⟩ (by decide) rfl (mJ0_charAt_5068e U 0 (by decide) 2 (by decide)) rfl (Nat.le_of_ble_eq_true rfl) rfl dX8_spellOut_25 (kpI ?_)
          refine x_topi (y := 81) (by decide +kernel) ?_
          refine x_callV (K := jX8_append) [.int 81] lk_X8_35 ⟨⟨rfl, rfl⟩, Nat.le_of_ble_eq_true rfl, Nat.le_of_ble_eq_true rfl⟩ rfl rfl (mX8_append U ((wl m k).length) (by omega) hmU 81 (by decide +kernel)) rfl (Nat.le_of_ble_eq_true rfl) rfl dX8_spellOut_28 (kdV ?_)
          obtain ⟨U13, eU13⟩ : ∃ v_v : vM, v_v = apC U ((wl m k).length) 81 := ⟨_, rfl⟩
          refine YY.V eU13.symm ?_
          have hmA : U13 11 1 = nI ((wl m k).length + 1) := by rw [eU13]; exact apC_n _ _ _
          have hPA : PR U13 1 12 13 N m := hPU.kept (fun i => by rw [eU13, apC, uM_na (by decide), uM_na (by decide)]) (fun i => by rw [eU13, apC, uM_na (by decide), uM_na (by decide)]) (fun i => by rw [eU13, apC, uM_na (by decide), uM_na (by decide)])
          refine x_iload_n dX8_spellOut_31 0 rfl ?_
          refine x_iconst (v := 4) dX8_spellOut_32 (by decide) ?_
          refine x_icmp_eq 42 dX8_spellOut_33 (by decide) (fun c14 => by exfalso; revert c14; decide) (fun c14 => ?_)
          refine x_aload_n dX8_spellOut_36 2 rfl ?_
          refine x_aload_n dX8_spellOut_37 3 rfl ?_
          refine x_iload_n dX8_spellOut_38 1 rfl ?_
          refine x_callV (K := jX8_spellNumbers) [.ref (g.2.1 1), .int (nI k)] lk_X8_39 ⟨⟨rfl, rfl⟩, Nat.le_of_ble_eq_true rfl, Nat.le_of_ble_eq_true rfl⟩ rfl rfl (mX8_spellNumbers U13 hPA k (by omega) (by rw [e5]; decide) ((wl m k).length + 1) (by omega) hmA) rfl (Nat.le_of_ble_eq_true rfl) rfl dX8_spellOut_39 (kdV ?_)
          obtain ⟨U15, eU15⟩ : ∃ v_v : vM, v_v = wrC U13 ((wl m k).length + 1) (jp (nbx m k) (2 * ptn (m (k * 7)))) := ⟨_, rfl⟩
          refine YY.V eU15.symm ?_
          refine x_iinc 2 (v := (nI k) + 1) 1 [(2, .int ((nI k) + 1)), (3, .int 2), (0, .ref (g.2.1 11)), (1, .ref (g.2.1 1))] dX8_spellOut_42 rfl (by rfl) (by decide) rfl ?_
          refine x_goto 7 dX8_spellOut_45 (by decide) ?_
          refine x_lv [0, 2, 3] rfl ?_
          refine YY.L (lv' := [(2, .int (nI (k + 1))), (0, .ref (g.2.1 11)), (1, .ref (g.2.1 1))]) (by rw [nI_1] <;> rfl) ?_
          exact ih (k + 1) U15 (by omega) (by have hl : ltr (m (k * 7)) = 81 := (by rw [e5]; rfl); rw [eU15, eU13, hU, wl, clM_jp (hw.2 k (by omega)).1, if_neg (by rw [e5]; decide), hl, wrC_app, wrC_app, Nat.zero_add]; rfl) (by omega)
        · -- kind 3
          refine x_topi (y := 3) e5 ?_
          refine x_istore_n 3 [(3, .int 3), (2, .int (nI k)), (0, .ref (g.2.1 11)), (1, .ref (g.2.1 1))] dX8_spellOut_20 rfl (by decide) rfl ?_
          refine x_aload_n dX8_spellOut_21 2 rfl ?_
          refine x_ldcS (own := "") (sr_X8_27 (g := g)) dX8_spellOut_22 ?_
          refine x_iload_n dX8_spellOut_24 0 rfl ?_
          have q16 : (3 : Int32) = nI 3 := rfl
          refine YY.S (st' := [.int (nI 3), .ref (g.2.2.2.2.1 0), .ref (g.2.1 11)]) (by rw [q16]) ?_
          refine x_callVS (K := jJ0_charAt_5068e) [.int (nI 3)] lk_X8_29 ⟨⟨rfl, rfl⟩, Nat.le_of_ble_eq_true rfl, Nat.le_of_ble_eq_true rfl⟩ (by decide) rfl (mJ0_charAt_5068e U 0 (by decide) 3 (by decide)) rfl (Nat.le_of_ble_eq_true rfl) rfl dX8_spellOut_25 (kpI ?_)
          refine x_topi (y := 67) (by decide +kernel) ?_
          refine x_callV (K := jX8_append) [.int 67] lk_X8_35 ⟨⟨rfl, rfl⟩, Nat.le_of_ble_eq_true rfl, Nat.le_of_ble_eq_true rfl⟩ rfl rfl (mX8_append U ((wl m k).length) (by omega) hmU 67 (by decide +kernel)) rfl (Nat.le_of_ble_eq_true rfl) rfl dX8_spellOut_28 (kdV ?_)
          obtain ⟨U17, eU17⟩ : ∃ v_v : vM, v_v = apC U ((wl m k).length) 67 := ⟨_, rfl⟩
          refine YY.V eU17.symm ?_
          have hmA : U17 11 1 = nI ((wl m k).length + 1) := by rw [eU17]; exact apC_n _ _ _
          have hPA : PR U17 1 12 13 N m := hPU.kept (fun i => by rw [eU17, apC, uM_na (by decide), uM_na (by decide)]) (fun i => by rw [eU17, apC, uM_na (by decide), uM_na (by decide)]) (fun i => by rw [eU17, apC, uM_na (by decide), uM_na (by decide)])
          refine x_iload_n dX8_spellOut_31 0 rfl ?_
          refine x_iconst (v := 4) dX8_spellOut_32 (by decide) ?_
          refine x_icmp_eq 42 dX8_spellOut_33 (by decide) (fun c18 => by exfalso; revert c18; decide) (fun c18 => ?_)
          refine x_aload_n dX8_spellOut_36 2 rfl ?_
          refine x_aload_n dX8_spellOut_37 3 rfl ?_
          refine x_iload_n dX8_spellOut_38 1 rfl ?_
          refine x_callV (K := jX8_spellNumbers) [.ref (g.2.1 1), .int (nI k)] lk_X8_39 ⟨⟨rfl, rfl⟩, Nat.le_of_ble_eq_true rfl, Nat.le_of_ble_eq_true rfl⟩ rfl rfl (mX8_spellNumbers U17 hPA k (by omega) (by rw [e5]; decide) ((wl m k).length + 1) (by omega) hmA) rfl (Nat.le_of_ble_eq_true rfl) rfl dX8_spellOut_39 (kdV ?_)
          obtain ⟨U19, eU19⟩ : ∃ v_v : vM, v_v = wrC U17 ((wl m k).length + 1) (jp (nbx m k) (2 * ptn (m (k * 7)))) := ⟨_, rfl⟩
          refine YY.V eU19.symm ?_
          refine x_iinc 2 (v := (nI k) + 1) 1 [(2, .int ((nI k) + 1)), (3, .int 3), (0, .ref (g.2.1 11)), (1, .ref (g.2.1 1))] dX8_spellOut_42 rfl (by rfl) (by decide) rfl ?_
          refine x_goto 7 dX8_spellOut_45 (by decide) ?_
          refine x_lv [0, 2, 3] rfl ?_
          refine YY.L (lv' := [(2, .int (nI (k + 1))), (0, .ref (g.2.1 11)), (1, .ref (g.2.1 1))]) (by rw [nI_1] <;> rfl) ?_
          exact ih (k + 1) U19 (by omega) (by have hl : ltr (m (k * 7)) = 67 := (by rw [e5]; rfl); rw [eU19, eU17, hU, wl, clM_jp (hw.2 k (by omega)).1, if_neg (by rw [e5]; decide), hl, wrC_app, wrC_app, Nat.zero_add]; rfl) (by omega)
        · -- kind 4
          refine x_topi (y := 4) e5 ?_
          refine x_istore_n 3 [(3, .int 4), (2, .int (nI k)), (0, .ref (g.2.1 11)), (1, .ref (g.2.1 1))] dX8_spellOut_20 rfl (by decide) rfl ?_
          refine x_aload_n dX8_spellOut_21 2 rfl ?_
          refine x_ldcS (own := "") (sr_X8_27 (g := g)) dX8_spellOut_22 ?_
          refine x_iload_n dX8_spellOut_24 0 rfl ?_
          have q20 : (4 : Int32) = nI 4 := rfl
          refine YY.S (st' := [.int (nI 4), .ref (g.2.2.2.2.1 0), .ref (g.2.1 11)]) (by rw [q20]) ?_
          refine x_callVS (K := jJ0_charAt_5068e) [.int (nI 4)] lk_X8_29 ⟨⟨rfl, rfl⟩, Nat.le_of_ble_eq_true rfl, Nat.le_of_ble_eq_true rfl⟩ (by decide) rfl (mJ0_charAt_5068e U 0 (by decide) 4 (by decide)) rfl (Nat.le_of_ble_eq_true rfl) rfl dX8_spellOut_25 (kpI ?_)
          refine x_topi (y := 90) (by decide +kernel) ?_
          refine x_callV (K := jX8_append) [.int 90] lk_X8_35 ⟨⟨rfl, rfl⟩, Nat.le_of_ble_eq_true rfl, Nat.le_of_ble_eq_true rfl⟩ rfl rfl (mX8_append U ((wl m k).length) (by omega) hmU 90 (by decide +kernel)) rfl (Nat.le_of_ble_eq_true rfl) rfl dX8_spellOut_28 (kdV ?_)
          obtain ⟨U21, eU21⟩ : ∃ v_v : vM, v_v = apC U ((wl m k).length) 90 := ⟨_, rfl⟩
          refine YY.V eU21.symm ?_
          have hmA : U21 11 1 = nI ((wl m k).length + 1) := by rw [eU21]; exact apC_n _ _ _
          have hPA : PR U21 1 12 13 N m := hPU.kept (fun i => by rw [eU21, apC, uM_na (by decide), uM_na (by decide)]) (fun i => by rw [eU21, apC, uM_na (by decide), uM_na (by decide)]) (fun i => by rw [eU21, apC, uM_na (by decide), uM_na (by decide)])
          refine x_iload_n dX8_spellOut_31 0 rfl ?_
          refine x_iconst (v := 4) dX8_spellOut_32 (by decide) ?_
          refine x_icmp_eq 42 dX8_spellOut_33 (by decide) (fun c22 => ?_) (fun c22 => by exfalso; revert c22; decide)
          refine x_iinc 2 (v := (nI k) + 1) 1 [(2, .int ((nI k) + 1)), (3, .int 4), (0, .ref (g.2.1 11)), (1, .ref (g.2.1 1))] dX8_spellOut_42 rfl (by rfl) (by decide) rfl ?_
          refine x_goto 7 dX8_spellOut_45 (by decide) ?_
          refine x_lv [0, 2, 3] rfl ?_
          refine YY.L (lv' := [(2, .int (nI (k + 1))), (0, .ref (g.2.1 11)), (1, .ref (g.2.1 1))]) (by rw [nI_1] <;> rfl) ?_
          exact ih (k + 1) U21 (by omega) (by have hl : ltr (m (k * 7)) = 90 := (by rw [e5]; rfl); rw [eU21, hU, wl, clM_jp (hw.2 k (by omega)).1, if_pos e5, List.append_nil, hl, wrC_app, Nat.zero_add]; rfl) (by omega)
  refine YY.L (lv' := [(2, .int (nI 0)), (0, .ref (g.2.1 11)), (1, .ref (g.2.1 1))]) (by rfl) ?_
  exact lp2 _ 0 U1 (by omega) (by rw [eU1]; rfl) (Nat.lt_succ_self _)
set_option maxHeartbeats 1000000 in
set_option maxRecDepth 100000 in
theorem mX9_spell {g : gX} {V : vM} {m : Nat → Int32} {N : Nat} {t : Int32} (hC : CS V m N t) (x : Int32) : MM g jX9_spell V [.ref (g.2.1 0), .int x] (eI (fun z U => z = spZ m N x ∧ CS U m N t ∧ frK V U)) := by
  refine MM.of plX9_spell (Nat.le_of_ble_eq_true rfl) ?_
  obtain ⟨Q, hQ⟩ : ∃ Q : Option Value → vM → Prop, Q = (eI (fun z U => z = spZ m N x ∧ CS U m N t ∧ frK V U)) := ⟨_, rfl⟩
  rw [← hQ]
  show XX g jX9_spell Q V 0 [(0, .ref (g.2.1 0)), (1, .int x)] []
  have hw := hC.1.2.2.1
  have hN := hw.1
  have hwl := wl_36 hw N (Nat.le_refl _)
  refine x_aload_n dX9_spell_0 0 rfl ?_
  refine x_getR fl_X9_67 rfl rfl dX9_spell_1 ?_
  refine x_aload_n dX9_spell_4 0 rfl ?_
  refine x_getR fl_X9_12 rfl rfl dX9_spell_5 ?_
  refine x_callV (K := jX8_spellOut) [.ref (g.2.1 1)] lk_X9_170 ⟨⟨rfl, rfl⟩, Nat.le_of_ble_eq_true rfl, Nat.le_of_ble_eq_true rfl⟩ rfl rfl (mX8_spellOut hC.1) rfl (Nat.le_of_ble_eq_true rfl) rfl dX9_spell_8 (kdV ?_)
  obtain ⟨U1, eU1⟩ : ∃ v_v : vM, v_v = wrC (uM V 11 1 0) 0 (wl m N) := ⟨_, rfl⟩
  refine YY.V eU1.symm ?_
  have hmU : U1 11 1 = nI ((wl m N).length) := by rw [eU1, wrC_n (wl m N) (uM V 11 1 0) 0 uM_hit, Nat.zero_add]
  have hot : ∀ a i, a ≠ 38 → a ≠ 11 → U1 a i = V a i := fun a i h1 h2 => by rw [eU1, wrC_at h1 h2, uM_na h2]
  refine x_iload_n dX9_spell_11 1 rfl ?_
  refine x_iconst (v := -1) dX9_spell_12 (by decide) ?_
  refine x_icmp_ne 24 dX9_spell_13 (by decide) (fun c2 => ?_) (fun c2 => ?_)
  · refine x_aload_n dX9_spell_24 0 rfl ?_
    refine x_getR fl_X9_67 rfl rfl dX9_spell_25 ?_
    refine x_iload_n dX9_spell_28 1 rfl ?_
    refine x_callV (K := jX8_characterAt) [.int x] lk_X9_174 ⟨⟨rfl, rfl⟩, Nat.le_of_ble_eq_true rfl, Nat.le_of_ble_eq_true rfl⟩ rfl rfl (mX8_characterAt U1 ((wl m N).length) (by omega) hmU x) rfl (Nat.le_of_ble_eq_true rfl) rfl dX9_spell_29 (kpI ?_)
    refine x_iret dX9_spell_32 rfl ?_
    rw [hQ]
    refine ⟨_, rfl, ?_, hC.ag (fun a i q => hot a i (by omega) (by omega)), fun a i p => hot a i (fun z => by have := p.2.2.2.2.2.2.2.2.2.2.2.1; omega) p.2.2.2.1⟩
    unfold spZ
    rw [if_neg (show ¬ x = -1 by assumption)]
    by_cases q : 0 ≤ x ∧ x < nI ((wl m N).length)
    · obtain ⟨j, hj0, hjS⟩ := nI_ex (by omega) q
      rw [if_pos q, if_pos q, hj0, nI_clamp (by omega), eU1]
      have := (wrC_get (wl m N) (uM V 11 1 0) 0 j).2 hjS
      rw [Nat.zero_add] at this
      exact this
    · rw [if_neg q, if_neg q]
  · refine x_aload_n dX9_spell_16 0 rfl ?_
    refine x_getR fl_X9_67 rfl rfl dX9_spell_17 ?_
    refine x_getI fl_X9_173 rfl rfl dX9_spell_20 ?_
    refine x_topi (hmU) ?_
    refine x_iret dX9_spell_23 rfl ?_
    rw [hQ]
    refine ⟨_, rfl, ?_, hC.ag (fun a i q => hot a i (by omega) (by omega)), fun a i p => hot a i (fun z => by have := p.2.2.2.2.2.2.2.2.2.2.2.1; omega) p.2.2.2.1⟩
    unfold spZ; rw [if_pos (by assumption)]
theorem sp_m {V : vM} {m : Nat → Int32} {N : Nat} (hw : WF m N) (x : Int32) : (if x = -1 then nI (wl m N).length else if 0 ≤ x ∧ x < nI (wl m N).length then wrM (uM V 49 28 0) 0 (wl m N) 61 x.toNatClampNeg else -1000006) = spZ m N x := by
  have hwl := wl_36 hw N (Nat.le_refl _)
  have hN := hw.1
  unfold spZ
  by_cases q1 : x = -1
  · rw [if_pos q1, if_pos q1]
  · rw [if_neg q1, if_neg q1]
    by_cases q : 0 ≤ x ∧ x < nI ((wl m N).length)
    · obtain ⟨j, hj0, hjS⟩ := nI_ex (by omega) q
      rw [if_pos q, if_pos q, hj0, nI_clamp (by omega)]
      have := (wrM_get (wl m N) (uM V 49 28 0) 0 j).2 hjS
      rw [Nat.zero_add] at this
      exact this
    · rw [if_neg q, if_neg q]
