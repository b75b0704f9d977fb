/-- a sign, and one sign more on the Speller's text -/
def apC (V : vM) (n : Nat) (c : Int32) : vM := uM (uM V 38 n c) 11 1 (nI (n + 1))
def wrC (V : vM) (n : Nat) : List Int32 → vM
  | [] => V
  | c :: L => wrC (apC V n c) (n + 1) L
def apM (V : vM) (n : Nat) (c : Int32) : vM := uM (uM V 61 n c) 49 28 (nI (n + 1))
def wrM (V : vM) (n : Nat) : List Int32 → vM
  | [] => V
  | c :: L => wrM (apM V n c) (n + 1) L
theorem wrC_app (V : vM) : ∀ (n : Nat) (A B : List Int32), wrC V n (A ++ B) = wrC (wrC V n A) (n + A.length) B
  | n, [], B => rfl
  | n, a :: A, B => by
    show wrC (apC V n a) (n + 1) (A ++ B) = wrC (wrC (apC V n a) (n + 1) A) (n + (A.length + 1)) B
    rw [wrC_app (apC V n a) (n + 1) A B, show n + 1 + A.length = n + (A.length + 1) by omega]
theorem wrM_app (V : vM) : ∀ (n : Nat) (A B : List Int32), wrM V n (A ++ B) = wrM (wrM V n A) (n + A.length) B
  | n, [], B => rfl
  | n, a :: A, B => by
    show wrM (apM V n a) (n + 1) (A ++ B) = wrM (wrM (apM V n a) (n + 1) A) (n + (A.length + 1)) B
    rw [wrM_app (apM V n a) (n + 1) A B, show n + 1 + A.length = n + (A.length + 1) by omega]
theorem apC_n (V : vM) (n : Nat) (c : Int32) : apC V n c 11 1 = nI (n + 1) := uM_hit
theorem apM_n (V : vM) (n : Nat) (c : Int32) : apM V n c 49 28 = nI (n + 1) := uM_hit
theorem wrC_n : ∀ (L : List Int32) (V : vM) (n : Nat), V 11 1 = nI n → wrC V n L 11 1 = nI (n + L.length)
  | [], _, _, h => h
  | c :: L, V, n, _ => by
    have := wrC_n L (apC V n c) (n + 1) (apC_n V n c)
    show wrC (apC V n c) (n + 1) L 11 1 = nI (n + (L.length + 1))
    rw [this, show n + 1 + L.length = n + (L.length + 1) by omega]
theorem wrM_n : ∀ (L : List Int32) (V : vM) (n : Nat), V 49 28 = nI n → wrM V n L 49 28 = nI (n + L.length)
  | [], _, _, h => h
  | c :: L, V, n, _ => by
    have := wrM_n L (apM V n c) (n + 1) (apM_n V n c)
    show wrM (apM V n c) (n + 1) L 49 28 = nI (n + (L.length + 1))
    rw [this, show n + 1 + L.length = n + (L.length + 1) by omega]
set_option maxHeartbeats 1000000 in
set_option maxRecDepth 100000 in
theorem mX8_append {g : gX} (V : vM) (n : Nat) (hn : n < 864) (hm : V 11 1 = nI n) (c : Int32) (hc : vp_nar .char c = c) : MM g jX8_append V [.ref (g.2.1 11), .int c] (dV (apC V n c)) := by
  refine MM.of plX8_append (Nat.le_of_ble_eq_true rfl) ?_
  obtain ⟨Q, hQ⟩ : ∃ Q : Option Value → vM → Prop, Q = (dV (apC V n c)) := ⟨_, rfl⟩
  rw [← hQ]
  show XX g jX8_append Q V 0 [(0, .ref (g.2.1 11)), (1, .int c)] []
  refine x_aload_n dX8_append_0 0 rfl ?_
  refine x_getI fl_X8_15 rfl rfl dX8_append_1 ?_
  refine x_topi (hm) ?_
  refine x_aload_n dX8_append_4 0 rfl ?_
  refine x_getR fl_X8_9 rfl rfl dX8_append_5 ?_
  refine x_alen (v := 864) rfl (by decide) (by decide) dX8_append_8 ?_
  refine x_icmp_ge 32 dX8_append_9 (by decide) (fun c1 => by exfalso; exact absurd ((nl_le (a := 864) (b := n) rfl rfl (by omega) (by omega)).mp c1) (by omega)) (fun c1 => ?_)
  refine x_aload_n dX8_append_12 0 rfl ?_
  refine x_getR fl_X8_9 rfl rfl dX8_append_13 ?_
  refine x_aload_n dX8_append_16 0 rfl ?_
  refine x_getI fl_X8_15 rfl rfl dX8_append_17 ?_
  refine x_topi (hm) ?_
  refine x_iload_n dX8_append_20 1 rfl ?_
  have b2 : vp_in (nI n) 864 := by exact vp_in_nI (by omega) (by decide)
  refine x_cast rfl b2 dX8_append_21 ?_
  refine YY.V (V' := uM V 38 n (vp_nar .char c)) (by rw [nI_clamp (by omega)]) ?_
  obtain ⟨U3, eU3⟩ : ∃ v_v : vM, v_v = uM V 38 n (vp_nar .char c) := ⟨_, rfl⟩
  refine YY.V eU3.symm ?_
  refine x_aload_n dX8_append_22 0 rfl ?_
  refine x_dup dX8_append_23 rfl ?_
  refine x_getI fl_X8_15 rfl rfl dX8_append_24 ?_
  refine x_topi (y := V 11 1) (by rw [eU3, uM_na (by decide)]) ?_
  refine x_topi (hm) ?_
  refine x_iconst (v := 1) dX8_append_27 (by decide) ?_
  refine x_iadd dX8_append_28 ?_
  refine x_putI fp_X8_15 rfl rfl dX8_append_29 ?_
  obtain ⟨U4, eU4⟩ : ∃ v_v : vM, v_v = uM U3 11 1 ((nI n) + 1) := ⟨_, rfl⟩
  refine YY.V eU4.symm ?_
  refine x_vret dX8_append_32 rfl ?_
  rw [hQ]
  refine ⟨?_, rfl⟩
  subst_vars
  rw [hc, nI_1]
  rfl
set_option maxHeartbeats 1000000 in
set_option maxRecDepth 100000 in
theorem mX8_characterAt {g : gX} (V : vM) (n : Nat) (hn : n ≤ 864) (hm : V 11 1 = nI n) (i : Int32) : MM g jX8_characterAt V [.ref (g.2.1 11), .int i] (pI V (if 0 ≤ i ∧ i < nI n then V 38 i.toNatClampNeg else -1000006)) := by
  refine MM.of plX8_characterAt (Nat.le_of_ble_eq_true rfl) ?_
  obtain ⟨Q, hQ⟩ : ∃ Q : Option Value → vM → Prop, Q = (pI V (if 0 ≤ i ∧ i < nI n then V 38 i.toNatClampNeg else -1000006)) := ⟨_, rfl⟩
  rw [← hQ]
  show XX g jX8_characterAt Q V 0 [(0, .ref (g.2.1 11)), (1, .int i)] []
  refine x_iload_n dX8_characterAt_0 1 rfl ?_
  refine x_if_lt 21 dX8_characterAt_1 (by decide) (fun c1 => ?_) (fun c1 => ?_)
  · refine x_ldc ct_X8_19 dX8_characterAt_21 ?_
    refine x_iret dX8_characterAt_23 rfl ?_
    rw [hQ]
    refine ⟨rfl, ?_⟩
    first | (rw [hk0, if_pos (nI_bt (by omega) hkS), nI_clamp (by omega)]) | rw [if_neg (by grind)]
  · refine x_iload_n dX8_characterAt_4 1 rfl ?_
    refine x_aload_n dX8_characterAt_5 0 rfl ?_
    refine x_getI fl_X8_15 rfl rfl dX8_characterAt_6 ?_
    refine x_topi (hm) ?_
    refine x_icmp_ge 21 dX8_characterAt_9 (by decide) (fun c2 => ?_) (fun c2 => ?_)
    · refine x_ldc ct_X8_19 dX8_characterAt_21 ?_
      refine x_iret dX8_characterAt_23 rfl ?_
      rw [hQ]
      refine ⟨rfl, ?_⟩
      first | (rw [hk0, if_pos (nI_bt (by omega) hkS), nI_clamp (by omega)]) | rw [if_neg (by grind)]
    · obtain ⟨k, hk0, hkS⟩ := nI_ex (c := i) (n := n) (by omega) (⟨Int32.not_lt.mp (by assumption), Int32.not_le.mp (by assumption)⟩)
      refine YY.L (lv' := [(0, .ref (g.2.1 11)), (1, .int (nI k))]) (by rw [hk0]) ?_
      refine x_aload_n dX8_characterAt_12 0 rfl ?_
      refine x_getR fl_X8_9 rfl rfl dX8_characterAt_13 ?_
      refine x_iload_n dX8_characterAt_16 1 rfl ?_
      have b3 : vp_in (nI k) 864 := by exact vp_in_nI (by omega) (by decide)
      refine x_cald rfl b3 dX8_characterAt_17 ?_
      refine x_topi (y := V 38 k) (by rw [nI_clamp (by omega)]) ?_
      refine x_goto 23 dX8_characterAt_18 (by decide) ?_
      refine x_iret dX8_characterAt_23 rfl ?_
      rw [hQ]
      refine ⟨rfl, ?_⟩
      first | (rw [hk0, if_pos (nI_bt (by omega) hkS), nI_clamp (by omega)]) | rw [if_neg (by grind)]
