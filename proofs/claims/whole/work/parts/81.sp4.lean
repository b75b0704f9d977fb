def prL (b : Int32) (x y : Int32) : List Int32 := (if b = 0 then [44] else []) ++ (spN x ++ ([44] ++ spN y))
theorem prL_len (b x y : Int32) : (prL b x y).length ≤ 12 := by
  have h1 := spN_len x
  have h2 := spN_len y
  unfold prL
  simp only [List.length_append]
  split <;> simp only [List.length_cons, List.length_nil] <;> omega
set_option maxHeartbeats 1000000 in
set_option maxRecDepth 100000 in
theorem mX10_spellPair {g : gX} (V : vM) (p : Nat) (hp : p + 1 < 170) (b : Int32) (n : Nat) (hn : n + 12 ≤ 1200) (hm : V 49 28 = nI n) (hx : inR (V 50 p)) (hy : inR (V 50 (p + 1))) : MM g jX10_spellPair V [.ref (g.2.1 49), .int (nI p), .int b] (dV (wrM V n (prL b (V 50 p) (V 50 (p + 1))))) := by
  refine MM.of plX10_spellPair (Nat.le_of_ble_eq_true rfl) ?_
  obtain ⟨Q, hQ⟩ : ∃ Q : Option Value → vM → Prop, Q = (dV (wrM V n (prL b (V 50 p) (V 50 (p + 1))))) := ⟨_, rfl⟩
  rw [← hQ]
  show XX g jX10_spellPair Q V 0 [(0, .ref (g.2.1 49)), (1, .int (nI p)), (2, .int b)] []
  refine x_iload_n dX10_spellPair_0 2 rfl ?_
  refine x_if_ne 10 dX10_spellPair_1 (by decide) (fun c1 => ?_) (fun c1 => ?_)
  · refine x_aload_n dX10_spellPair_10 0 rfl ?_
    refine x_aload_n dX10_spellPair_11 0 rfl ?_
    refine x_getR fl_X10_9 rfl rfl dX10_spellPair_12 ?_
    refine x_iload_n dX10_spellPair_15 1 rfl ?_
    have b2 : vp_in (nI p) 170 := by exact vp_in_nI (by omega) (by decide)
    refine x_iald rfl b2 dX10_spellPair_16 ?_
    refine x_topi (y := V 50 p) (by rw [nI_clamp (by omega)]) ?_
    refine x_callV (K := jX10_spellNumber) [.int (V 50 p)] lk_X10_198 ⟨⟨rfl, rfl⟩, Nat.le_of_ble_eq_true rfl, Nat.le_of_ble_eq_true rfl⟩ rfl rfl (mX10_spellNumber V (n) (by omega) hm (V 50 p) hx) rfl (Nat.le_of_ble_eq_true rfl) rfl dX10_spellPair_17 (kdV ?_)
    obtain ⟨U3, eU3⟩ : ∃ v_v : vM, v_v = wrM V (n) (spN (V 50 p)) := ⟨_, rfl⟩
    refine YY.V eU3.symm ?_
    have hcU3 : U3 49 28 = nI (n + (spN (V 50 p)).length) := by rw [eU3]; exact wrM_n _ _ _ hm
    have hkU3 : ∀ z, U3 50 z = V 50 z := fun z => by rw [eU3, wrM_at (by decide) (by omega)]
    have hlU3 := spN_len (V 50 p)
    refine x_aload_n dX10_spellPair_20 0 rfl ?_
    refine x_bipush (v := 44) dX10_spellPair_21 (by decide) ?_
    refine x_callV (K := jX10_spellSign) [.int 44] lk_X10_191 ⟨⟨rfl, rfl⟩, Nat.le_of_ble_eq_true rfl, Nat.le_of_ble_eq_true rfl⟩ rfl rfl (mX10_spellSign U3 (n + (spN (V 50 p)).length) (by omega) hcU3 44) rfl (Nat.le_of_ble_eq_true rfl) rfl dX10_spellPair_23 (kdV ?_)
    obtain ⟨U4, eU4⟩ : ∃ v_v : vM, v_v = apM U3 (n + (spN (V 50 p)).length) 44 := ⟨_, rfl⟩
    refine YY.V eU4.symm ?_
    have hcU4 : U4 49 28 = nI (n + (spN (V 50 p)).length + 1) := by rw [eU4]; exact apM_n _ _ _
    have hkU4 : ∀ z, U4 50 z = V 50 z := fun z => by rw [eU4, apM, uM_na (by decide), uM_na (by decide), hkU3]
    refine x_aload_n dX10_spellPair_26 0 rfl ?_
    refine x_aload_n dX10_spellPair_27 0 rfl ?_
    refine x_getR fl_X10_9 rfl rfl dX10_spellPair_28 ?_
    refine x_iload_n dX10_spellPair_31 1 rfl ?_
    refine x_iconst (v := 1) dX10_spellPair_32 (by decide) ?_
    refine x_iadd dX10_spellPair_33 ?_
    have q5 : ((nI p) + 1 : Int32) = nI (p + 1) := nadd (rfl) (rfl)
    refine YY.S (st' := [.int (nI (p + 1)), .ref (g.2.1 50), .ref (g.2.1 49)]) (by rw [q5]) ?_
    have b6 : vp_in (nI (p + 1)) 170 := by exact vp_in_nI (by omega) (by decide)
    refine x_iald rfl b6 dX10_spellPair_34 ?_
    refine x_topi (y := U4 50 (p + 1)) (by rw [nI_clamp (by omega)]) ?_
    refine x_topi (y := V 50 (p + 1)) (hkU4 _) ?_
    refine x_callV (K := jX10_spellNumber) [.int (V 50 (p + 1))] lk_X10_198 ⟨⟨rfl, rfl⟩, Nat.le_of_ble_eq_true rfl, Nat.le_of_ble_eq_true rfl⟩ rfl rfl (mX10_spellNumber U4 (n + (spN (V 50 p)).length + 1) (by omega) hcU4 (V 50 (p + 1)) hy) rfl (Nat.le_of_ble_eq_true rfl) rfl dX10_spellPair_35 (kdV ?_)
    obtain ⟨U7, eU7⟩ : ∃ v_v : vM, v_v = wrM U4 (n + (spN (V 50 p)).length + 1) (spN (V 50 (p + 1))) := ⟨_, rfl⟩
    refine YY.V eU7.symm ?_
    have hcU7 : U7 49 28 = nI (n + (spN (V 50 p)).length + 1 + (spN (V 50 (p + 1))).length) := by rw [eU7]; exact wrM_n _ _ _ hcU4
    have hkU7 : ∀ z, U7 50 z = V 50 z := fun z => by rw [eU7, wrM_at (by decide) (by omega), hkU4]
    have hlU7 := spN_len (V 50 (p + 1))
    refine x_vret dX10_spellPair_38 rfl ?_
    rw [hQ]
    refine ⟨?_, rfl⟩
    unfold prL
    first
      | (rw [if_neg (by assumption)]; subst_vars; simp only [List.nil_append]; rw [wrM_app, wrM_app]; rfl)
      | (rw [if_pos (by assumption)]; subst_vars; rw [wrM_app, wrM_app, wrM_app]; rfl)
  · refine x_aload_n dX10_spellPair_4 0 rfl ?_
    refine x_bipush (v := 44) dX10_spellPair_5 (by decide) ?_
    refine x_callV (K := jX10_spellSign) [.int 44] lk_X10_191 ⟨⟨rfl, rfl⟩, Nat.le_of_ble_eq_true rfl, Nat.le_of_ble_eq_true rfl⟩ rfl rfl (mX10_spellSign V (n) (by omega) hm 44) rfl (Nat.le_of_ble_eq_true rfl) rfl dX10_spellPair_7 (kdV ?_)
    obtain ⟨U8, eU8⟩ : ∃ v_v : vM, v_v = apM V (n) 44 := ⟨_, rfl⟩
    refine YY.V eU8.symm ?_
    have hcU8 : U8 49 28 = nI (n + 1) := by rw [eU8]; exact apM_n _ _ _
    have hkU8 : ∀ z, U8 50 z = V 50 z := fun z => by rw [eU8, apM, uM_na (by decide), uM_na (by decide)]
    refine x_aload_n dX10_spellPair_10 0 rfl ?_
    refine x_aload_n dX10_spellPair_11 0 rfl ?_
    refine x_getR fl_X10_9 rfl rfl dX10_spellPair_12 ?_
    refine x_iload_n dX10_spellPair_15 1 rfl ?_
    have b9 : vp_in (nI p) 170 := by exact vp_in_nI (by omega) (by decide)
    refine x_iald rfl b9 dX10_spellPair_16 ?_
    refine x_topi (y := U8 50 p) (by rw [nI_clamp (by omega)]) ?_
    refine x_topi (y := V 50 p) (hkU8 _) ?_
    refine x_callV (K := jX10_spellNumber) [.int (V 50 p)] lk_X10_198 ⟨⟨rfl, rfl⟩, Nat.le_of_ble_eq_true rfl, Nat.le_of_ble_eq_true rfl⟩ rfl rfl (mX10_spellNumber U8 (n + 1) (by omega) hcU8 (V 50 p) hx) rfl (Nat.le_of_ble_eq_true rfl) rfl dX10_spellPair_17 (kdV ?_)
    obtain ⟨U10, eU10⟩ : ∃ v_v : vM, v_v = wrM U8 (n + 1) (spN (V 50 p)) := ⟨_, rfl⟩
    refine YY.V eU10.symm ?_
    have hcU10 : U10 49 28 = nI (n + 1 + (spN (V 50 p)).length) := by rw [eU10]; exact wrM_n _ _ _ hcU8
    have hkU10 : ∀ z, U10 50 z = V 50 z := fun z => by rw [eU10, wrM_at (by decide) (by omega), hkU8]
    have hlU10 := spN_len (V 50 p)
    refine x_aload_n dX10_spellPair_20 0 rfl ?_
    refine x_bipush (v := 44) dX10_spellPair_21 (by decide) ?_
    refine x_callV (K := jX10_spellSign) [.int 44] lk_X10_191 ⟨⟨rfl, rfl⟩, Nat.le_of_ble_eq_true rfl, Nat.le_of_ble_eq_true rfl⟩ rfl rfl (mX10_spellSign U10 (n + 1 + (spN (V 50 p)).length) (by omega) hcU10 44) rfl (Nat.le_of_ble_eq_true rfl) rfl dX10_spellPair_23 (kdV ?_)
    obtain ⟨U11, eU11⟩ : ∃ v_v : vM, v_v = apM U10 (n + 1 + (spN (V 50 p)).length) 44 := ⟨_, rfl⟩
    refine YY.V eU11.symm ?_
    have hcU11 : U11 49 28 = nI (n + 1 + (spN (V 50 p)).length + 1) := by rw [eU11]; exact apM_n _ _ _
    have hkU11 : ∀ z, U11 50 z = V 50 z := fun z => by rw [eU11, apM, uM_na (by decide), uM_na (by decide), hkU10]
    refine x_aload_n dX10_spellPair_26 0 rfl ?_
    refine x_aload_n dX10_spellPair_27 0 rfl ?_
    refine x_getR fl_X10_9 rfl rfl dX10_spellPair_28 ?_
    refine x_iload_n dX10_spellPair_31 1 rfl ?_
    refine x_iconst (v := 1) dX10_spellPair_32 (by decide) ?_
    refine x_iadd dX10_spellPair_33 ?_
    have q12 : ((nI p) + 1 : Int32) = nI (p + 1) := nadd (rfl) (rfl)
    refine YY.S (st' := [.int (nI (p + 1)), .ref (g.2.1 50), .ref (g.2.1 49)]) (by rw [q12]) ?_
    have b13 : vp_in (nI (p + 1)) 170 := by exact vp_in_nI (by omega) (by decide)
    refine x_iald rfl b13 dX10_spellPair_34 ?_
    refine x_topi (y := U11 50 (p + 1)) (by rw [nI_clamp (by omega)]) ?_
    refine x_topi (y := V 50 (p + 1)) (hkU11 _) ?_
    refine x_callV (K := jX10_spellNumber) [.int (V 50 (p + 1))] lk_X10_198 ⟨⟨rfl, rfl⟩, Nat.le_of_ble_eq_true rfl, Nat.le_of_ble_eq_true rfl⟩ rfl rfl (mX10_spellNumber U11 (n + 1 + (spN (V 50 p)).length + 1) (by omega) hcU11 (V 50 (p + 1)) hy) rfl (Nat.le_of_ble_eq_true rfl) rfl dX10_spellPair_35 (kdV ?_)
    obtain ⟨U14, eU14⟩ : ∃ v_v : vM, v_v = wrM U11 (n + 1 + (spN (V 50 p)).length + 1) (spN (V 50 (p + 1))) := ⟨_, rfl⟩
    refine YY.V eU14.symm ?_
    have hcU14 : U14 49 28 = nI (n + 1 + (spN (V 50 p)).length + 1 + (spN (V 50 (p + 1))).length) := by rw [eU14]; exact wrM_n _ _ _ hcU11
    have hkU14 : ∀ z, U14 50 z = V 50 z := fun z => by rw [eU14, wrM_at (by decide) (by omega), hkU11]
    have hlU14 := spN_len (V 50 (p + 1))
    refine x_vret dX10_spellPair_38 rfl ?_
    rw [hQ]
    refine ⟨?_, rfl⟩
    unfold prL
    first
      | (rw [if_neg (by assumption)]; subst_vars; simp only [List.nil_append]; rw [wrM_app, wrM_app]; rfl)
      | (rw [if_pos (by assumption)]; subst_vars; rw [wrM_app, wrM_app, wrM_app]; rfl)
