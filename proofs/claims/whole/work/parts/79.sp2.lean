theorem nI_div {a b : Nat} (ha : a < 2 ^ 31) (hb : b < 2 ^ 31) (h0 : 0 < b) : nI a / nI b = nI (a / b) := by
  have hq : a / b ≤ a := Nat.div_le_self a b
  have hz : (0 : Int) ≤ ((a / b : Nat) : Int) := Int.natCast_nonneg _
  have hz2 : ((a / b : Nat) : Int) ≤ (a : Int) := Int.ofNat_le.mpr hq
  apply Int32.toInt_inj.mp
  rw [Int32.toInt_div, nI_toInt ha, nI_toInt hb, nI_toInt (by omega), ← Int.ofNat_tdiv, fb_bmod (by omega) (by omega)]
/-- the digit of r at the unit u -/
def dgt (r u : Nat) : Int32 := nI (48 + r / u % 10)
theorem dgt_e {r u : Nat} (hr : r ≤ 4000) (hu : 0 < u) (hu2 : u ≤ 1000) : 48 + (nI r / nI u - nI r / nI u / 10 * 10) = dgt r u := by
  have hq : r / u ≤ r := Nat.div_le_self r u
  rw [nI_div (by omega) (by omega) hu, show (10 : Int32) = nI 10 from rfl, nI_div (by omega) (by omega) (by omega), nmul rfl rfl, nsub (a := r / u) (b := r / u / 10 * 10) (by omega) rfl rfl, show (48 : Int32) = nI 48 from rfl, nI_add]
  unfold dgt
  congr 2
  omega
theorem nar_d : ∀ d : Fin 128, vp_nar .char (nI d.val) = nI d.val ∧ ((nI d.val).toUInt32 % 65536).toInt32 = nI d.val := by decide +kernel
theorem dgt_c (r u : Nat) : vp_nar .char (dgt r u) = dgt r u ∧ ((dgt r u).toUInt32 % 65536).toInt32 = dgt r u := nar_d ⟨48 + r / u % 10, by omega⟩
/-- the signs of a number from a unit on -/
def rst (r u : Nat) : List Int32 := if u = 1000 then (if 1000 ≤ r then [dgt r 1000] else []) ++ ((if 100 ≤ r then [dgt r 100] else []) ++ ((if 10 ≤ r then [dgt r 10] else []) ++ [dgt r 1])) else if u = 100 then (if 100 ≤ r then [dgt r 100] else []) ++ ((if 10 ≤ r then [dgt r 10] else []) ++ [dgt r 1]) else if u = 10 then (if 10 ≤ r then [dgt r 10] else []) ++ [dgt r 1] else if u = 1 then [dgt r 1] else []
abbrev unt (u : Nat) : Prop := u = 1000 ∨ u = 100 ∨ u = 10 ∨ u = 1
theorem rst_t {r u : Nat} (h : unt u) (c : u ≤ r ∨ u = 1) : rst r u = dgt r u :: rst r (u / 10) := by
  rcases h with rfl | rfl | rfl | rfl
  · have : 1000 ≤ r := by omega
    simp [rst, this]
  · have : 100 ≤ r := by omega
    simp [rst, this]
  · have : 10 ≤ r := by omega
    simp [rst, this]
  · simp [rst]
theorem rst_f {r u : Nat} (h : unt u) (c : ¬ u ≤ r) (c1 : ¬ u = 1) : rst r u = rst r (u / 10) := by
  rcases h with rfl | rfl | rfl | rfl
  · simp [rst, show ¬ 1000 ≤ r from c]
  · simp [rst, show ¬ 100 ≤ r from c]
  · simp [rst, show ¬ 10 ≤ r from c]
  · exact absurd rfl c1
def spN (v : Int32) : List Int32 := (if v < 0 then [45] else []) ++ rst v.toInt.natAbs 1000
theorem spN_len (v : Int32) : (spN v).length ≤ 5 := by
  have b : ∀ (P : Prop) [Decidable P] (x : Int32), ((if P then [x] else []) : List Int32).length ≤ 1 := by intro P _ x; split <;> simp
  have b0 := b (v < 0) 45
  have b1 := b (1000 ≤ v.toInt.natAbs) (dgt v.toInt.natAbs 1000)
  have b2 := b (100 ≤ v.toInt.natAbs) (dgt v.toInt.natAbs 100)
  have b3 := b (10 ≤ v.toInt.natAbs) (dgt v.toInt.natAbs 10)
  unfold spN rst
  rw [if_pos rfl]
  simp only [List.length_append, List.length_cons, List.length_nil]
  omega
theorem abs_r {v : Int32} (h : inR v) : (if 0 ≤ v then v else 0 - v) = nI v.toInt.natAbs ∧ (if v < 0 then -v else v) = nI v.toInt.natAbs ∧ v.toInt.natAbs ≤ 4000 := by
  have r := inR_i h
  have e : (0 - v).toInt = - v.toInt := by rw [fb_subI] <;> rw [show (0 : Int32).toInt = 0 from rfl] <;> omega
  have e2 : (-v).toInt = - v.toInt := fb_negI (by omega)
  refine ⟨?_, ?_, by omega⟩
  · apply Int32.toInt_inj.mp
    rw [nI_toInt (by omega)]
    by_cases c : 0 ≤ v
    · rw [if_pos c]
      rw [Int32.le_iff_toInt_le, show (0 : Int32).toInt = 0 from rfl] at c
      omega
    · rw [if_neg c, e]
      rw [Int32.le_iff_toInt_le, show (0 : Int32).toInt = 0 from rfl] at c
      omega
  · apply Int32.toInt_inj.mp
    rw [nI_toInt (by omega)]
    by_cases c : v < 0
    · rw [if_pos c, e2]
      rw [Int32.lt_iff_toInt_lt, show (0 : Int32).toInt = 0 from rfl] at c
      omega
    · rw [if_neg c]
      rw [Int32.lt_iff_toInt_lt, show (0 : Int32).toInt = 0 from rfl] at c
      omega
set_option maxHeartbeats 1000000 in
set_option maxRecDepth 100000 in
theorem mX8_spellNumber {g : gX} (V : vM) (n : Nat) (hn : n + 5 ≤ 864) (hm : V 11 1 = nI n) (v : Int32) (hv : inR v) : MM g jX8_spellNumber V [.ref (g.2.1 11), .int v] (dV (wrC V n (spN v))) := by
  refine MM.of plX8_spellNumber (Nat.le_of_ble_eq_true rfl) ?_
  obtain ⟨Q, hQ⟩ : ∃ Q : Option Value → vM → Prop, Q = (dV (wrC V n (spN v))) := ⟨_, rfl⟩
  rw [← hQ]
  show XX g jX8_spellNumber Q V 0 [(0, .ref (g.2.1 11)), (1, .int v)] []
  have hab := abs_r hv
  obtain ⟨r, er⟩ : ∃ z : Nat, z = v.toInt.natAbs := ⟨_, rfl⟩
  rw [← er] at hab
  have hr4 : r ≤ 4000 := hab.2.2
  have esp : spN v = (if v < 0 then [45] else []) ++ rst r 1000 := by unfold spN; rw [← er]
  refine x_iload_n dX8_spellNumber_0 1 rfl ?_
  refine x_if_ge 10 dX8_spellNumber_1 (by decide) (fun c1 => ?_) (fun c1 => ?_)
  · refine x_iload_n dX8_spellNumber_10 1 rfl ?_
    refine x_mabs pr_mabs_X8_54 pr_mabs_st pr_math pr_mabs_code (by decide) (Nat.le_of_ble_eq_true rfl) dX8_spellNumber_11 ?_
    refine x_topi (y := nI r) (hab.1) ?_
    refine x_istore_n 2 [(2, .int (nI r)), (0, .ref (g.2.1 11)), (1, .int v)] dX8_spellNumber_14 rfl (by decide) rfl ?_
    refine x_sipush (v := 1000) dX8_spellNumber_15 (by decide) ?_
    refine x_istore_n 3 [(3, .int 1000), (2, .int (nI r)), (0, .ref (g.2.1 11)), (1, .int v)] dX8_spellNumber_18 rfl (by decide) rfl ?_
    have lp2 : ∀ (fu : Nat) (u : Nat) (L : List Int32) (U : vM), (u = 1000 ∨ u = 100 ∨ u = 10 ∨ u = 1 ∨ u = 0) → (U = wrC V n L) → (L ++ rst r u = spN v) → (u) < fu → XX g jX8_spellNumber Q U 19 [(3, .int (nI u)), (2, .int (nI r)), (0, .ref (g.2.1 11)), (1, .int v)] [] := by
      intro fu
      induction fu with
      | zero => intro _ _ _ _ _ _ hmz; exact absurd hmz (Nat.not_lt_zero _)
      | succ fu ih =>
        intro u L U hu hU hL hmz
        refine x_iload_n dX8_spellNumber_19 0 rfl ?_
        refine x_if_le 55 dX8_spellNumber_20 (by decide) (fun c3 => ?_) (fun c3 => ?_)
        · have c3n : u ≤ 0 := (nl_le (a := u) (b := 0) (rfl) (rfl) (by omega) (by omega)).mp c3
          refine x_vret dX8_spellNumber_55 rfl ?_
          rw [hQ]
          refine ⟨?_, rfl⟩
          have u0 : u = 0 := by omega
          rw [u0] at hL
          have e0 : rst r 0 = [] := rfl
          rw [e0, List.append_nil] at hL
          rw [hU, hL]
        · have c3n : 0 < u := Nat.not_le.mp (fun q => c3 ((nl_le (a := u) (b := 0) (rfl) (rfl) (by omega) (by omega)).mpr q))
          have hun : unt u := by omega
          refine x_iload_n dX8_spellNumber_23 1 rfl ?_
          refine x_iload_n dX8_spellNumber_24 0 rfl ?_
          refine x_icmp_ge 33 dX8_spellNumber_25 (by decide) (fun c4 => ?_) (fun c4 => ?_)
          · have c4n : u ≤ r := (nl_le (a := u) (b := r) (rfl) (rfl) (by omega) (by omega)).mp c4
            have hrt := rst_t (r := r) hun (by omega)
            have hlen := spN_len v
            rw [← hL, List.length_append, hrt, List.length_cons] at hlen
            have hmL : U 11 1 = nI (n + L.length) := by rw [hU]; exact wrC_n L V n hm
            refine x_aload_n dX8_spellNumber_33 2 rfl ?_
            refine x_bipush (v := 48) dX8_spellNumber_34 (by decide) ?_
            refine x_iload_n dX8_spellNumber_36 1 rfl ?_
            refine x_iload_n dX8_spellNumber_37 0 rfl ?_
            have nz5 : ¬ (nI u : Int32) = 0 := by grind
            refine x_idiv dX8_spellNumber_38 nz5 ?_
            refine x_bipush (v := 10) dX8_spellNumber_39 (by decide) ?_
            have nz6 : ¬ (10 : Int32) = 0 := by decide
            refine x_irem dX8_spellNumber_41 nz6 ?_
            refine x_iadd dX8_spellNumber_42 ?_
            refine x_topi (y := dgt r u) (dgt_e hr4 (by omega) (by omega)) ?_
            refine x_i2c dX8_spellNumber_43 ?_
            refine x_topi (y := dgt r u) ((dgt_c _ _).2) ?_
            refine x_callV (K := jX8_append) [.int (dgt r u)] lk_X8_35 ⟨⟨rfl, rfl⟩, Nat.le_of_ble_eq_true rfl, Nat.le_of_ble_eq_true rfl⟩ rfl rfl (mX8_append U (n + L.length) (by omega) hmL (dgt r u) (dgt_c _ _).1) rfl (Nat.le_of_ble_eq_true rfl) rfl dX8_spellNumber_44 (kdV ?_)
            obtain ⟨U7, eU7⟩ : ∃ v_v : vM, v_v = apC U (n + L.length) (dgt r u) := ⟨_, rfl⟩
            refine YY.V eU7.symm ?_
            refine x_iload_n dX8_spellNumber_47 0 rfl ?_
            refine x_bipush (v := 10) dX8_spellNumber_48 (by decide) ?_
            have nz8 : ¬ (10 : Int32) = 0 := by decide
            refine x_idiv dX8_spellNumber_50 nz8 ?_
            refine x_topi (y := nI (u / 10)) (nI_div (b := 10) (by omega) (by omega) (by omega)) ?_
            refine x_istore_n 3 [(3, .int (nI (u / 10))), (2, .int (nI r)), (0, .ref (g.2.1 11)), (1, .int v)] dX8_spellNumber_51 rfl (by decide) rfl ?_
            refine x_goto 19 dX8_spellNumber_52 (by decide) ?_
            exact ih (u / 10) (L ++ [dgt r u]) U7 (by omega) (by rw [eU7, hU, wrC_app]; rfl) (by rw [← hL, hrt, List.append_assoc]; rfl) (by omega)
          · have c4n : r < u := Nat.not_le.mp (fun q => c4 ((nl_le (a := u) (b := r) (rfl) (rfl) (by omega) (by omega)).mpr q))
            refine x_iload_n dX8_spellNumber_28 0 rfl ?_
            refine x_iconst (v := 1) dX8_spellNumber_29 (by decide) ?_
            refine x_icmp_ne 47 dX8_spellNumber_30 (by decide) (fun c9 => ?_) (fun c9 => ?_)
            · have c9n : ¬ u = 1 := fun q => c9 ((nl_eq (a := u) (b := 1) (rfl) (rfl) (by omega) (by omega)).mpr q)
              refine x_iload_n dX8_spellNumber_47 0 rfl ?_
              refine x_bipush (v := 10) dX8_spellNumber_48 (by decide) ?_
              have nz10 : ¬ (10 : Int32) = 0 := by decide
              refine x_idiv dX8_spellNumber_50 nz10 ?_
              refine x_topi (y := nI (u / 10)) (nI_div (b := 10) (by omega) (by omega) (by omega)) ?_
              refine x_istore_n 3 [(3, .int (nI (u / 10))), (2, .int (nI r)), (0, .ref (g.2.1 11)), (1, .int v)] dX8_spellNumber_51 rfl (by decide) rfl ?_
              refine x_goto 19 dX8_spellNumber_52 (by decide) ?_
              exact ih (u / 10) L U (by omega) (by exact hU) (by rw [← hL, rst_f hun (by omega) (by omega)]) (by omega)
            · have c9n : u = 1 := (nl_eq (a := u) (b := 1) (rfl) (rfl) (by omega) (by omega)).mp c9
              have hrt := rst_t (r := r) hun (by omega)
              have hlen := spN_len v
              rw [← hL, List.length_append, hrt, List.length_cons] at hlen
              have hmL : U 11 1 = nI (n + L.length) := by rw [hU]; exact wrC_n L V n hm
              refine x_aload_n dX8_spellNumber_33 2 rfl ?_
              refine x_bipush (v := 48) dX8_spellNumber_34 (by decide) ?_
              refine x_iload_n dX8_spellNumber_36 1 rfl ?_
              refine x_iload_n dX8_spellNumber_37 0 rfl ?_
              have nz11 : ¬ (nI u : Int32) = 0 := by grind
              refine x_idiv dX8_spellNumber_38 nz11 ?_
              refine x_bipush (v := 10) dX8_spellNumber_39 (by decide) ?_
              have nz12 : ¬ (10 : Int32) = 0 := by decide
              refine x_irem dX8_spellNumber_41 nz12 ?_
              refine x_iadd dX8_spellNumber_42 ?_
              refine x_topi (y := dgt r u) (dgt_e hr4 (by omega) (by omega)) ?_
              refine x_i2c dX8_spellNumber_43 ?_
              refine x_topi (y := dgt r u) ((dgt_c _ _).2) ?_
              refine x_callV (K := jX8_append) [.int (dgt r u)] lk_X8_35 ⟨⟨rfl, rfl⟩, Nat.le_of_ble_eq_true rfl, Nat.le_of_ble_eq_true rfl⟩ rfl rfl (mX8_append U (n + L.length) (by omega) hmL (dgt r u) (dgt_c _ _).1) rfl (Nat.le_of_ble_eq_true rfl) rfl dX8_spellNumber_44 (kdV ?_)
              obtain ⟨U13, eU13⟩ : ∃ v_v : vM, v_v = apC U (n + L.length) (dgt r u) := ⟨_, rfl⟩
              refine YY.V eU13.symm ?_
              refine x_iload_n dX8_spellNumber_47 0 rfl ?_
              refine x_bipush (v := 10) dX8_spellNumber_48 (by decide) ?_
              have nz14 : ¬ (10 : Int32) = 0 := by decide
              refine x_idiv dX8_spellNumber_50 nz14 ?_
              refine x_topi (y := nI (u / 10)) (nI_div (b := 10) (by omega) (by omega) (by omega)) ?_
              refine x_istore_n 3 [(3, .int (nI (u / 10))), (2, .int (nI r)), (0, .ref (g.2.1 11)), (1, .int v)] dX8_spellNumber_51 rfl (by decide) rfl ?_
              refine x_goto 19 dX8_spellNumber_52 (by decide) ?_
              exact ih (u / 10) (L ++ [dgt r u]) U13 (by omega) (by rw [eU13, hU, wrC_app]; rfl) (by rw [← hL, hrt, List.append_assoc]; rfl) (by omega)
    refine YY.L (lv' := [(3, .int (nI 1000)), (2, .int (nI r)), (0, .ref (g.2.1 11)), (1, .int v)]) (by rfl) ?_
    exact lp2 _ 1000 ([]) V (by omega) (by rfl) (by rw [esp, if_neg (by first | assumption | exact Int32.not_lt.mpr (by assumption))]) (Nat.lt_succ_self _)
  · refine x_aload_n dX8_spellNumber_4 0 rfl ?_
    refine x_bipush (v := 45) dX8_spellNumber_5 (by decide) ?_
    refine x_callV (K := jX8_append) [.int 45] lk_X8_35 ⟨⟨rfl, rfl⟩, Nat.le_of_ble_eq_true rfl, Nat.le_of_ble_eq_true rfl⟩ rfl rfl (mX8_append V (n) (by omega) hm 45 rfl) rfl (Nat.le_of_ble_eq_true rfl) rfl dX8_spellNumber_7 (kdV ?_)
    obtain ⟨U15, eU15⟩ : ∃ v_v : vM, v_v = apC V (n) 45 := ⟨_, rfl⟩
    refine YY.V eU15.symm ?_
    refine x_iload_n dX8_spellNumber_10 1 rfl ?_
    refine x_mabs pr_mabs_X8_54 pr_mabs_st pr_math pr_mabs_code (by decide) (Nat.le_of_ble_eq_true rfl) dX8_spellNumber_11 ?_
    refine x_topi (y := nI r) (hab.1) ?_
    refine x_istore_n 2 [(2, .int (nI r)), (0, .ref (g.2.1 11)), (1, .int v)] dX8_spellNumber_14 rfl (by decide) rfl ?_
    refine x_sipush (v := 1000) dX8_spellNumber_15 (by decide) ?_
    refine x_istore_n 3 [(3, .int 1000), (2, .int (nI r)), (0, .ref (g.2.1 11)), (1, .int v)] dX8_spellNumber_18 rfl (by decide) rfl ?_
    have lp16 : ∀ (fu : Nat) (u : Nat) (L : List Int32) (U : vM), (u = 1000 ∨ u = 100 ∨ u = 10 ∨ u = 1 ∨ u = 0) → (U = wrC V n L) → (L ++ rst r u = spN v) → (u) < fu → XX g jX8_spellNumber Q U 19 [(3, .int (nI u)), (2, .int (nI r)), (0, .ref (g.2.1 11)), (1, .int v)] [] := by
      intro fu
      induction fu with
      | zero => intro _ _ _ _ _ _ hmz; exact absurd hmz (Nat.not_lt_zero _)
      | succ fu ih =>
        intro u L U hu hU hL hmz
        refine x_iload_n dX8_spellNumber_19 0 rfl ?_
        refine x_if_le 55 dX8_spellNumber_20 (by decide) (fun c17 => ?_) (fun c17 => ?_)
        · have c17n : u ≤ 0 := (nl_le (a := u) (b := 0) (rfl) (rfl) (by omega) (by omega)).mp c17
          refine x_vret dX8_spellNumber_55 rfl ?_
          rw [hQ]
          refine ⟨?_, rfl⟩
          have u0 : u = 0 := by omega
          rw [u0] at hL
          have e0 : rst r 0 = [] := rfl
          rw [e0, List.append_nil] at hL
          rw [hU, hL]
        · have c17n : 0 < u := Nat.not_le.mp (fun q => c17 ((nl_le (a := u) (b := 0) (rfl) (rfl) (by omega) (by omega)).mpr q))
          have hun : unt u := by omega
          refine x_iload_n dX8_spellNumber_23 1 rfl ?_
          refine x_iload_n dX8_spellNumber_24 0 rfl ?_
          refine x_icmp_ge 33 dX8_spellNumber_25 (by decide) (fun c18 => ?_) (fun c18 => ?_)
          · have c18n : u ≤ r := (nl_le (a := u) (b := r) (rfl) (rfl) (by omega) (by omega)).mp c18
            have hrt := rst_t (r := r) hun (by omega)
            have hlen := spN_len v
            rw [← hL, List.length_append, hrt, List.length_cons] at hlen
            have hmL : U 11 1 = nI (n + L.length) := by rw [hU]; exact wrC_n L V n hm
            refine x_aload_n dX8_spellNumber_33 2 rfl ?_
            refine x_bipush (v := 48) dX8_spellNumber_34 (by decide) ?_
            refine x_iload_n dX8_spellNumber_36 1 rfl ?_
            refine x_iload_n dX8_spellNumber_37 0 rfl ?_
            have nz19 : ¬ (nI u : Int32) = 0 := by grind
            refine x_idiv dX8_spellNumber_38 nz19 ?_
            refine x_bipush (v := 10) dX8_spellNumber_39 (by decide) ?_
            have nz20 : ¬ (10 : Int32) = 0 := by decide
            refine x_irem dX8_spellNumber_41 nz20 ?_
            refine x_iadd dX8_spellNumber_42 ?_
            refine x_topi (y := dgt r u) (dgt_e hr4 (by omega) (by omega)) ?_
            refine x_i2c dX8_spellNumber_43 ?_
            refine x_topi (y := dgt r u) ((dgt_c _ _).2) ?_
            refine x_callV (K := jX8_append) [.int (dgt r u)] lk_X8_35 ⟨⟨rfl, rfl⟩, Nat.le_of_ble_eq_true rfl, Nat.le_of_ble_eq_true rfl⟩ rfl rfl (mX8_append U (n + L.length) (by omega) hmL (dgt r u) (dgt_c _ _).1) rfl (Nat.le_of_ble_eq_true rfl) rfl dX8_spellNumber_44 (kdV ?_)
            obtain ⟨U21, eU21⟩ : ∃ v_v : vM, v_v = apC U (n + L.length) (dgt r u) := ⟨_, rfl⟩
            refine YY.V eU21.symm ?_
            refine x_iload_n dX8_spellNumber_47 0 rfl ?_
            refine x_bipush (v := 10) dX8_spellNumber_48 (by decide) ?_
            have nz22 : ¬ (10 : Int32) = 0 := by decide
            refine x_idiv dX8_spellNumber_50 nz22 ?_
            refine x_topi (y := nI (u / 10)) (nI_div (b := 10) (by omega) (by omega) (by omega)) ?_
            refine x_istore_n 3 [(3, .int (nI (u / 10))), (2, .int (nI r)), (0, .ref (g.2.1 11)), (1, .int v)] dX8_spellNumber_51 rfl (by decide) rfl ?_
            refine x_goto 19 dX8_spellNumber_52 (by decide) ?_
            exact ih (u / 10) (L ++ [dgt r u]) U21 (by omega) (by rw [eU21, hU, wrC_app]; rfl) (by rw [← hL, hrt, List.append_assoc]; rfl) (by omega)
          · have c18n : r < u := Nat.not_le.mp (fun q => c18 ((nl_le (a := u) (b := r) (rfl) (rfl) (by omega) (by omega)).mpr q))
            refine x_iload_n dX8_spellNumber_28 0 rfl ?_
            refine x_iconst (v := 1) dX8_spellNumber_29 (by decide) ?_
            refine x_icmp_ne 47 dX8_spellNumber_30 (by decide) (fun c23 => ?_) (fun c23 => ?_)
            · have c23n : ¬ u = 1 := fun q => c23 ((nl_eq (a := u) (b := 1) (rfl) (rfl) (by omega) (by omega)).mpr q)
              refine x_iload_n dX8_spellNumber_47 0 rfl ?_
              refine x_bipush (v := 10) dX8_spellNumber_48 (by decide) ?_
              have nz24 : ¬ (10 : Int32) = 0 := by decide
              refine x_idiv dX8_spellNumber_50 nz24 ?_
              refine x_topi (y := nI (u / 10)) (nI_div (b := 10) (by omega) (by omega) (by omega)) ?_
              refine x_istore_n 3 [(3, .int (nI (u / 10))), (2, .int (nI r)), (0, .ref (g.2.1 11)), (1, .int v)] dX8_spellNumber_51 rfl (by decide) rfl ?_
              refine x_goto 19 dX8_spellNumber_52 (by decide) ?_
              exact ih (u / 10) L U (by omega) (by exact hU) (by rw [← hL, rst_f hun (by omega) (by omega)]) (by omega)
            · have c23n : u = 1 := (nl_eq (a := u) (b := 1) (rfl) (rfl) (by omega) (by omega)).mp c23
              have hrt := rst_t (r := r) hun (by omega)
              have hlen := spN_len v
              rw [← hL, List.length_append, hrt, List.length_cons] at hlen
              have hmL : U 11 1 = nI (n + L.length) := by rw [hU]; exact wrC_n L V n hm
              refine x_aload_n dX8_spellNumber_33 2 rfl ?_
              refine x_bipush (v := 48) dX8_spellNumber_34 (by decide) ?_
              refine x_iload_n dX8_spellNumber_36 1 rfl ?_
              refine x_iload_n dX8_spellNumber_37 0 rfl ?_
              have nz25 : ¬ (nI u : Int32) = 0 := by grind
              refine x_idiv dX8_spellNumber_38 nz25 ?_
              refine x_bipush (v := 10) dX8_spellNumber_39 (by decide) ?_
              have nz26 : ¬ (10 : Int32) = 0 := by decide
              refine x_irem dX8_spellNumber_41 nz26 ?_
              refine x_iadd dX8_spellNumber_42 ?_
              refine x_topi (y := dgt r u) (dgt_e hr4 (by omega) (by omega)) ?_
              refine x_i2c dX8_spellNumber_43 ?_
              refine x_topi (y := dgt r u) ((dgt_c _ _).2) ?_
              refine x_callV (K := jX8_append) [.int (dgt r u)] lk_X8_35 ⟨⟨rfl, rfl⟩, Nat.le_of_ble_eq_true rfl, Nat.le_of_ble_eq_true rfl⟩ rfl rfl (mX8_append U (n + L.length) (by omega) hmL (dgt r u) (dgt_c _ _).1) rfl (Nat.le_of_ble_eq_true rfl) rfl dX8_spellNumber_44 (kdV ?_)
              obtain ⟨U27, eU27⟩ : ∃ v_v : vM, v_v = apC U (n + L.length) (dgt r u) := ⟨_, rfl⟩
              refine YY.V eU27.symm ?_
              refine x_iload_n dX8_spellNumber_47 0 rfl ?_
              refine x_bipush (v := 10) dX8_spellNumber_48 (by decide) ?_
              have nz28 : ¬ (10 : Int32) = 0 := by decide
              refine x_idiv dX8_spellNumber_50 nz28 ?_
              refine x_topi (y := nI (u / 10)) (nI_div (b := 10) (by omega) (by omega) (by omega)) ?_
              refine x_istore_n 3 [(3, .int (nI (u / 10))), (2, .int (nI r)), (0, .ref (g.2.1 11)), (1, .int v)] dX8_spellNumber_51 rfl (by decide) rfl ?_
              refine x_goto 19 dX8_spellNumber_52 (by decide) ?_
              exact ih (u / 10) (L ++ [dgt r u]) U27 (by omega) (by rw [eU27, hU, wrC_app]; rfl) (by rw [← hL, hrt, List.append_assoc]; rfl) (by omega)
    refine YY.L (lv' := [(3, .int (nI 1000)), (2, .int (nI r)), (0, .ref (g.2.1 11)), (1, .int v)]) (by rfl) ?_
    exact lp16 _ 1000 ([45]) U15 (by omega) (by rw [eU15]; rfl) (by rw [esp, if_pos (by first | assumption | exact Int32.not_le.mp (by assumption))]) (Nat.lt_succ_self _)
set_option maxHeartbeats 1000000 in
set_option maxRecDepth 100000 in
theorem mX10_spellNumber {g : gX} (V : vM) (n : Nat) (hn : n + 5 ≤ 1200) (hm : V 49 28 = nI n) (v : Int32) (hv : inR v) : MM g jX10_spellNumber V [.ref (g.2.1 49), .int v] (dV (wrM V n (spN v))) := by
  refine MM.of plX10_spellNumber (Nat.le_of_ble_eq_true rfl) ?_
  obtain ⟨Q, hQ⟩ : ∃ Q : Option Value → vM → Prop, Q = (dV (wrM V n (spN v))) := ⟨_, rfl⟩
  rw [← hQ]
  show XX g jX10_spellNumber Q V 0 [(0, .ref (g.2.1 49)), (1, .int v)] []
  have hab := abs_r hv
  obtain ⟨r, er⟩ : ∃ z : Nat, z = v.toInt.natAbs := ⟨_, rfl⟩
  rw [← er] at hab
  have hr4 : r ≤ 4000 := hab.2.2
  have esp : spN v = (if v < 0 then [45] else []) ++ rst r 1000 := by unfold spN; rw [← er]
  refine x_iload_n dX10_spellNumber_0 1 rfl ?_
  refine x_if_ge 10 dX10_spellNumber_1 (by decide) (fun c1 => ?_) (fun c1 => ?_)
  · refine x_iload_n dX10_spellNumber_10 1 rfl ?_
    refine x_callS (K := jX10_size) [.int v] lk_X10_195 ⟨⟨rfl, rfl⟩, Nat.le_of_ble_eq_true rfl, Nat.le_of_ble_eq_true rfl⟩ (by have := mX10_size (g := g) V v; rw [hab.2.1] at this; exact this) rfl (Nat.le_of_ble_eq_true rfl) rfl dX10_spellNumber_11 (kpI ?_)
    refine x_istore_n 2 [(2, .int (nI r)), (0, .ref (g.2.1 49)), (1, .int v)] dX10_spellNumber_14 rfl (by decide) rfl ?_
    refine x_sipush (v := 1000) dX10_spellNumber_15 (by decide) ?_
    refine x_istore_n 3 [(3, .int 1000), (2, .int (nI r)), (0, .ref (g.2.1 49)), (1, .int v)] dX10_spellNumber_18 rfl (by decide) rfl ?_
    have lp2 : ∀ (fu : Nat) (u : Nat) (L : List Int32) (U : vM), (u = 1000 ∨ u = 100 ∨ u = 10 ∨ u = 1 ∨ u = 0) → (U = wrM V n L) → (L ++ rst r u = spN v) → (u) < fu → XX g jX10_spellNumber Q U 19 [(3, .int (nI u)), (2, .int (nI r)), (0, .ref (g.2.1 49)), (1, .int v)] [] := by
      intro fu
      induction fu with
      | zero => intro _ _ _ _ _ _ hmz; exact absurd hmz (Nat.not_lt_zero _)
      | succ fu ih =>
        intro u L U hu hU hL hmz
        refine x_iload_n dX10_spellNumber_19 0 rfl ?_
        refine x_if_le 54 dX10_spellNumber_20 (by decide) (fun c3 => ?_) (fun c3 => ?_)
        · have c3n : u ≤ 0 := (nl_le (a := u) (b := 0) (rfl) (rfl) (by omega) (by omega)).mp c3
          refine x_vret dX10_spellNumber_54 rfl ?_
          rw [hQ]
          refine ⟨?_, rfl⟩
          have u0 : u = 0 := by omega
          rw [u0] at hL
          have e0 : rst r 0 = [] := rfl
          rw [e0, List.append_nil] at hL
          rw [hU, hL]
        · have c3n : 0 < u := Nat.not_le.mp (fun q => c3 ((nl_le (a := u) (b := 0) (rfl) (rfl) (by omega) (by omega)).mpr q))
          have hun : unt u := by omega
          refine x_iload_n dX10_spellNumber_23 1 rfl ?_
          refine x_iload_n dX10_spellNumber_24 0 rfl ?_
          refine x_icmp_ge 33 dX10_spellNumber_25 (by decide) (fun c4 => ?_) (fun c4 => ?_)
          · have c4n : u ≤ r := (nl_le (a := u) (b := r) (rfl) (rfl) (by omega) (by omega)).mp c4
            have hrt := rst_t (r := r) hun (by omega)
            have hlen := spN_len v
            rw [← hL, List.length_append, hrt, List.length_cons] at hlen
            have hmL : U 49 28 = nI (n + L.length) := by rw [hU]; exact wrM_n L V n hm
            refine x_aload_n dX10_spellNumber_33 2 rfl ?_
            refine x_bipush (v := 48) dX10_spellNumber_34 (by decide) ?_
            refine x_iload_n dX10_spellNumber_36 1 rfl ?_
            refine x_iload_n dX10_spellNumber_37 0 rfl ?_
            have nz5 : ¬ (nI u : Int32) = 0 := by grind
            refine x_idiv dX10_spellNumber_38 nz5 ?_
            refine x_bipush (v := 10) dX10_spellNumber_39 (by decide) ?_
            have nz6 : ¬ (10 : Int32) = 0 := by decide
            refine x_irem dX10_spellNumber_41 nz6 ?_
            refine x_iadd dX10_spellNumber_42 ?_
            refine x_topi (y := dgt r u) (dgt_e hr4 (by omega) (by omega)) ?_
            refine x_callV (K := jX10_spellSign) [.int (dgt r u)] lk_X10_191 ⟨⟨rfl, rfl⟩, Nat.le_of_ble_eq_true rfl, Nat.le_of_ble_eq_true rfl⟩ rfl rfl (mX10_spellSign U (n + L.length) (by omega) hmL (dgt r u)) rfl (Nat.le_of_ble_eq_true rfl) rfl dX10_spellNumber_43 (kdV ?_)
            obtain ⟨U7, eU7⟩ : ∃ v_v : vM, v_v = apM U (n + L.length) (dgt r u) := ⟨_, rfl⟩
            refine YY.V eU7.symm ?_
            refine x_iload_n dX10_spellNumber_46 0 rfl ?_
            refine x_bipush (v := 10) dX10_spellNumber_47 (by decide) ?_
            have nz8 : ¬ (10 : Int32) = 0 := by decide
            refine x_idiv dX10_spellNumber_49 nz8 ?_
            refine x_topi (y := nI (u / 10)) (nI_div (b := 10) (by omega) (by omega) (by omega)) ?_
            refine x_istore_n 3 [(3, .int (nI (u / 10))), (2, .int (nI r)), (0, .ref (g.2.1 49)), (1, .int v)] dX10_spellNumber_50 rfl (by decide) rfl ?_
            refine x_goto 19 dX10_spellNumber_51 (by decide) ?_
            exact ih (u / 10) (L ++ [dgt r u]) U7 (by omega) (by rw [eU7, hU, wrM_app]; rfl) (by rw [← hL, hrt, List.append_assoc]; rfl) (by omega)
          · have c4n : r < u := Nat.not_le.mp (fun q => c4 ((nl_le (a := u) (b := r) (rfl) (rfl) (by omega) (by omega)).mpr q))
            refine x_iload_n dX10_spellNumber_28 0 rfl ?_
            refine x_iconst (v := 1) dX10_spellNumber_29 (by decide) ?_
            refine x_icmp_ne 46 dX10_spellNumber_30 (by decide) (fun c9 => ?_) (fun c9 => ?_)
            · have c9n : ¬ u = 1 := fun q => c9 ((nl_eq (a := u) (b := 1) (rfl) (rfl) (by omega) (by omega)).mpr q)
              refine x_iload_n dX10_spellNumber_46 0 rfl ?_
              refine x_bipush (v := 10) dX10_spellNumber_47 (by decide) ?_
              have nz10 : ¬ (10 : Int32) = 0 := by decide
              refine x_idiv dX10_spellNumber_49 nz10 ?_
              refine x_topi (y := nI (u / 10)) (nI_div (b := 10) (by omega) (by omega) (by omega)) ?_
              refine x_istore_n 3 [(3, .int (nI (u / 10))), (2, .int (nI r)), (0, .ref (g.2.1 49)), (1, .int v)] dX10_spellNumber_50 rfl (by decide) rfl ?_
              refine x_goto 19 dX10_spellNumber_51 (by decide) ?_
              exact ih (u / 10) L U (by omega) (by exact hU) (by rw [← hL, rst_f hun (by omega) (by omega)]) (by omega)
            · have c9n : u = 1 := (nl_eq (a := u) (b := 1) (rfl) (rfl) (by omega) (by omega)).mp c9
              have hrt := rst_t (r := r) hun (by omega)
              have hlen := spN_len v
              rw [← hL, List.length_append, hrt, List.length_cons] at hlen
              have hmL : U 49 28 = nI (n + L.length) := by rw [hU]; exact wrM_n L V n hm
              refine x_aload_n dX10_spellNumber_33 2 rfl ?_
              refine x_bipush (v := 48) dX10_spellNumber_34 (by decide) ?_
              refine x_iload_n dX10_spellNumber_36 1 rfl ?_
              refine x_iload_n dX10_spellNumber_37 0 rfl ?_
              have nz11 : ¬ (nI u : Int32) = 0 := by grind
              refine x_idiv dX10_spellNumber_38 nz11 ?_
              refine x_bipush (v := 10) dX10_spellNumber_39 (by decide) ?_
              have nz12 : ¬ (10 : Int32) = 0 := by decide
              refine x_irem dX10_spellNumber_41 nz12 ?_
              refine x_iadd dX10_spellNumber_42 ?_
              refine x_topi (y := dgt r u) (dgt_e hr4 (by omega) (by omega)) ?_
              refine x_callV (K := jX10_spellSign) [.int (dgt r u)] lk_X10_191 ⟨⟨rfl, rfl⟩, Nat.le_of_ble_eq_true rfl, Nat.le_of_ble_eq_true rfl⟩ rfl rfl (mX10_spellSign U (n + L.length) (by omega) hmL (dgt r u)) rfl (Nat.le_of_ble_eq_true rfl) rfl dX10_spellNumber_43 (kdV ?_)
              obtain ⟨U13, eU13⟩ : ∃ v_v : vM, v_v = apM U (n + L.length) (dgt r u) := ⟨_, rfl⟩
              refine YY.V eU13.symm ?_
              refine x_iload_n dX10_spellNumber_46 0 rfl ?_
              refine x_bipush (v := 10) dX10_spellNumber_47 (by decide) ?_
              have nz14 : ¬ (10 : Int32) = 0 := by decide
              refine x_idiv dX10_spellNumber_49 nz14 ?_
              refine x_topi (y := nI (u / 10)) (nI_div (b := 10) (by omega) (by omega) (by omega)) ?_
              refine x_istore_n 3 [(3, .int (nI (u / 10))), (2, .int (nI r)), (0, .ref (g.2.1 49)), (1, .int v)] dX10_spellNumber_50 rfl (by decide) rfl ?_
              refine x_goto 19 dX10_spellNumber_51 (by decide) ?_
              exact ih (u / 10) (L ++ [dgt r u]) U13 (by omega) (by rw [eU13, hU, wrM_app]; rfl) (by rw [← hL, hrt, List.append_assoc]; rfl) (by omega)
    refine YY.L (lv' := [(3, .int (nI 1000)), (2, .int (nI r)), (0, .ref (g.2.1 49)), (1, .int v)]) (by rfl) ?_
    exact lp2 _ 1000 ([]) V (by omega) (by rfl) (by rw [esp, if_neg (by first | assumption | exact Int32.not_lt.mpr (by assumption))]) (Nat.lt_succ_self _)
  · refine x_aload_n dX10_spellNumber_4 0 rfl ?_
    refine x_bipush (v := 45) dX10_spellNumber_5 (by decide) ?_
    refine x_callV (K := jX10_spellSign) [.int 45] lk_X10_191 ⟨⟨rfl, rfl⟩, Nat.le_of_ble_eq_true rfl, Nat.le_of_ble_eq_true rfl⟩ rfl rfl (mX10_spellSign V (n) (by omega) hm 45) rfl (Nat.le_of_ble_eq_true rfl) rfl dX10_spellNumber_7 (kdV ?_)
    obtain ⟨U15, eU15⟩ : ∃ v_v : vM, v_v = apM V (n) 45 := ⟨_, rfl⟩
    refine YY.V eU15.symm ?_
    refine x_iload_n dX10_spellNumber_10 1 rfl ?_
    refine x_callS (K := jX10_size) [.int v] lk_X10_195 ⟨⟨rfl, rfl⟩, Nat.le_of_ble_eq_true rfl, Nat.le_of_ble_eq_true rfl⟩ (by have := mX10_size (g := g) U15 v; rw [hab.2.1] at this; exact this) rfl (Nat.le_of_ble_eq_true rfl) rfl dX10_spellNumber_11 (kpI ?_)
    refine x_istore_n 2 [(2, .int (nI r)), (0, .ref (g.2.1 49)), (1, .int v)] dX10_spellNumber_14 rfl (by decide) rfl ?_
    refine x_sipush (v := 1000) dX10_spellNumber_15 (by decide) ?_
    refine x_istore_n 3 [(3, .int 1000), (2, .int (nI r)), (0, .ref (g.2.1 49)), (1, .int v)] dX10_spellNumber_18 rfl (by decide) rfl ?_
    have lp16 : ∀ (fu : Nat) (u : Nat) (L : List Int32) (U : vM), (u = 1000 ∨ u = 100 ∨ u = 10 ∨ u = 1 ∨ u = 0) → (U = wrM V n L) → (L ++ rst r u = spN v) → (u) < fu → XX g jX10_spellNumber Q U 19 [(3, .int (nI u)), (2, .int (nI r)), (0, .ref (g.2.1 49)), (1, .int v)] [] := by
      intro fu
      induction fu with
      | zero => intro _ _ _ _ _ _ hmz; exact absurd hmz (Nat.not_lt_zero _)
      | succ fu ih =>
        intro u L U hu hU hL hmz
        refine x_iload_n dX10_spellNumber_19 0 rfl ?_
        refine x_if_le 54 dX10_spellNumber_20 (by decide) (fun c17 => ?_) (fun c17 => ?_)
        · have c17n : u ≤ 0 := (nl_le (a := u) (b := 0) (rfl) (rfl) (by omega) (by omega)).mp c17
          refine x_vret dX10_spellNumber_54 rfl ?_
          rw [hQ]
          refine ⟨?_, rfl⟩
          have u0 : u = 0 := by omega
          rw [u0] at hL
          have e0 : rst r 0 = [] := rfl
          rw [e0, List.append_nil] at hL
          rw [hU, hL]
        · have c17n : 0 < u := Nat.not_le.mp (fun q => c17 ((nl_le (a := u) (b := 0) (rfl) (rfl) (by omega) (by omega)).mpr q))
          have hun : unt u := by omega
          refine x_iload_n dX10_spellNumber_23 1 rfl ?_
          refine x_iload_n dX10_spellNumber_24 0 rfl ?_
          refine x_icmp_ge 33 dX10_spellNumber_25 (by decide) (fun c18 => ?_) (fun c18 => ?_)
          · have c18n : u ≤ r := (nl_le (a := u) (b := r) (rfl) (rfl) (by omega) (by omega)).mp c18
            have hrt := rst_t (r := r) hun (by omega)
            have hlen := spN_len v
            rw [← hL, List.length_append, hrt, List.length_cons] at hlen
            have hmL : U 49 28 = nI (n + L.length) := by rw [hU]; exact wrM_n L V n hm
            refine x_aload_n dX10_spellNumber_33 2 rfl ?_
            refine x_bipush (v := 48) dX10_spellNumber_34 (by decide) ?_
            refine x_iload_n dX10_spellNumber_36 1 rfl ?_
            refine x_iload_n dX10_spellNumber_37 0 rfl ?_
            have nz19 : ¬ (nI u : Int32) = 0 := by grind
            refine x_idiv dX10_spellNumber_38 nz19 ?_
            refine x_bipush (v := 10) dX10_spellNumber_39 (by decide) ?_
            have nz20 : ¬ (10 : Int32) = 0 := by decide
            refine x_irem dX10_spellNumber_41 nz20 ?_
            refine x_iadd dX10_spellNumber_42 ?_
            refine x_topi (y := dgt r u) (dgt_e hr4 (by omega) (by omega)) ?_
            refine x_callV (K := jX10_spellSign) [.int (dgt r u)] lk_X10_191 ⟨⟨rfl, rfl⟩, Nat.le_of_ble_eq_true rfl, Nat.le_of_ble_eq_true rfl⟩ rfl rfl (mX10_spellSign U (n + L.length) (by omega) hmL (dgt r u)) rfl (Nat.le_of_ble_eq_true rfl) rfl dX10_spellNumber_43 (kdV ?_)
            obtain ⟨U21, eU21⟩ : ∃ v_v : vM, v_v = apM U (n + L.length) (dgt r u) := ⟨_, rfl⟩
            refine YY.V eU21.symm ?_
            refine x_iload_n dX10_spellNumber_46 0 rfl ?_
            refine x_bipush (v := 10) dX10_spellNumber_47 (by decide) ?_
            have nz22 : ¬ (10 : Int32) = 0 := by decide
            refine x_idiv dX10_spellNumber_49 nz22 ?_
            refine x_topi (y := nI (u / 10)) (nI_div (b := 10) (by omega) (by omega) (by omega)) ?_
            refine x_istore_n 3 [(3, .int (nI (u / 10))), (2, .int (nI r)), (0, .ref (g.2.1 49)), (1, .int v)] dX10_spellNumber_50 rfl (by decide) rfl ?_
            refine x_goto 19 dX10_spellNumber_51 (by decide) ?_
            exact ih (u / 10) (L ++ [dgt r u]) U21 (by omega) (by rw [eU21, hU, wrM_app]; rfl) (by rw [← hL, hrt, List.append_assoc]; rfl) (by omega)
          · have c18n : r < u := Nat.not_le.mp (fun q => c18 ((nl_le (a := u) (b := r) (rfl) (rfl) (by omega) (by omega)).mpr q))
            refine x_iload_n dX10_spellNumber_28 0 rfl ?_
            refine x_iconst (v := 1) dX10_spellNumber_29 (by decide) ?_
            refine x_icmp_ne 46 dX10_spellNumber_30 (by decide) (fun c23 => ?_) (fun c23 => ?_)
            · have c23n : ¬ u = 1 := fun q => c23 ((nl_eq (a := u) (b := 1) (rfl) (rfl) (by omega) (by omega)).mpr q)
              refine x_iload_n dX10_spellNumber_46 0 rfl ?_
              refine x_bipush (v := 10) dX10_spellNumber_47 (by decide) ?_
              have nz24 : ¬ (10 : Int32) = 0 := by decide
              refine x_idiv dX10_spellNumber_49 nz24 ?_
              refine x_topi (y := nI (u / 10)) (nI_div (b := 10) (by omega) (by omega) (by omega)) ?_
              refine x_istore_n 3 [(3, .int (nI (u / 10))), (2, .int (nI r)), (0, .ref (g.2.1 49)), (1, .int v)] dX10_spellNumber_50 rfl (by decide) rfl ?_
              refine x_goto 19 dX10_spellNumber_51 (by decide) ?_
              exact ih (u / 10) L U (by omega) (by exact hU) (by rw [← hL, rst_f hun (by omega) (by omega)]) (by omega)
            · have c23n : u = 1 := (nl_eq (a := u) (b := 1) (rfl) (rfl) (by omega) (by omega)).mp c23
              have hrt := rst_t (r := r) hun (by omega)
              have hlen := spN_len v
              rw [← hL, List.length_append, hrt, List.length_cons] at hlen
              have hmL : U 49 28 = nI (n + L.length) := by rw [hU]; exact wrM_n L V n hm
              refine x_aload_n dX10_spellNumber_33 2 rfl ?_
              refine x_bipush (v := 48) dX10_spellNumber_34 (by decide) ?_
              refine x_iload_n dX10_spellNumber_36 1 rfl ?_
              refine x_iload_n dX10_spellNumber_37 0 rfl ?_
              have nz25 : ¬ (nI u : Int32) = 0 := by grind
              refine x_idiv dX10_spellNumber_38 nz25 ?_
              refine x_bipush (v := 10) dX10_spellNumber_39 (by decide) ?_
              have nz26 : ¬ (10 : Int32) = 0 := by decide
              refine x_irem dX10_spellNumber_41 nz26 ?_
              refine x_iadd dX10_spellNumber_42 ?_
              refine x_topi (y := dgt r u) (dgt_e hr4 (by omega) (by omega)) ?_
              refine x_callV (K := jX10_spellSign) [.int (dgt r u)] lk_X10_191 ⟨⟨rfl, rfl⟩, Nat.le_of_ble_eq_true rfl, Nat.le_of_ble_eq_true rfl⟩ rfl rfl (mX10_spellSign U (n + L.length) (by omega) hmL (dgt r u)) rfl (Nat.le_of_ble_eq_true rfl) rfl dX10_spellNumber_43 (kdV ?_)
              obtain ⟨U27, eU27⟩ : ∃ v_v : vM, v_v = apM U (n + L.length) (dgt r u) := ⟨_, rfl⟩
              refine YY.V eU27.symm ?_
              refine x_iload_n dX10_spellNumber_46 0 rfl ?_
              refine x_bipush (v := 10) dX10_spellNumber_47 (by decide) ?_
              have nz28 : ¬ (10 : Int32) = 0 := by decide
              refine x_idiv dX10_spellNumber_49 nz28 ?_
              refine x_topi (y := nI (u / 10)) (nI_div (b := 10) (by omega) (by omega) (by omega)) ?_
              refine x_istore_n 3 [(3, .int (nI (u / 10))), (2, .int (nI r)), (0, .ref (g.2.1 49)), (1, .int v)] dX10_spellNumber_50 rfl (by decide) rfl ?_
              refine x_goto 19 dX10_spellNumber_51 (by decide) ?_
              exact ih (u / 10) (L ++ [dgt r u]) U27 (by omega) (by rw [eU27, hU, wrM_app]; rfl) (by rw [← hL, hrt, List.append_assoc]; rfl) (by omega)
    refine YY.L (lv' := [(3, .int (nI 1000)), (2, .int (nI r)), (0, .ref (g.2.1 49)), (1, .int v)]) (by rfl) ?_
    exact lp16 _ 1000 ([45]) U15 (by omega) (by rw [eU15]; rfl) (by rw [esp, if_pos (by first | assumption | exact Int32.not_le.mp (by assumption))]) (Nat.lt_succ_self _)
