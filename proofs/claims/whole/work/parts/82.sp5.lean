def clM (m : Nat → Int32) (k : Nat) : List Int32 := if m (k * 7) = 0 then [77] ++ prL 1 (m (7 * k + 5)) (m (7 * k + 5 + 1)) else if m (k * 7) = 1 then [76] ++ prL 1 (m (7 * k + 5)) (m (7 * k + 5 + 1)) else if m (k * 7) = 2 then [81] ++ (prL 1 (m (7 * k + 1)) (m (7 * k + 1 + 1)) ++ prL 0 (m (7 * k + 5)) (m (7 * k + 5 + 1))) else if m (k * 7) = 3 then [67] ++ (prL 1 (m (7 * k + 1)) (m (7 * k + 1 + 1)) ++ (prL 0 (m (7 * k + 3)) (m (7 * k + 3 + 1)) ++ prL 0 (m (7 * k + 5)) (m (7 * k + 5 + 1)))) else [90]
theorem clM_v {m : Nat → Int32} {k : Nat} : (m (k * 7) = 0 → clM m k = [77] ++ prL 1 (m (7 * k + 5)) (m (7 * k + 5 + 1))) ∧ (m (k * 7) = 1 → clM m k = [76] ++ prL 1 (m (7 * k + 5)) (m (7 * k + 5 + 1))) ∧ (m (k * 7) = 2 → clM m k = [81] ++ (prL 1 (m (7 * k + 1)) (m (7 * k + 1 + 1)) ++ prL 0 (m (7 * k + 5)) (m (7 * k + 5 + 1)))) ∧ (m (k * 7) = 3 → clM m k = [67] ++ (prL 1 (m (7 * k + 1)) (m (7 * k + 1 + 1)) ++ (prL 0 (m (7 * k + 3)) (m (7 * k + 3 + 1)) ++ prL 0 (m (7 * k + 5)) (m (7 * k + 5 + 1))))) ∧ (m (k * 7) = 4 → clM m k = [90]) := by
  unfold clM
  exact ⟨fun e => by rw [if_pos e], fun e => by rw [if_neg (by rw [e]; decide), if_pos e], fun e => by rw [if_neg (by rw [e]; decide), if_neg (by rw [e]; decide), if_pos e], fun e => by rw [if_neg (by rw [e]; decide), if_neg (by rw [e]; decide), if_neg (by rw [e]; decide), if_pos e], fun e => by rw [if_neg (by rw [e]; decide), if_neg (by rw [e]; decide), if_neg (by rw [e]; decide), if_neg (by rw [e]; decide)]⟩
theorem clM_len {m : Nat → Int32} {k : Nat} : (clM m k).length ≤ 37 := by
  have h := @prL_len
  unfold clM
  split
  · simp only [List.length_append, List.length_cons, List.length_nil]; have := h 1 (m (7 * k + 5)) (m (7 * k + 5 + 1)); omega
  · split
    · simp only [List.length_append, List.length_cons, List.length_nil]; have := h 1 (m (7 * k + 5)) (m (7 * k + 5 + 1)); omega
    · split
      · simp only [List.length_append, List.length_cons, List.length_nil]; have := h 1 (m (7 * k + 1)) (m (7 * k + 1 + 1)); have := h 0 (m (7 * k + 5)) (m (7 * k + 5 + 1)); omega
      · split
        · simp only [List.length_append, List.length_cons, List.length_nil]; have := h 1 (m (7 * k + 1)) (m (7 * k + 1 + 1)); have := h 0 (m (7 * k + 3)) (m (7 * k + 3 + 1)); have := h 0 (m (7 * k + 5)) (m (7 * k + 5 + 1)); omega
        · simp
/-- the signs of the first k commands -/
def wl (m : Nat → Int32) : Nat → List Int32
  | 0 => []
  | k + 1 => wl m k ++ clM m k
theorem wl_len (m : Nat → Int32) : ∀ k, (wl m k).length ≤ 37 * k
  | 0 => Nat.le_refl _
  | k + 1 => by
    have := wl_len m k
    have := clM_len (m := m) (k := k)
    unfold wl
    rw [List.length_append]
    omega
set_option maxHeartbeats 4000000 in
set_option maxRecDepth 100000 in
theorem mX10_spell {g : gX} {V : vM} {m : Nat → Int32} {N : Nat} {t : Int32} {S : FS} {fb : Nat → Nat} (hMQ : MZ V m N t S fb) (i : Int32) : MM g jX10_spell V [.ref (g.2.1 49), .int i] (dI (wrM (uM V 49 28 0) 0 (wl m N)) (if i = -1 then nI (wl m N).length else if 0 ≤ i ∧ i < nI (wl m N).length then wrM (uM V 49 28 0) 0 (wl m N) 61 i.toNatClampNeg else -1000006)) := by
  refine MM.of plX10_spell (Nat.le_of_ble_eq_true rfl) ?_
  obtain ⟨Q, hQ⟩ : ∃ Q : Option Value → vM → Prop, Q = (dI (wrM (uM V 49 28 0) 0 (wl m N)) (if i = -1 then nI (wl m N).length else if 0 ≤ i ∧ i < nI (wl m N).length then wrM (uM V 49 28 0) 0 (wl m N) 61 i.toNatClampNeg else -1000006)) := ⟨_, rfl⟩
  rw [← hQ]
  show XX g jX10_spell Q V 0 [(0, .ref (g.2.1 49)), (1, .int i)] []
  obtain ⟨hw, hm50, hN8, ht9, hS, hG, h24, h15, hcn, hL⟩ := id hMQ
  have hN24 := hw.1
  have hcl := cntM_le (kd7 m) N
  refine x_aload_n dX10_spell_0 0 rfl ?_
  refine x_iconst (v := 0) dX10_spell_1 (by decide) ?_
  refine x_putI fp_X10_188 rfl rfl dX10_spell_2 ?_
  obtain ⟨U1, eU1⟩ : ∃ v_v : vM, v_v = uM V 49 28 0 := ⟨_, rfl⟩
  refine YY.V eU1.symm ?_
  refine x_iconst (v := 0) dX10_spell_5 (by decide) ?_
  refine x_istore_n 2 [(2, .int 0), (0, .ref (g.2.1 49)), (1, .int i)] dX10_spell_6 rfl (by decide) rfl ?_
  have lp2 : ∀ (fu : Nat) (k : Nat) (U : vM), (k ≤ N) → (U = wrM (uM V 49 28 0) 0 (wl m k)) → (N - k) < fu → XX g jX10_spell Q U 7 [(2, .int (nI k)), (0, .ref (g.2.1 49)), (1, .int i)] [] := by
    intro fu
    induction fu with
    | zero => intro _ _ _ _ hmz; exact absurd hmz (Nat.not_lt_zero _)
    | succ fu ih =>
      intro k U hkN hU hmz
      have hwl := wl_len m k
      have hmU : U 49 28 = nI ((wl m k).length) := by rw [hU, wrM_n (wl m k) (uM V 49 28 0) 0 uM_hit, Nat.zero_add]
      have hkU : ∀ z, U 50 z = m z := fun z => by rw [hU, wrM_at (by decide) (by omega), uM_na (by decide), hm50]
      refine x_iload_n dX10_spell_7 0 rfl ?_
      refine x_aload_n dX10_spell_8 1 rfl ?_
      refine x_callV (K := jX10_many) [] lk_X10_89 ⟨⟨rfl, rfl⟩, Nat.le_of_ble_eq_true rfl, Nat.le_of_ble_eq_true rfl⟩ rfl rfl (by have := mX10_many (g := g) U; rw [hkU, hN8] at this; exact this) rfl (Nat.le_of_ble_eq_true rfl) rfl dX10_spell_9 (kpI ?_)
      refine x_icmp_ge 138 dX10_spell_12 (by decide) (fun c3 => ?_) (fun c3 => ?_)
      · have c3n : N ≤ k := (nl_le (a := N) (b := k) (rfl) (rfl) (by omega) (by omega)).mp c3
        refine x_iload_n dX10_spell_138 2 rfl ?_
        refine x_iconst (v := -1) dX10_spell_139 (by decide) ?_
        refine x_icmp_ne 150 dX10_spell_140 (by decide) (fun c4 => ?_) (fun c4 => ?_)
        · refine x_iload_n dX10_spell_150 2 rfl ?_
          refine x_iconst (v := 0) dX10_spell_151 (by decide) ?_
          refine x_aload_n dX10_spell_152 1 rfl ?_
          refine x_getI fl_X10_188 rfl rfl dX10_spell_153 ?_
          refine x_topi (hmU) ?_
          refine x_iconst (v := 1) dX10_spell_156 (by decide) ?_
          refine x_isub dX10_spell_157 ?_
          refine x_callS (K := jX10_in) [.int i, .int 0, .int ((nI ((wl m k).length)) - 1)] lk_X10_80 ⟨⟨rfl, rfl⟩, Nat.le_of_ble_eq_true rfl, Nat.le_of_ble_eq_true rfl⟩ (mX10_in U i 0 ((nI ((wl m k).length)) - 1)) rfl (Nat.le_of_ble_eq_true rfl) rfl dX10_spell_158 (kpI ?_)
          refine x_if_eq 173 dX10_spell_161 (by decide) (fun c5 => ?_) (fun c5 => ?_)
          · have c5n : ¬ (0 ≤ i ∧ i ≤ ((nI ((wl m k).length)) - 1)) := iB_0.mp c5
            refine x_ldc ct_X10_103 dX10_spell_173 ?_
            refine x_iret dX10_spell_175 rfl ?_
            rw [hQ]
            have ek : k = N := by omega
            subst ek
            refine ⟨hU, ?_⟩
            congr 2
            first
              | rw [if_pos (by assumption)]
              | (rw [if_neg (by assumption), hw0, if_pos (nI_bt (by omega) hwS), nI_clamp (by omega), ← hU])
              | rw [if_neg (by assumption), if_neg (fun q => absurd ((bt_pred (by omega)).mpr q) (by assumption))]
          · have c5n : (0 ≤ i ∧ i ≤ ((nI ((wl m k).length)) - 1)) := Classical.not_not.mp (fun q => c5 (iB_0.mpr q))
            obtain ⟨w, hw0, hwS⟩ := nI_ex (c := i) (n := (wl m k).length) (by omega) ((bt_pred (by omega)).mp (by assumption))
            refine YY.L (lv' := [(2, .int (nI k)), (0, .ref (g.2.1 49)), (1, .int (nI w))]) (by rw [hw0]) ?_
            refine x_aload_n dX10_spell_164 1 rfl ?_
            refine x_getR fl_X10_44 rfl rfl dX10_spell_165 ?_
            refine x_iload_n dX10_spell_168 2 rfl ?_
            have b6 : vp_in (nI w) 1200 := by exact vp_in_nI (by omega) (by decide)
            refine x_iald rfl b6 dX10_spell_169 ?_
            refine x_topi (y := U 61 w) (by rw [nI_clamp (by omega)]) ?_
            refine x_goto 175 dX10_spell_170 (by decide) ?_
            refine x_iret dX10_spell_175 rfl ?_
            rw [hQ]
            have ek : k = N := by omega
            subst ek
            refine ⟨hU, ?_⟩
            congr 2
            first
              | rw [if_pos (by assumption)]
              | (rw [if_neg (by assumption), hw0, if_pos (nI_bt (by omega) hwS), nI_clamp (by omega), ← hU])
              | rw [if_neg (by assumption), if_neg (fun q => absurd ((bt_pred (by omega)).mpr q) (by assumption))]
        · refine x_aload_n dX10_spell_143 1 rfl ?_
          refine x_getI fl_X10_188 rfl rfl dX10_spell_144 ?_
          refine x_topi (hmU) ?_
          refine x_goto 175 dX10_spell_147 (by decide) ?_
          refine x_iret dX10_spell_175 rfl ?_
          rw [hQ]
          have ek : k = N := by omega
          subst ek
          refine ⟨hU, ?_⟩
          congr 2
          first
            | rw [if_pos (by assumption)]
            | (rw [if_neg (by assumption), hw0, if_pos (nI_bt (by omega) hwS), nI_clamp (by omega), ← hU])
            | rw [if_neg (by assumption), if_neg (fun q => absurd ((bt_pred (by omega)).mpr q) (by assumption))]
      · have c3n : k < N := Nat.not_le.mp (fun q => c3 ((nl_le (a := N) (b := k) (rfl) (rfl) (by omega) (by omega)).mpr q))
        refine x_aload_n dX10_spell_15 1 rfl ?_
        refine x_iload_n dX10_spell_16 0 rfl ?_
        refine x_callV (K := jX10_kind) [.int (nI k)] lk_X10_93 ⟨⟨rfl, rfl⟩, Nat.le_of_ble_eq_true rfl, Nat.le_of_ble_eq_true rfl⟩ rfl rfl (by have := mX10_kind (g := g) U k (by omega); rw [hkU] at this; exact this) rfl (Nat.le_of_ble_eq_true rfl) rfl dX10_spell_17 (kpI ?_)
        refine x_istore_n 3 [(3, .int (m (k * 7))), (2, .int (nI k)), (0, .ref (g.2.1 49)), (1, .int i)] dX10_spell_20 rfl (by decide) rfl ?_
        rcases k5 (hw.2 k (by omega)).1 with e5 | e5 | e5 | e5 | e5
        · -- kind 0
          refine YY.L (lv' := [(3, .int 0), (2, .int (nI k)), (0, .ref (g.2.1 49)), (1, .int i)]) (by rw [e5]) ?_
          refine x_aload_n dX10_spell_21 2 rfl ?_
          refine x_iload_n dX10_spell_22 0 rfl ?_
          refine x_if_ne 31 dX10_spell_23 (by decide) (fun c7 => by exfalso; revert c7; decide) (fun c7 => ?_)
          refine x_bipush (v := 77) dX10_spell_26 (by decide) ?_
          refine x_goto 63 dX10_spell_28 (by decide) ?_
          refine x_callV (K := jX10_spellSign) [.int 77] lk_X10_191 ⟨⟨rfl, rfl⟩, Nat.le_of_ble_eq_true rfl, Nat.le_of_ble_eq_true rfl⟩ rfl rfl (mX10_spellSign U ((wl m k).length) (by omega) hmU 77) rfl (Nat.le_of_ble_eq_true rfl) rfl dX10_spell_63 (kdV ?_)
          obtain ⟨U8, eU8⟩ : ∃ v_v : vM, v_v = apM U ((wl m k).length) 77 := ⟨_, rfl⟩
          refine YY.V eU8.symm ?_
          have hcU8 : U8 49 28 = nI ((wl m k).length + 1) := by rw [eU8]; exact apM_n _ _ _
          have hkU8 : ∀ z, U8 50 z = m z := fun z => by rw [eU8, apM, uM_na (by decide), uM_na (by decide), hkU]
          have h1U8 : U8 = wrM U ((wl m k).length) [77] := eU8
          refine x_bipush (v := 7) dX10_spell_66 (by decide) ?_
          refine x_iload_n dX10_spell_68 1 rfl ?_
          refine x_imul dX10_spell_69 ?_
          refine x_istore 4 [(4, .int (7 * (nI k))), (3, .int 0), (2, .int (nI k)), (0, .ref (g.2.1 49)), (1, .int i)] dX10_spell_70 (by decide) rfl ?_
          refine x_iload_n dX10_spell_72 1 rfl ?_
          refine x_iconst (v := 2) dX10_spell_73 (by decide) ?_
          refine x_icmp_eq 82 dX10_spell_74 (by decide) (fun c9 => by exfalso; revert c9; decide) (fun c9 => ?_)
          refine x_iload_n dX10_spell_77 1 rfl ?_
          refine x_iconst (v := 3) dX10_spell_78 (by decide) ?_
          refine x_icmp_ne 91 dX10_spell_79 (by decide) (fun c10 => ?_) (fun c10 => by exfalso; revert c10; decide)
          refine x_iload_n dX10_spell_91 1 rfl ?_
          refine x_iconst (v := 3) dX10_spell_92 (by decide) ?_
          refine x_icmp_ne 105 dX10_spell_93 (by decide) (fun c11 => ?_) (fun c11 => by exfalso; revert c11; decide)
          refine x_iload_n dX10_spell_105 1 rfl ?_
          refine x_iconst (v := 4) dX10_spell_106 (by decide) ?_
          refine x_icmp_eq 132 dX10_spell_107 (by decide) (fun c12 => by exfalso; revert c12; decide) (fun c12 => ?_)
          refine x_aload_n dX10_spell_110 3 rfl ?_
          refine x_iload dX10_spell_111 0 rfl ?_
          refine x_iconst (v := 5) dX10_spell_113 (by decide) ?_
          refine x_iadd dX10_spell_114 ?_
          refine x_iload_n dX10_spell_115 1 rfl ?_
          refine x_if_eq 124 dX10_spell_116 (by decide) (fun c13 => ?_) (fun c13 => by exfalso; revert c13; decide)
          refine x_iconst (v := 1) dX10_spell_124 (by decide) ?_
          refine x_goto 129 dX10_spell_125 (by decide) ?_
          have q14 : ((7 * (nI k)) + 5 : Int32) = nI ((7 * k) + 5) := nadd (nmul (rfl) (rfl)) (rfl)
          refine YY.S (st' := [.int 1, .int (nI ((7 * k) + 5)), .ref (g.2.1 49)]) (by rw [q14]) ?_
          have hr1 : inR (m (7 * k + 5)) ∧ inR (m (7 * k + 5 + 1)) := by have := (hw.2 k (by omega)).2.2.1; exact ⟨by rw [show 7 * k + 5 = k * 7 + 5 by omega]; exact this 5 (by omega) (by omega), by rw [show 7 * k + 5 + 1 = k * 7 + 6 by omega]; exact this 6 (by omega) (by omega)⟩
          refine x_callV (K := jX10_spellPair) [.int (nI ((7 * k) + 5)), .int 1] lk_X10_201 ⟨⟨rfl, rfl⟩, Nat.le_of_ble_eq_true rfl, Nat.le_of_ble_eq_true rfl⟩ rfl rfl (by have := mX10_spellPair (g := g) U8 (7 * k + 5) (by omega) 1 ((wl m k).length + 1) (by omega) hcU8 (by rw [hkU8]; exact hr1.1) (by rw [hkU8]; exact hr1.2); rw [hkU8, hkU8] at this; exact this) rfl (Nat.le_of_ble_eq_true rfl) rfl dX10_spell_129 (kdV ?_)
          obtain ⟨U15, eU15⟩ : ∃ v_v : vM, v_v = wrM U8 ((wl m k).length + 1) (prL 1 (m (7 * k + 5)) (m (7 * k + 5 + 1))) := ⟨_, rfl⟩
          refine YY.V eU15.symm ?_
          have hcU15 : U15 49 28 = nI ((wl m k).length + 1 + (prL 1 (m (7 * k + 5)) (m (7 * k + 5 + 1))).length) := by rw [eU15]; exact wrM_n _ _ _ hcU8
          have hkU15 : ∀ z, U15 50 z = m z := fun z => by rw [eU15, wrM_at (by decide) (by omega), hkU8]
          have hlU15 := prL_len 1 (m (7 * k + 5)) (m (7 * k + 5 + 1))
          refine x_iinc 2 (v := (nI k) + 1) 2 [(2, .int ((nI k) + 1)), (4, .int (7 * (nI k))), (3, .int 0), (0, .ref (g.2.1 49)), (1, .int i)] dX10_spell_132 rfl (by rfl) (by decide) rfl ?_
          refine x_goto 7 dX10_spell_135 (by decide) ?_
          refine x_lv [0, 3, 4] rfl ?_
          refine YY.L (lv' := [(2, .int (nI (k + 1))), (0, .ref (g.2.1 49)), (1, .int i)]) (by rw [nI_1]; rfl) ?_
          exact ih (k + 1) U15 (by omega) (by rw [eU15, h1U8, hU, wl, clM_v.1 e5, wrM_app, wrM_app]; simp only [List.length_append, List.length_cons, List.length_nil, Nat.zero_add, Nat.add_assoc]) (by omega)
        · -- kind 1
          refine YY.L (lv' := [(3, .int 1), (2, .int (nI k)), (0, .ref (g.2.1 49)), (1, .int i)]) (by rw [e5]) ?_
          refine x_aload_n dX10_spell_21 2 rfl ?_
          refine x_iload_n dX10_spell_22 0 rfl ?_
          refine x_if_ne 31 dX10_spell_23 (by decide) (fun c16 => ?_) (fun c16 => by exfalso; revert c16; decide)
          refine x_iload_n dX10_spell_31 0 rfl ?_
          refine x_iconst (v := 1) dX10_spell_32 (by decide) ?_
          refine x_icmp_ne 41 dX10_spell_33 (by decide) (fun c17 => by exfalso; revert c17; decide) (fun c17 => ?_)
          refine x_bipush (v := 76) dX10_spell_36 (by decide) ?_
          refine x_goto 63 dX10_spell_38 (by decide) ?_
          refine x_callV (K := jX10_spellSign) [.int 76] lk_X10_191 ⟨⟨rfl, rfl⟩, Nat.le_of_ble_eq_true rfl, Nat.le_of_ble_eq_true rfl⟩ rfl rfl (mX10_spellSign U ((wl m k).length) (by omega) hmU 76) rfl (Nat.le_of_ble_eq_true rfl) rfl dX10_spell_63 (kdV ?_)
          obtain ⟨U18, eU18⟩ : ∃ v_v : vM, v_v = apM U ((wl m k).length) 76 := ⟨_, rfl⟩
          refine YY.V eU18.symm ?_
          have hcU18 : U18 49 28 = nI ((wl m k).length + 1) := by rw [eU18]; exact apM_n _ _ _
          have hkU18 : ∀ z, U18 50 z = m z := fun z => by rw [eU18, apM, uM_na (by decide), uM_na (by decide), hkU]
          have h1U18 : U18 = wrM U ((wl m k).length) [76] := eU18
          refine x_bipush (v := 7) dX10_spell_66 (by decide) ?_
          refine x_iload_n dX10_spell_68 1 rfl ?_
          refine x_imul dX10_spell_69 ?_
          refine x_istore 4 [(4, .int (7 * (nI k))), (3, .int 1), (2, .int (nI k)), (0, .ref (g.2.1 49)), (1, .int i)] dX10_spell_70 (by decide) rfl ?_
          refine x_iload_n dX10_spell_72 1 rfl ?_
          refine x_iconst (v := 2) dX10_spell_73 (by decide) ?_
          refine x_icmp_eq 82 dX10_spell_74 (by decide) (fun c19 => by exfalso; revert c19; decide) (fun c19 => ?_)
          refine x_iload_n dX10_spell_77 1 rfl ?_
          refine x_iconst (v := 3) dX10_spell_78 (by decide) ?_
          refine x_icmp_ne 91 dX10_spell_79 (by decide) (fun c20 => ?_) (fun c20 => by exfalso; revert c20; decide)
          refine x_iload_n dX10_spell_91 1 rfl ?_
          refine x_iconst (v := 3) dX10_spell_92 (by decide) ?_
          refine x_icmp_ne 105 dX10_spell_93 (by decide) (fun c21 => ?_) (fun c21 => by exfalso; revert c21; decide)
          refine x_iload_n dX10_spell_105 1 rfl ?_
          refine x_iconst (v := 4) dX10_spell_106 (by decide) ?_
          refine x_icmp_eq 132 dX10_spell_107 (by decide) (fun c22 => by exfalso; revert c22; decide) (fun c22 => ?_)
          refine x_aload_n dX10_spell_110 3 rfl ?_
          refine x_iload dX10_spell_111 0 rfl ?_
          refine x_iconst (v := 5) dX10_spell_113 (by decide) ?_
          refine x_iadd dX10_spell_114 ?_
          refine x_iload_n dX10_spell_115 1 rfl ?_
          refine x_if_eq 124 dX10_spell_116 (by decide) (fun c23 => by exfalso; revert c23; decide) (fun c23 => ?_)
          refine x_iload_n dX10_spell_119 1 rfl ?_
          refine x_iconst (v := 1) dX10_spell_120 (by decide) ?_
          refine x_icmp_ne 128 dX10_spell_121 (by decide) (fun c24 => by exfalso; revert c24; decide) (fun c24 => ?_)
          refine x_iconst (v := 1) dX10_spell_124 (by decide) ?_
          refine x_goto 129 dX10_spell_125 (by decide) ?_
          have q25 : ((7 * (nI k)) + 5 : Int32) = nI ((7 * k) + 5) := nadd (nmul (rfl) (rfl)) (rfl)
          refine YY.S (st' := [.int 1, .int (nI ((7 * k) + 5)), .ref (g.2.1 49)]) (by rw [q25]) ?_
          have hr1 : inR (m (7 * k + 5)) ∧ inR (m (7 * k + 5 + 1)) := by have := (hw.2 k (by omega)).2.2.1; exact ⟨by rw [show 7 * k + 5 = k * 7 + 5 by omega]; exact this 5 (by omega) (by omega), by rw [show 7 * k + 5 + 1 = k * 7 + 6 by omega]; exact this 6 (by omega) (by omega)⟩
          refine x_callV (K := jX10_spellPair) [.int (nI ((7 * k) + 5)), .int 1] lk_X10_201 ⟨⟨rfl, rfl⟩, Nat.le_of_ble_eq_true rfl, Nat.le_of_ble_eq_true rfl⟩ rfl rfl (by have := mX10_spellPair (g := g) U18 (7 * k + 5) (by omega) 1 ((wl m k).length + 1) (by omega) hcU18 (by rw [hkU18]; exact hr1.1) (by rw [hkU18]; exact hr1.2); rw [hkU18, hkU18] at this; exact this) rfl (Nat.le_of_ble_eq_true rfl) rfl dX10_spell_129 (kdV ?_)
          obtain ⟨U26, eU26⟩ : ∃ v_v : vM, v_v = wrM U18 ((wl m k).length + 1) (prL 1 (m (7 * k + 5)) (m (7 * k + 5 + 1))) := ⟨_, rfl⟩
          refine YY.V eU26.symm ?_
          have hcU26 : U26 49 28 = nI ((wl m k).length + 1 + (prL 1 (m (7 * k + 5)) (m (7 * k + 5 + 1))).length) := by rw [eU26]; exact wrM_n _ _ _ hcU18
          have hkU26 : ∀ z, U26 50 z = m z := fun z => by rw [eU26, wrM_at (by decide) (by omega), hkU18]
          have hlU26 := prL_len 1 (m (7 * k + 5)) (m (7 * k + 5 + 1))
          refine x_iinc 2 (v := (nI k) + 1) 2 [(2, .int ((nI k) + 1)), (4, .int (7 * (nI k))), (3, .int 1), (0, .ref (g.2.1 49)), (1, .int i)] dX10_spell_132 rfl (by rfl) (by decide) rfl ?_
          refine x_goto 7 dX10_spell_135 (by decide) ?_
          refine x_lv [0, 3, 4] rfl ?_
          refine YY.L (lv' := [(2, .int (nI (k + 1))), (0, .ref (g.2.1 49)), (1, .int i)]) (by rw [nI_1]; rfl) ?_
          exact ih (k + 1) U26 (by omega) (by rw [eU26, h1U18, hU, wl, clM_v.2.1 e5, wrM_app, wrM_app]; simp only [List.length_append, List.length_cons, List.length_nil, Nat.zero_add, Nat.add_assoc]) (by omega)
        · -- kind 2
          refine YY.L (lv' := [(3, .int 2), (2, .int (nI k)), (0, .ref (g.2.1 49)), (1, .int i)]) (by rw [e5]) ?_
          refine x_aload_n dX10_spell_21 2 rfl ?_
          refine x_iload_n dX10_spell_22 0 rfl ?_
          refine x_if_ne 31 dX10_spell_23 (by decide) (fun c27 => ?_) (fun c27 => by exfalso; revert c27; decide)
          refine x_iload_n dX10_spell_31 0 rfl ?_
          refine x_iconst (v := 1) dX10_spell_32 (by decide) ?_
          refine x_icmp_ne 41 dX10_spell_33 (by decide) (fun c28 => ?_) (fun c28 => by exfalso; revert c28; decide)
          refine x_iload_n dX10_spell_41 0 rfl ?_
          refine x_iconst (v := 2) dX10_spell_42 (by decide) ?_
          refine x_icmp_ne 51 dX10_spell_43 (by decide) (fun c29 => by exfalso; revert c29; decide) (fun c29 => ?_)
          refine x_bipush (v := 81) dX10_spell_46 (by decide) ?_
          refine x_goto 63 dX10_spell_48 (by decide) ?_
          refine x_callV (K := jX10_spellSign) [.int 81] lk_X10_191 ⟨⟨rfl, rfl⟩, Nat.le_of_ble_eq_true rfl, Nat.le_of_ble_eq_true rfl⟩ rfl rfl (mX10_spellSign U ((wl m k).length) (by omega) hmU 81) rfl (Nat.le_of_ble_eq_true rfl) rfl dX10_spell_63 (kdV ?_)
          obtain ⟨U30, eU30⟩ : ∃ v_v : vM, v_v = apM U ((wl m k).length) 81 := ⟨_, rfl⟩
          refine YY.V eU30.symm ?_
          have hcU30 : U30 49 28 = nI ((wl m k).length + 1) := by rw [eU30]; exact apM_n _ _ _
          have hkU30 : ∀ z, U30 50 z = m z := fun z => by rw [eU30, apM, uM_na (by decide), uM_na (by decide), hkU]
          have h1U30 : U30 = wrM U ((wl m k).length) [81] := eU30
          refine x_bipush (v := 7) dX10_spell_66 (by decide) ?_
          refine x_iload_n dX10_spell_68 1 rfl ?_
          refine x_imul dX10_spell_69 ?_
          refine x_istore 4 [(4, .int (7 * (nI k))), (3, .int 2), (2, .int (nI k)), (0, .ref (g.2.1 49)), (1, .int i)] dX10_spell_70 (by decide) rfl ?_
          refine x_iload_n dX10_spell_72 1 rfl ?_
          refine x_iconst (v := 2) dX10_spell_73 (by decide) ?_
          refine x_icmp_eq 82 dX10_spell_74 (by decide) (fun c31 => ?_) (fun c31 => by exfalso; revert c31; decide)
          refine x_aload_n dX10_spell_82 3 rfl ?_
          refine x_iload dX10_spell_83 0 rfl ?_
          refine x_iconst (v := 1) dX10_spell_85 (by decide) ?_
          refine x_iadd dX10_spell_86 ?_
          refine x_iconst (v := 1) dX10_spell_87 (by decide) ?_
          have q32 : ((7 * (nI k)) + 1 : Int32) = nI ((7 * k) + 1) := nadd (nmul (rfl) (rfl)) (rfl)
          refine YY.S (st' := [.int 1, .int (nI ((7 * k) + 1)), .ref (g.2.1 49)]) (by rw [q32]) ?_
          have hr1 : inR (m (7 * k + 1)) ∧ inR (m (7 * k + 1 + 1)) := by have := (hw.2 k (by omega)).2.2.1; exact ⟨by rw [show 7 * k + 1 = k * 7 + 1 by omega]; exact this 1 (by omega) (by omega), by rw [show 7 * k + 1 + 1 = k * 7 + 2 by omega]; exact this 2 (by omega) (by omega)⟩
          refine x_callV (K := jX10_spellPair) [.int (nI ((7 * k) + 1)), .int 1] lk_X10_201 ⟨⟨rfl, rfl⟩, Nat.le_of_ble_eq_true rfl, Nat.le_of_ble_eq_true rfl⟩ rfl rfl (by have := mX10_spellPair (g := g) U30 (7 * k + 1) (by omega) 1 ((wl m k).length + 1) (by omega) hcU30 (by rw [hkU30]; exact hr1.1) (by rw [hkU30]; exact hr1.2); rw [hkU30, hkU30] at this; exact this) rfl (Nat.le_of_ble_eq_true rfl) rfl dX10_spell_88 (kdV ?_)
          obtain ⟨U33, eU33⟩ : ∃ v_v : vM, v_v = wrM U30 ((wl m k).length + 1) (prL 1 (m (7 * k + 1)) (m (7 * k + 1 + 1))) := ⟨_, rfl⟩
          refine YY.V eU33.symm ?_
          have hcU33 : U33 49 28 = nI ((wl m k).length + 1 + (prL 1 (m (7 * k + 1)) (m (7 * k + 1 + 1))).length) := by rw [eU33]; exact wrM_n _ _ _ hcU30
          have hkU33 : ∀ z, U33 50 z = m z := fun z => by rw [eU33, wrM_at (by decide) (by omega), hkU30]
          have hlU33 := prL_len 1 (m (7 * k + 1)) (m (7 * k + 1 + 1))
          refine x_iload_n dX10_spell_91 1 rfl ?_
          refine x_iconst (v := 3) dX10_spell_92 (by decide) ?_
          refine x_icmp_ne 105 dX10_spell_93 (by decide) (fun c34 => ?_) (fun c34 => by exfalso; revert c34; decide)
          refine x_iload_n dX10_spell_105 1 rfl ?_
          refine x_iconst (v := 4) dX10_spell_106 (by decide) ?_
          refine x_icmp_eq 132 dX10_spell_107 (by decide) (fun c35 => by exfalso; revert c35; decide) (fun c35 => ?_)
          refine x_aload_n dX10_spell_110 3 rfl ?_
          refine x_iload dX10_spell_111 0 rfl ?_
          refine x_iconst (v := 5) dX10_spell_113 (by decide) ?_
          refine x_iadd dX10_spell_114 ?_
          refine x_iload_n dX10_spell_115 1 rfl ?_
          refine x_if_eq 124 dX10_spell_116 (by decide) (fun c36 => by exfalso; revert c36; decide) (fun c36 => ?_)
          refine x_iload_n dX10_spell_119 1 rfl ?_
          refine x_iconst (v := 1) dX10_spell_120 (by decide) ?_
          refine x_icmp_ne 128 dX10_spell_121 (by decide) (fun c37 => ?_) (fun c37 => by exfalso; revert c37; decide)
          refine x_iconst (v := 0) dX10_spell_128 (by decide) ?_
          have q38 : ((7 * (nI k)) + 5 : Int32) = nI ((7 * k) + 5) := nadd (nmul (rfl) (rfl)) (rfl)
          refine YY.S (st' := [.int 0, .int (nI ((7 * k) + 5)), .ref (g.2.1 49)]) (by rw [q38]) ?_
          have hr1 : inR (m (7 * k + 5)) ∧ inR (m (7 * k + 5 + 1)) := by have := (hw.2 k (by omega)).2.2.1; exact ⟨by rw [show 7 * k + 5 = k * 7 + 5 by omega]; exact this 5 (by omega) (by omega), by rw [show 7 * k + 5 + 1 = k * 7 + 6 by omega]; exact this 6 (by omega) (by omega)⟩
          refine x_callV (K := jX10_spellPair) [.int (nI ((7 * k) + 5)), .int 0] lk_X10_201 ⟨⟨rfl, rfl⟩, Nat.le_of_ble_eq_true rfl, Nat.le_of_ble_eq_true rfl⟩ rfl rfl (by have := mX10_spellPair (g := g) U33 (7 * k + 5) (by omega) 0 ((wl m k).length + 1 + (prL 1 (m (7 * k + 1)) (m (7 * k + 1 + 1))).length) (by omega) hcU33 (by rw [hkU33]; exact hr1.1) (by rw [hkU33]; exact hr1.2); rw [hkU33, hkU33] at this; exact this) rfl (Nat.le_of_ble_eq_true rfl) rfl dX10_spell_129 (kdV ?_)
          obtain ⟨U39, eU39⟩ : ∃ v_v : vM, v_v = wrM U33 ((wl m k).length + 1 + (prL 1 (m (7 * k + 1)) (m (7 * k + 1 + 1))).length) (prL 0 (m (7 * k + 5)) (m (7 * k + 5 + 1))) := ⟨_, rfl⟩
          refine YY.V eU39.symm ?_
          have hcU39 : U39 49 28 = nI ((wl m k).length + 1 + (prL 1 (m (7 * k + 1)) (m (7 * k + 1 + 1))).length + (prL 0 (m (7 * k + 5)) (m (7 * k + 5 + 1))).length) := by rw [eU39]; exact wrM_n _ _ _ hcU33
          have hkU39 : ∀ z, U39 50 z = m z := fun z => by rw [eU39, wrM_at (by decide) (by omega), hkU33]
          have hlU39 := prL_len 0 (m (7 * k + 5)) (m (7 * k + 5 + 1))
          refine x_iinc 2 (v := (nI k) + 1) 2 [(2, .int ((nI k) + 1)), (4, .int (7 * (nI k))), (3, .int 2), (0, .ref (g.2.1 49)), (1, .int i)] dX10_spell_132 rfl (by rfl) (by decide) rfl ?_
          refine x_goto 7 dX10_spell_135 (by decide) ?_
          refine x_lv [0, 3, 4] rfl ?_
          refine YY.L (lv' := [(2, .int (nI (k + 1))), (0, .ref (g.2.1 49)), (1, .int i)]) (by rw [nI_1]; rfl) ?_
          exact ih (k + 1) U39 (by omega) (by rw [eU39, eU33, h1U30, hU, wl, clM_v.2.2.1 e5, wrM_app, wrM_app, wrM_app]; simp only [List.length_append, List.length_cons, List.length_nil, Nat.zero_add, Nat.add_assoc]) (by omega)
        · -- kind 3
          refine YY.L (lv' := [(3, .int 3), (2, .int (nI k)), (0, .ref (g.2.1 49)), (1, .int i)]) (by rw [e5]) ?_
          refine x_aload_n dX10_spell_21 2 rfl ?_
          refine x_iload_n dX10_spell_22 0 rfl ?_
          refine x_if_ne 31 dX10_spell_23 (by decide) (fun c40 => ?_) (fun c40 => by exfalso; revert c40; decide)
          refine x_iload_n dX10_spell_31 0 rfl ?_
          refine x_iconst (v := 1) dX10_spell_32 (by decide) ?_
          refine x_icmp_ne 41 dX10_spell_33 (by decide) (fun c41 => ?_) (fun c41 => by exfalso; revert c41; decide)
          refine x_iload_n dX10_spell_41 0 rfl ?_
          refine x_iconst (v := 2) dX10_spell_42 (by decide) ?_
          refine x_icmp_ne 51 dX10_spell_43 (by decide) (fun c42 => ?_) (fun c42 => by exfalso; revert c42; decide)
          refine x_iload_n dX10_spell_51 0 rfl ?_
          refine x_iconst (v := 3) dX10_spell_52 (by decide) ?_
          refine x_icmp_ne 61 dX10_spell_53 (by decide) (fun c43 => by exfalso; revert c43; decide) (fun c43 => ?_)
          refine x_bipush (v := 67) dX10_spell_56 (by decide) ?_
          refine x_goto 63 dX10_spell_58 (by decide) ?_
          refine x_callV (K := jX10_spellSign) [.int 67] lk_X10_191 ⟨⟨rfl, rfl⟩, Nat.le_of_ble_eq_true rfl, Nat.le_of_ble_eq_true rfl⟩ rfl rfl (mX10_spellSign U ((wl m k).length) (by omega) hmU 67) rfl (Nat.le_of_ble_eq_true rfl) rfl dX10_spell_63 (kdV ?_)
          obtain ⟨U44, eU44⟩ : ∃ v_v : vM, v_v = apM U ((wl m k).length) 67 := ⟨_, rfl⟩
          refine YY.V eU44.symm ?_
          have hcU44 : U44 49 28 = nI ((wl m k).length + 1) := by rw [eU44]; exact apM_n _ _ _
          have hkU44 : ∀ z, U44 50 z = m z := fun z => by rw [eU44, apM, uM_na (by decide), uM_na (by decide), hkU]
          have h1U44 : U44 = wrM U ((wl m k).length) [67] := eU44
          refine x_bipush (v := 7) dX10_spell_66 (by decide) ?_
          refine x_iload_n dX10_spell_68 1 rfl ?_
          refine x_imul dX10_spell_69 ?_
          refine x_istore 4 [(4, .int (7 * (nI k))), (3, .int 3), (2, .int (nI k)), (0, .ref (g.2.1 49)), (1, .int i)] dX10_spell_70 (by decide) rfl ?_
          refine x_iload_n dX10_spell_72 1 rfl ?_
          refine x_iconst (v := 2) dX10_spell_73 (by decide) ?_
          refine x_icmp_eq 82 dX10_spell_74 (by decide) (fun c45 => by exfalso; revert c45; decide) (fun c45 => ?_)
          refine x_iload_n dX10_spell_77 1 rfl ?_
          refine x_iconst (v := 3) dX10_spell_78 (by decide) ?_
          refine x_icmp_ne 91 dX10_spell_79 (by decide) (fun c46 => by exfalso; revert c46; decide) (fun c46 => ?_)
          refine x_aload_n dX10_spell_82 3 rfl ?_
          refine x_iload dX10_spell_83 0 rfl ?_
          refine x_iconst (v := 1) dX10_spell_85 (by decide) ?_
          refine x_iadd dX10_spell_86 ?_
          refine x_iconst (v := 1) dX10_spell_87 (by decide) ?_
          have q47 : ((7 * (nI k)) + 1 : Int32) = nI ((7 * k) + 1) := nadd (nmul (rfl) (rfl)) (rfl)
          refine YY.S (st' := [.int 1, .int (nI ((7 * k) + 1)), .ref (g.2.1 49)]) (by rw [q47]) ?_
          have hr1 : inR (m (7 * k + 1)) ∧ inR (m (7 * k + 1 + 1)) := by have := (hw.2 k (by omega)).2.2.1; exact ⟨by rw [show 7 * k + 1 = k * 7 + 1 by omega]; exact this 1 (by omega) (by omega), by rw [show 7 * k + 1 + 1 = k * 7 + 2 by omega]; exact this 2 (by omega) (by omega)⟩
          refine x_callV (K := jX10_spellPair) [.int (nI ((7 * k) + 1)), .int 1] lk_X10_201 ⟨⟨rfl, rfl⟩, Nat.le_of_ble_eq_true rfl, Nat.le_of_ble_eq_true rfl⟩ rfl rfl (by have := mX10_spellPair (g := g) U44 (7 * k + 1) (by omega) 1 ((wl m k).length + 1) (by omega) hcU44 (by rw [hkU44]; exact hr1.1) (by rw [hkU44]; exact hr1.2); rw [hkU44, hkU44] at this; exact this) rfl (Nat.le_of_ble_eq_true rfl) rfl dX10_spell_88 (kdV ?_)
          obtain ⟨U48, eU48⟩ : ∃ v_v : vM, v_v = wrM U44 ((wl m k).length + 1) (prL 1 (m (7 * k + 1)) (m (7 * k + 1 + 1))) := ⟨_, rfl⟩
          refine YY.V eU48.symm ?_
          have hcU48 : U48 49 28 = nI ((wl m k).length + 1 + (prL 1 (m (7 * k + 1)) (m (7 * k + 1 + 1))).length) := by rw [eU48]; exact wrM_n _ _ _ hcU44
          have hkU48 : ∀ z, U48 50 z = m z := fun z => by rw [eU48, wrM_at (by decide) (by omega), hkU44]
          have hlU48 := prL_len 1 (m (7 * k + 1)) (m (7 * k + 1 + 1))
          refine x_iload_n dX10_spell_91 1 rfl ?_
          refine x_iconst (v := 3) dX10_spell_92 (by decide) ?_
          refine x_icmp_ne 105 dX10_spell_93 (by decide) (fun c49 => by exfalso; revert c49; decide) (fun c49 => ?_)
          refine x_aload_n dX10_spell_96 3 rfl ?_
          refine x_iload dX10_spell_97 0 rfl ?_
          refine x_iconst (v := 3) dX10_spell_99 (by decide) ?_
          refine x_iadd dX10_spell_100 ?_
          refine x_iconst (v := 0) dX10_spell_101 (by decide) ?_
          have q50 : ((7 * (nI k)) + 3 : Int32) = nI ((7 * k) + 3) := nadd (nmul (rfl) (rfl)) (rfl)
          refine YY.S (st' := [.int 0, .int (nI ((7 * k) + 3)), .ref (g.2.1 49)]) (by rw [q50]) ?_
          have hr1 : inR (m (7 * k + 3)) ∧ inR (m (7 * k + 3 + 1)) := by have := (hw.2 k (by omega)).2.2.1; exact ⟨by rw [show 7 * k + 3 = k * 7 + 3 by omega]; exact this 3 (by omega) (by omega), by rw [show 7 * k + 3 + 1 = k * 7 + 4 by omega]; exact this 4 (by omega) (by omega)⟩
          refine x_callV (K := jX10_spellPair) [.int (nI ((7 * k) + 3)), .int 0] lk_X10_201 ⟨⟨rfl, rfl⟩, Nat.le_of_ble_eq_true rfl, Nat.le_of_ble_eq_true rfl⟩ rfl rfl (by have := mX10_spellPair (g := g) U48 (7 * k + 3) (by omega) 0 ((wl m k).length + 1 + (prL 1 (m (7 * k + 1)) (m (7 * k + 1 + 1))).length) (by omega) hcU48 (by rw [hkU48]; exact hr1.1) (by rw [hkU48]; exact hr1.2); rw [hkU48, hkU48] at this; exact this) rfl (Nat.le_of_ble_eq_true rfl) rfl dX10_spell_102 (kdV ?_)
          obtain ⟨U51, eU51⟩ : ∃ v_v : vM, v_v = wrM U48 ((wl m k).length + 1 + (prL 1 (m (7 * k + 1)) (m (7 * k + 1 + 1))).length) (prL 0 (m (7 * k + 3)) (m (7 * k + 3 + 1))) := ⟨_, rfl⟩
          refine YY.V eU51.symm ?_
          have hcU51 : U51 49 28 = nI ((wl m k).length + 1 + (prL 1 (m (7 * k + 1)) (m (7 * k + 1 + 1))).length + (prL 0 (m (7 * k + 3)) (m (7 * k + 3 + 1))).length) := by rw [eU51]; exact wrM_n _ _ _ hcU48
          have hkU51 : ∀ z, U51 50 z = m z := fun z => by rw [eU51, wrM_at (by decide) (by omega), hkU48]
          have hlU51 := prL_len 0 (m (7 * k + 3)) (m (7 * k + 3 + 1))
          refine x_iload_n dX10_spell_105 1 rfl ?_
          refine x_iconst (v := 4) dX10_spell_106 (by decide) ?_
          refine x_icmp_eq 132 dX10_spell_107 (by decide) (fun c52 => by exfalso; revert c52; decide) (fun c52 => ?_)
          refine x_aload_n dX10_spell_110 3 rfl ?_
          refine x_iload dX10_spell_111 0 rfl ?_
          refine x_iconst (v := 5) dX10_spell_113 (by decide) ?_
          refine x_iadd dX10_spell_114 ?_
          refine x_iload_n dX10_spell_115 1 rfl ?_
          refine x_if_eq 124 dX10_spell_116 (by decide) (fun c53 => by exfalso; revert c53; decide) (fun c53 => ?_)
          refine x_iload_n dX10_spell_119 1 rfl ?_
          refine x_iconst (v := 1) dX10_spell_120 (by decide) ?_
          refine x_icmp_ne 128 dX10_spell_121 (by decide) (fun c54 => ?_) (fun c54 => by exfalso; revert c54; decide)
          refine x_iconst (v := 0) dX10_spell_128 (by decide) ?_
          have q55 : ((7 * (nI k)) + 5 : Int32) = nI ((7 * k) + 5) := nadd (nmul (rfl) (rfl)) (rfl)
          refine YY.S (st' := [.int 0, .int (nI ((7 * k) + 5)), .ref (g.2.1 49)]) (by rw [q55]) ?_
          have hr1 : inR (m (7 * k + 5)) ∧ inR (m (7 * k + 5 + 1)) := by have := (hw.2 k (by omega)).2.2.1; exact ⟨by rw [show 7 * k + 5 = k * 7 + 5 by omega]; exact this 5 (by omega) (by omega), by rw [show 7 * k + 5 + 1 = k * 7 + 6 by omega]; exact this 6 (by omega) (by omega)⟩
          refine x_callV (K := jX10_spellPair) [.int (nI ((7 * k) + 5)), .int 0] lk_X10_201 ⟨⟨rfl, rfl⟩, Nat.le_of_ble_eq_true rfl, Nat.le_of_ble_eq_true rfl⟩ rfl rfl (by have := mX10_spellPair (g := g) U51 (7 * k + 5) (by omega) 0 ((wl m k).length + 1 + (prL 1 (m (7 * k + 1)) (m (7 * k + 1 + 1))).length + (prL 0 (m (7 * k + 3)) (m (7 * k + 3 + 1))).length) (by omega) hcU51 (by rw [hkU51]; exact hr1.1) (by rw [hkU51]; exact hr1.2); rw [hkU51, hkU51] at this; exact this) rfl (Nat.le_of_ble_eq_true rfl) rfl dX10_spell_129 (kdV ?_)
          obtain ⟨U56, eU56⟩ : ∃ v_v : vM, v_v = wrM U51 ((wl m k).length + 1 + (prL 1 (m (7 * k + 1)) (m (7 * k + 1 + 1))).length + (prL 0 (m (7 * k + 3)) (m (7 * k + 3 + 1))).length) (prL 0 (m (7 * k + 5)) (m (7 * k + 5 + 1))) := ⟨_, rfl⟩
          refine YY.V eU56.symm ?_
          have hcU56 : U56 49 28 = nI ((wl m k).length + 1 + (prL 1 (m (7 * k + 1)) (m (7 * k + 1 + 1))).length + (prL 0 (m (7 * k + 3)) (m (7 * k + 3 + 1))).length + (prL 0 (m (7 * k + 5)) (m (7 * k + 5 + 1))).length) := by rw [eU56]; exact wrM_n _ _ _ hcU51
          have hkU56 : ∀ z, U56 50 z = m z := fun z => by rw [eU56, wrM_at (by decide) (by omega), hkU51]
          have hlU56 := prL_len 0 (m (7 * k + 5)) (m (7 * k + 5 + 1))
          refine x_iinc 2 (v := (nI k) + 1) 2 [(2, .int ((nI k) + 1)), (4, .int (7 * (nI k))), (3, .int 3), (0, .ref (g.2.1 49)), (1, .int i)] dX10_spell_132 rfl (by rfl) (by decide) rfl ?_
          refine x_goto 7 dX10_spell_135 (by decide) ?_
          refine x_lv [0, 3, 4] rfl ?_
          refine YY.L (lv' := [(2, .int (nI (k + 1))), (0, .ref (g.2.1 49)), (1, .int i)]) (by rw [nI_1]; rfl) ?_
          exact ih (k + 1) U56 (by omega) (by rw [eU56, eU51, eU48, h1U44, hU, wl, clM_v.2.2.2.1 e5, wrM_app, wrM_app, wrM_app, wrM_app]; simp only [List.length_append, List.length_cons, List.length_nil, Nat.zero_add, Nat.add_assoc]) (by omega)
        · -- kind 4
          refine YY.L (lv' := [(3, .int 4), (2, .int (nI k)), (0, .ref (g.2.1 49)), (1, .int i)]) (by rw [e5]) ?_
          refine x_aload_n dX10_spell_21 2 rfl ?_
          refine x_iload_n dX10_spell_22 0 rfl ?_
          refine x_if_ne 31 dX10_spell_23 (by decide) (fun c57 => ?_) (fun c57 => by exfalso; revert c57; decide)
          refine x_iload_n dX10_spell_31 0 rfl ?_
          refine x_iconst (v := 1) dX10_spell_32 (by decide) ?_
          refine x_icmp_ne 41 dX10_spell_33 (by decide) (fun c58 => ?_) (fun c58 => by exfalso; revert c58; decide)
          refine x_iload_n dX10_spell_41 0 rfl ?_
          refine x_iconst (v := 2) dX10_spell_42 (by decide) ?_
          refine x_icmp_ne 51 dX10_spell_43 (by decide) (fun c59 => ?_) (fun c59 => by exfalso; revert c59; decide)
          refine x_iload_n dX10_spell_51 0 rfl ?_
          refine x_iconst (v := 3) dX10_spell_52 (by decide) ?_
          refine x_icmp_ne 61 dX10_spell_53 (by decide) (fun c60 => ?_) (fun c60 => by exfalso; revert c60; decide)
          refine x_bipush (v := 90) dX10_spell_61 (by decide) ?_
          refine x_callV (K := jX10_spellSign) [.int 90] lk_X10_191 ⟨⟨rfl, rfl⟩, Nat.le_of_ble_eq_true rfl, Nat.le_of_ble_eq_true rfl⟩ rfl rfl (mX10_spellSign U ((wl m k).length) (by omega) hmU 90) rfl (Nat.le_of_ble_eq_true rfl) rfl dX10_spell_63 (kdV ?_)
          obtain ⟨U61, eU61⟩ : ∃ v_v : vM, v_v = apM U ((wl m k).length) 90 := ⟨_, rfl⟩
          refine YY.V eU61.symm ?_
          have hcU61 : U61 49 28 = nI ((wl m k).length + 1) := by rw [eU61]; exact apM_n _ _ _
          have hkU61 : ∀ z, U61 50 z = m z := fun z => by rw [eU61, apM, uM_na (by decide), uM_na (by decide), hkU]
          have h1U61 : U61 = wrM U ((wl m k).length) [90] := eU61
          refine x_bipush (v := 7) dX10_spell_66 (by decide) ?_
          refine x_iload_n dX10_spell_68 1 rfl ?_
          refine x_imul dX10_spell_69 ?_
          refine x_istore 4 [(4, .int (7 * (nI k))), (3, .int 4), (2, .int (nI k)), (0, .ref (g.2.1 49)), (1, .int i)] dX10_spell_70 (by decide) rfl ?_
          refine x_iload_n dX10_spell_72 1 rfl ?_
          refine x_iconst (v := 2) dX10_spell_73 (by decide) ?_
          refine x_icmp_eq 82 dX10_spell_74 (by decide) (fun c62 => by exfalso; revert c62; decide) (fun c62 => ?_)
          refine x_iload_n dX10_spell_77 1 rfl ?_
          refine x_iconst (v := 3) dX10_spell_78 (by decide) ?_
          refine x_icmp_ne 91 dX10_spell_79 (by decide) (fun c63 => ?_) (fun c63 => by exfalso; revert c63; decide)
          refine x_iload_n dX10_spell_91 1 rfl ?_
          refine x_iconst (v := 3) dX10_spell_92 (by decide) ?_
          refine x_icmp_ne 105 dX10_spell_93 (by decide) (fun c64 => ?_) (fun c64 => by exfalso; revert c64; decide)
          refine x_iload_n dX10_spell_105 1 rfl ?_
          refine x_iconst (v := 4) dX10_spell_106 (by decide) ?_
          refine x_icmp_eq 132 dX10_spell_107 (by decide) (fun c65 => ?_) (fun c65 => by exfalso; revert c65; decide)
          refine x_iinc 2 (v := (nI k) + 1) 2 [(2, .int ((nI k) + 1)), (4, .int (7 * (nI k))), (3, .int 4), (0, .ref (g.2.1 49)), (1, .int i)] dX10_spell_132 rfl (by rfl) (by decide) rfl ?_
          refine x_goto 7 dX10_spell_135 (by decide) ?_
          refine x_lv [0, 3, 4] rfl ?_
          refine YY.L (lv' := [(2, .int (nI (k + 1))), (0, .ref (g.2.1 49)), (1, .int i)]) (by rw [nI_1]; rfl) ?_
          exact ih (k + 1) U61 (by omega) (by rw [h1U61, hU, wl, clM_v.2.2.2.2 e5, wrM_app]; simp only [List.length_append, List.length_cons, List.length_nil, Nat.zero_add, Nat.add_assoc]) (by omega)
  refine YY.L (lv' := [(2, .int (nI 0)), (0, .ref (g.2.1 49)), (1, .int i)]) (by rfl) ?_
  exact lp2 _ 0 U1 (by omega) (by rw [eU1]; rfl) (Nat.lt_succ_self _)
