theorem tk_hw {nx k sm ng : Int32} {c v d cm : Nat} {x y sx sy : Int32} {X O : Nat → Int32} (h : rCb nx ((k, sm, ng), (c, v, d, cm), (x, y, sx, sy), X, O)) : k = -1 ∨ k = 4 ∨ c + 1 = rNd k := by
  rcases h with ⟨h1, h2⟩ | ⟨h1, ⟨h2, h3⟩, h4⟩
  · exact Or.inl h1
  · exact Or.inr (h3.elim Or.inl (fun z => Or.inr z.2))
theorem pV_nd {k : Int32} (h : 0 ≤ k ∧ k ≤ 4) (h4 : ¬ k = 4) : 2 * pV k.toNatClampNeg = nI (rNd k) := by
  rw [rNd_k (k3 h h4)]
  rcases k5 h with e | e | e | e | e
  · subst e; decide
  · subst e; decide
  · subst e; decide
  · subst e; decide
  · exact absurd e h4
set_option maxHeartbeats 2000000 in
set_option maxRecDepth 100000 in
theorem mX6_takesKind {g : gX} {V : vM} {k sm ng : Int32} {c v d cm : Nat} {x y sx sy : Int32} {X O : Nat → Int32} {i : Nat} (hI : RI i ((k, sm, ng), (c, v, d, cm), (x, y, sx, sy), X, O)) (hi : i ≤ 120) (hR : RC V ((k, sm, ng), (c, v, d, cm), (x, y, sx, sy), X, O)) (ch : Int32) (hch : 0 ≤ ch ∧ ch ≤ 127) : MM g jX6_takesKind V [.ref (g.2.1 37), .int ch, .ref (g.2.1 2)] (eI (TK V (rLe ch ((k, sm, ng), (c, v, d, cm), (x, y, sx, sy), X, O)))) := by
  refine MM.of plX6_takesKind (Nat.le_of_ble_eq_true rfl) ?_
  obtain ⟨Q, hQ⟩ : ∃ Q : Option Value → vM → Prop, Q = (eI (TK V (rLe ch ((k, sm, ng), (c, v, d, cm), (x, y, sx, sy), X, O)))) := ⟨_, rfl⟩
  rw [← hQ]
  show XX g jX6_takesKind Q V 0 [(0, .ref (g.2.1 37)), (1, .int ch), (2, .ref (g.2.1 2))] []
  obtain ⟨a1, a2, a3, a4, a5, a6, a7, a8, a9, a10, a11, a12⟩ := id hI
  obtain ⟨r1, r2, r3, r4, r5, r6, r7, r8, r9, r10, r11, r12, r13⟩ := id hR.1
  have r14 := hR.2
  have hnd := rNd_b k
  have hc6 := RIc hI
  refine x_ldcS (own := "") (sr_X6_77 (g := g)) dX6_takesKind_0 ?_
  refine x_iload_n dX6_takesKind_2 1 rfl ?_
  refine x_callVS (K := jJ0_indexOf_0f7a4) [.int ch] lk_X6_79 ⟨⟨rfl, rfl⟩, Nat.le_of_ble_eq_true rfl, Nat.le_of_ble_eq_true rfl⟩ (by decide) rfl (mJ0_indexOf_0f7a4 V 0 (by decide) ch hch) rfl (Nat.le_of_ble_eq_true rfl) rfl dX6_takesKind_3 (kpI ?_)
  refine x_if_ge 13 dX6_takesKind_6 (by decide) (fun c1 => ?_) (fun c1 => ?_)
  · refine x_iconst (v := 0) dX6_takesKind_13 (by decide) ?_
    refine x_istore_n 3 [(3, .int 0), (0, .ref (g.2.1 37)), (1, .int ch), (2, .ref (g.2.1 2))] dX6_takesKind_14 rfl (by decide) rfl ?_
    refine x_iload_n dX6_takesKind_15 0 rfl ?_
    refine x_if_eq 28 dX6_takesKind_16 (by decide) (fun c2 => ?_) (fun c2 => by exfalso; revert c2; decide)
    refine x_ldcS (own := "") (sr_X6_77 (g := g)) dX6_takesKind_28 ?_
    refine x_iload_n dX6_takesKind_30 2 rfl ?_
    refine x_callVS (K := jJ0_indexOf_0f7a4) [.int ch] lk_X6_79 ⟨⟨rfl, rfl⟩, Nat.le_of_ble_eq_true rfl, Nat.le_of_ble_eq_true rfl⟩ (by decide) rfl (mJ0_indexOf_0f7a4 V 0 (by decide) ch hch) rfl (Nat.le_of_ble_eq_true rfl) rfl dX6_takesKind_31 (kpI ?_)
    refine x_istore 4 [(4, .int (ixS 0 ch)), (3, .int 0), (0, .ref (g.2.1 37)), (1, .int ch), (2, .ref (g.2.1 2))] dX6_takesKind_34 (by decide) rfl ?_
    refine x_iload dX6_takesKind_36 0 rfl ?_
    refine x_if_lt 50 dX6_takesKind_38 (by decide) (fun c3 => ?_) (fun c3 => ?_)
    · refine x_iconst (v := 0) dX6_takesKind_50 (by decide) ?_
      refine x_zret dX6_takesKind_51 rfl (by exact nar01 (by first | exact Or.inl rfl | exact Or.inr rfl | grind)) ?_
      rw [hQ]
      have hlt : rLt ch = (ixS 0 ch, 0) := by unfold rLt; rw [if_neg (Int32.not_lt.mpr (by assumption))]
      exact ⟨_, rfl, Or.inl ⟨rfl, by unfold rLe; rw [if_pos (by rw [hlt]; first | exact Or.inl (by assumption) | exact Or.inr (by assumption))], rfl⟩⟩
    · refine x_aload_n dX6_takesKind_41 2 rfl ?_
      refine x_iload dX6_takesKind_42 0 rfl ?_
      refine x_callV (K := jX6_canBegin) [.int (ixS 0 ch)] lk_X6_87 ⟨⟨rfl, rfl⟩, Nat.le_of_ble_eq_true rfl, Nat.le_of_ble_eq_true rfl⟩ rfl rfl (mX6_canBegin hI hi hR (ixS 0 ch)) rfl (Nat.le_of_ble_eq_true rfl) rfl dX6_takesKind_44 (kpI ?_)
      refine x_if_ne 52 dX6_takesKind_47 (by decide) (fun c5 => ?_) (fun c5 => ?_)
      · have c5n : (rCb (ixS 0 ch) ((k, sm, ng), (c, v, d, cm), (x, y, sx, sy), X, O)) := Classical.not_not.mp (fun q => c5 (bP_0.mpr q))
        refine x_aload_n dX6_takesKind_52 2 rfl ?_
        refine x_aload_n dX6_takesKind_53 4 rfl ?_
        refine x_callV (K := jX6_finishCommand) [.ref (g.2.1 2)] lk_X6_90 ⟨⟨rfl, rfl⟩, Nat.le_of_ble_eq_true rfl, Nat.le_of_ble_eq_true rfl⟩ rfl rfl (mX6_finishCommand hI hi hR (tk_hw (by assumption))) rfl (Nat.le_of_ble_eq_true rfl) rfl dX6_takesKind_54 (keV fun U6 hU7 => ?_)
        obtain ⟨hRF, hfF⟩ := hU7
        obtain ⟨w, ew⟩ : ∃ w : RSt, w = rFC ((k, sm, ng), (c, v, d, cm), (x, y, sx, sy), X, O) := ⟨_, rfl⟩
        rw [← ew] at hRF
        obtain ⟨⟨wk, ws, wn⟩, ⟨wc, wv, wd, wm⟩, ⟨wx, wy, wsx, wsy⟩, wX, wO⟩ := w
        obtain ⟨⟨w1, w2, w3, w4, w5, w6, w7, w8, w9, w10, w11, w12, w13⟩, w14⟩ := hRF
        have hlt : rLt ch = ((ixS 0 ch), 0) := by unfold rLt; rw [if_neg (Int32.not_lt.mpr (by assumption))]
        have hnn : ¬ (rLt ch).1 < 0 := by rw [hlt]; assumption
        have hcb : rCb (rLt ch).1 ((k, sm, ng), (c, v, d, cm), (x, y, sx, sy), X, O) := by rw [hlt]; assumption
        have hb := rLt_b ch hnn
        rw [hlt] at hb
        obtain ⟨nx, enx⟩ : ∃ z : Int32, z = (ixS 0 ch) := ⟨_, rfl⟩
        rw [← enx] at hb hlt
        dsimp only at hb
        refine YY.L (lv' := [(4, .int nx), (3, .int 0), (0, .ref (g.2.1 37)), (1, .int ch), (2, .ref (g.2.1 2))]) (by rw [enx]) ?_
        refine x_aload_n dX6_takesKind_57 2 rfl ?_
        refine x_iload dX6_takesKind_58 0 rfl ?_
        refine x_putI fp_X6_18 rfl rfl dX6_takesKind_60 ?_
        obtain ⟨U8, eU8⟩ : ∃ v_v : vM, v_v = uM U6 37 1 nx := ⟨_, rfl⟩
        refine YY.V eU8.symm ?_
        refine x_aload_n dX6_takesKind_63 2 rfl ?_
        refine x_iload_n dX6_takesKind_64 1 rfl ?_
        have z9 : (0 : Int32) = 0 ∨ (0 : Int32) = 1 := by first | exact Or.inl rfl | exact Or.inr rfl
        refine x_putZ fp_X6_22 rfl rfl z9 dX6_takesKind_65 ?_
        obtain ⟨U10, eU10⟩ : ∃ v_v : vM, v_v = uM U8 37 2 0 := ⟨_, rfl⟩
        refine YY.V eU10.symm ?_
        refine x_aload_n dX6_takesKind_68 2 rfl ?_
        refine x_aload_n dX6_takesKind_69 2 rfl ?_
        refine x_getI fl_X6_18 rfl rfl dX6_takesKind_70 ?_
        refine x_topi (y := nx) (by rw [eU10, uM_ni (by decide), eU8, uM_hit]) ?_
        refine x_iconst (v := 4) dX6_takesKind_73 (by decide) ?_
        refine x_icmp_ne 81 dX6_takesKind_74 (by decide) (fun c11 => ?_) (fun c11 => ?_)
        · refine x_iconst (v := 2) dX6_takesKind_81 (by decide) ?_
          refine x_gpts (own := "") (nwr5 (g := g)) dX6_takesKind_82 ?_
          refine x_aload_n dX6_takesKind_85 2 rfl ?_
          refine x_getI fl_X6_18 rfl rfl dX6_takesKind_86 ?_
          refine x_topi (y := nx) (by rw [eU10, uM_ni (by decide), eU8, uM_hit]) ?_
          have b12 : vp_in nx 5 := by exact vp_lit (N := 5) 5 (by decide) rfl hb.1.1 (Int32.lt_iff_toInt_lt.mpr (by have := Int32.le_iff_toInt_le.mp hb.1.2; rw [show (4 : Int32).toInt = 4 from rfl] at this; rw [show (5 : Int32).toInt = 5 from rfl]; omega))
          refine x_pald b12 dX6_takesKind_89 ?_
          refine x_imul dX6_takesKind_90 ?_
          refine x_topi (y := nI (rNd nx)) (pV_nd hb.1 (by assumption)) ?_
          refine x_putI fp_X6_26 rfl rfl dX6_takesKind_91 ?_
          obtain ⟨U13, eU13⟩ : ∃ v_v : vM, v_v = uM U10 37 3 (nI (rNd nx)) := ⟨_, rfl⟩
          refine YY.V eU13.symm ?_
          refine x_aload_n dX6_takesKind_94 2 rfl ?_
          refine x_iconst (v := 0) dX6_takesKind_95 (by decide) ?_
          refine x_putI fp_X6_29 rfl rfl dX6_takesKind_96 ?_
          obtain ⟨U14, eU14⟩ : ∃ v_v : vM, v_v = uM U13 37 4 0 := ⟨_, rfl⟩
          refine YY.V eU14.symm ?_
          refine x_aload_n dX6_takesKind_99 2 rfl ?_
          refine x_callV (K := jX6_beginNumber) [] lk_X6_47 ⟨⟨rfl, rfl⟩, Nat.le_of_ble_eq_true rfl, Nat.le_of_ble_eq_true rfl⟩ rfl rfl (mX6_beginNumber U14) rfl (Nat.le_of_ble_eq_true rfl) rfl dX6_takesKind_100 (kdV ?_)
          obtain ⟨U15, eU15⟩ : ∃ v_v : vM, v_v = uM (uM (uM U14 37 5 0) 37 6 0) 37 7 0 := ⟨_, rfl⟩
          refine YY.V eU15.symm ?_
          refine x_iconst (v := 1) dX6_takesKind_103 (by decide) ?_
          refine x_zret dX6_takesKind_104 rfl (by exact nar01 (by first | exact Or.inl rfl | exact Or.inr rfl | grind)) ?_
          rw [hQ]
          have hle : rLe ch ((k, sm, ng), (c, v, d, cm), (x, y, sx, sy), X, O) = some ((nx, 0, 0), (0, 0, 0, wm), (wx, wy, wsx, wsy), wX, wO) := by unfold rLe; rw [if_neg (fun q => q.elim hnn (fun z => z hcb)), ← ew, hlt]; rfl
          refine ⟨_, rfl, Or.inr ⟨rfl, _, hle, ⟨⟨?_, ?_, ?_, ?_, ?_, ?_, ?_, ?_, ?_, ?_, ?_, ?_, fun j hj => absurd hj (Nat.not_lt_zero _)⟩, ?_⟩, ?_⟩⟩
          · simp [eU15, eU14, eU13, eU10, eU8, uM_at]
          · simp [eU15, eU14, eU13, eU10, eU8, uM_at]
          · simp [eU15, eU14, eU13, eU10, eU8, uM_at]
          · simp [eU15, eU14, eU13, eU10, eU8, uM_at] <;> rfl
          · simp [eU15, eU14, eU13, eU10, eU8, uM_at] <;> rfl
          · simp [eU15, eU14, eU13, eU10, eU8, uM_at] <;> rfl
          · simp [eU15, eU14, eU13, eU10, eU8, uM_at]
          · simp [eU15, eU14, eU13, eU10, eU8, uM_at, w8]
          · simp [eU15, eU14, eU13, eU10, eU8, uM_at, w9]
          · simp [eU15, eU14, eU13, eU10, eU8, uM_at, w10]
          · simp [eU15, eU14, eU13, eU10, eU8, uM_at, w11]
          · simp [eU15, eU14, eU13, eU10, eU8, uM_at, w12]
          · exact w14.ag (fun b j q => by rw [eU15, uM_na (by omega), uM_na (by omega), uM_na (by omega), eU14, uM_na (by omega), eU13, uM_na (by omega), eU10, uM_na (by omega), eU8, uM_na (by omega)])
          · exact fun a j p1 p2 p3 p4 p5 => by rw [eU15, uM_na p4, uM_na p4, uM_na p4, eU14, uM_na p4, eU13, uM_na p4, eU10, uM_na p4, eU8, uM_na p4]; exact hfF a j p1 p2 p3 p4 p5
        · refine x_iconst (v := 0) dX6_takesKind_77 (by decide) ?_
          refine x_goto 91 dX6_takesKind_78 (by decide) ?_
          refine x_topi (y := nI (rNd nx)) (by rw [show rNd nx = 0 from if_pos (Or.inl (by assumption))]; rfl) ?_
          refine x_putI fp_X6_26 rfl rfl dX6_takesKind_91 ?_
          obtain ⟨U17, eU17⟩ : ∃ v_v : vM, v_v = uM U10 37 3 (nI (rNd nx)) := ⟨_, rfl⟩
          refine YY.V eU17.symm ?_
          refine x_aload_n dX6_takesKind_94 2 rfl ?_
          refine x_iconst (v := 0) dX6_takesKind_95 (by decide) ?_
          refine x_putI fp_X6_29 rfl rfl dX6_takesKind_96 ?_
          obtain ⟨U18, eU18⟩ : ∃ v_v : vM, v_v = uM U17 37 4 0 := ⟨_, rfl⟩
          refine YY.V eU18.symm ?_
          refine x_aload_n dX6_takesKind_99 2 rfl ?_
          refine x_callV (K := jX6_beginNumber) [] lk_X6_47 ⟨⟨rfl, rfl⟩, Nat.le_of_ble_eq_true rfl, Nat.le_of_ble_eq_true rfl⟩ rfl rfl (mX6_beginNumber U18) rfl (Nat.le_of_ble_eq_true rfl) rfl dX6_takesKind_100 (kdV ?_)
          obtain ⟨U19, eU19⟩ : ∃ v_v : vM, v_v = uM (uM (uM U18 37 5 0) 37 6 0) 37 7 0 := ⟨_, rfl⟩
          refine YY.V eU19.symm ?_
          refine x_iconst (v := 1) dX6_takesKind_103 (by decide) ?_
          refine x_zret dX6_takesKind_104 rfl (by exact nar01 (by first | exact Or.inl rfl | exact Or.inr rfl | grind)) ?_
          rw [hQ]
          have hle : rLe ch ((k, sm, ng), (c, v, d, cm), (x, y, sx, sy), X, O) = some ((nx, 0, 0), (0, 0, 0, wm), (wx, wy, wsx, wsy), wX, wO) := by unfold rLe; rw [if_neg (fun q => q.elim hnn (fun z => z hcb)), ← ew, hlt]; rfl
          refine ⟨_, rfl, Or.inr ⟨rfl, _, hle, ⟨⟨?_, ?_, ?_, ?_, ?_, ?_, ?_, ?_, ?_, ?_, ?_, ?_, fun j hj => absurd hj (Nat.not_lt_zero _)⟩, ?_⟩, ?_⟩⟩
          · simp [eU19, eU18, eU17, eU10, eU8, uM_at]
          · simp [eU19, eU18, eU17, eU10, eU8, uM_at]
          · simp [eU19, eU18, eU17, eU10, eU8, uM_at]
          · simp [eU19, eU18, eU17, eU10, eU8, uM_at] <;> rfl
          · simp [eU19, eU18, eU17, eU10, eU8, uM_at] <;> rfl
          · simp [eU19, eU18, eU17, eU10, eU8, uM_at] <;> rfl
          · simp [eU19, eU18, eU17, eU10, eU8, uM_at]
          · simp [eU19, eU18, eU17, eU10, eU8, uM_at, w8]
          · simp [eU19, eU18, eU17, eU10, eU8, uM_at, w9]
          · simp [eU19, eU18, eU17, eU10, eU8, uM_at, w10]
          · simp [eU19, eU18, eU17, eU10, eU8, uM_at, w11]
          · simp [eU19, eU18, eU17, eU10, eU8, uM_at, w12]
          · exact w14.ag (fun b j q => by rw [eU19, uM_na (by omega), uM_na (by omega), uM_na (by omega), eU18, uM_na (by omega), eU17, uM_na (by omega), eU10, uM_na (by omega), eU8, uM_na (by omega)])
          · exact fun a j p1 p2 p3 p4 p5 => by rw [eU19, uM_na p4, uM_na p4, uM_na p4, eU18, uM_na p4, eU17, uM_na p4, eU10, uM_na p4, eU8, uM_na p4]; exact hfF a j p1 p2 p3 p4 p5
      · have c5n : ¬ (rCb (ixS 0 ch) ((k, sm, ng), (c, v, d, cm), (x, y, sx, sy), X, O)) := bP_0.mp c5
        refine x_iconst (v := 0) dX6_takesKind_50 (by decide) ?_
        refine x_zret dX6_takesKind_51 rfl (by exact nar01 (by first | exact Or.inl rfl | exact Or.inr rfl | grind)) ?_
        rw [hQ]
        have hlt : rLt ch = (ixS 0 ch, 0) := by unfold rLt; rw [if_neg (Int32.not_lt.mpr (by assumption))]
        exact ⟨_, rfl, Or.inl ⟨rfl, by unfold rLe; rw [if_pos (by rw [hlt]; first | exact Or.inl (by assumption) | exact Or.inr (by assumption))], rfl⟩⟩
  · refine x_iconst (v := 1) dX6_takesKind_9 (by decide) ?_
    refine x_goto 14 dX6_takesKind_10 (by decide) ?_
    refine x_istore_n 3 [(3, .int 1), (0, .ref (g.2.1 37)), (1, .int ch), (2, .ref (g.2.1 2))] dX6_takesKind_14 rfl (by decide) rfl ?_
    refine x_iload_n dX6_takesKind_15 0 rfl ?_
    refine x_if_eq 28 dX6_takesKind_16 (by decide) (fun c22 => by exfalso; revert c22; decide) (fun c22 => ?_)
    refine x_ldcS (own := "") (sr_X6_85 (g := g)) dX6_takesKind_19 ?_
    refine x_iload_n dX6_takesKind_21 2 rfl ?_
    refine x_callVS (K := jJ0_indexOf_0f7a4) [.int ch] lk_X6_79 ⟨⟨rfl, rfl⟩, Nat.le_of_ble_eq_true rfl, Nat.le_of_ble_eq_true rfl⟩ (by decide) rfl (mJ0_indexOf_0f7a4 V 1 (by decide) ch hch) rfl (Nat.le_of_ble_eq_true rfl) rfl dX6_takesKind_22 (kpI ?_)
    refine x_goto 34 dX6_takesKind_25 (by decide) ?_
    refine x_istore 4 [(4, .int (ixS 1 ch)), (3, .int 1), (0, .ref (g.2.1 37)), (1, .int ch), (2, .ref (g.2.1 2))] dX6_takesKind_34 (by decide) rfl ?_
    refine x_iload dX6_takesKind_36 0 rfl ?_
    refine x_if_lt 50 dX6_takesKind_38 (by decide) (fun c23 => ?_) (fun c23 => ?_)
    · refine x_iconst (v := 0) dX6_takesKind_50 (by decide) ?_
      refine x_zret dX6_takesKind_51 rfl (by exact nar01 (by first | exact Or.inl rfl | exact Or.inr rfl | grind)) ?_
      rw [hQ]
      have hlt : rLt ch = (ixS 1 ch, 1) := by unfold rLt; rw [if_pos (Int32.not_le.mp (by assumption))]
      exact ⟨_, rfl, Or.inl ⟨rfl, by unfold rLe; rw [if_pos (by rw [hlt]; first | exact Or.inl (by assumption) | exact Or.inr (by assumption))], rfl⟩⟩
    · refine x_aload_n dX6_takesKind_41 2 rfl ?_
      refine x_iload dX6_takesKind_42 0 rfl ?_
      refine x_callV (K := jX6_canBegin) [.int (ixS 1 ch)] lk_X6_87 ⟨⟨rfl, rfl⟩, Nat.le_of_ble_eq_true rfl, Nat.le_of_ble_eq_true rfl⟩ rfl rfl (mX6_canBegin hI hi hR (ixS 1 ch)) rfl (Nat.le_of_ble_eq_true rfl) rfl dX6_takesKind_44 (kpI ?_)
      refine x_if_ne 52 dX6_takesKind_47 (by decide) (fun c25 => ?_) (fun c25 => ?_)
      · have c25n : (rCb (ixS 1 ch) ((k, sm, ng), (c, v, d, cm), (x, y, sx, sy), X, O)) := Classical.not_not.mp (fun q => c25 (bP_0.mpr q))
        refine x_aload_n dX6_takesKind_52 2 rfl ?_
        refine x_aload_n dX6_takesKind_53 4 rfl ?_
        refine x_callV (K := jX6_finishCommand) [.ref (g.2.1 2)] lk_X6_90 ⟨⟨rfl, rfl⟩, Nat.le_of_ble_eq_true rfl, Nat.le_of_ble_eq_true rfl⟩ rfl rfl (mX6_finishCommand hI hi hR (tk_hw (by assumption))) rfl (Nat.le_of_ble_eq_true rfl) rfl dX6_takesKind_54 (keV fun U26 hU27 => ?_)
        obtain ⟨hRF, hfF⟩ := hU27
        obtain ⟨w, ew⟩ : ∃ w : RSt, w = rFC ((k, sm, ng), (c, v, d, cm), (x, y, sx, sy), X, O) := ⟨_, rfl⟩
        rw [← ew] at hRF
        obtain ⟨⟨wk, ws, wn⟩, ⟨wc, wv, wd, wm⟩, ⟨wx, wy, wsx, wsy⟩, wX, wO⟩ := w
        obtain ⟨⟨w1, w2, w3, w4, w5, w6, w7, w8, w9, w10, w11, w12, w13⟩, w14⟩ := hRF
        have hlt : rLt ch = ((ixS 1 ch), 1) := by unfold rLt; rw [if_pos (Int32.not_le.mp (by assumption))]
        have hnn : ¬ (rLt ch).1 < 0 := by rw [hlt]; assumption
        have hcb : rCb (rLt ch).1 ((k, sm, ng), (c, v, d, cm), (x, y, sx, sy), X, O) := by rw [hlt]; assumption
        have hb := rLt_b ch hnn
        rw [hlt] at hb
        obtain ⟨nx, enx⟩ : ∃ z : Int32, z = (ixS 1 ch) := ⟨_, rfl⟩
        rw [← enx] at hb hlt
        dsimp only at hb
        refine YY.L (lv' := [(4, .int nx), (3, .int 1), (0, .ref (g.2.1 37)), (1, .int ch), (2, .ref (g.2.1 2))]) (by rw [enx]) ?_
        refine x_aload_n dX6_takesKind_57 2 rfl ?_
        refine x_iload dX6_takesKind_58 0 rfl ?_
        refine x_putI fp_X6_18 rfl rfl dX6_takesKind_60 ?_
        obtain ⟨U28, eU28⟩ : ∃ v_v : vM, v_v = uM U26 37 1 nx := ⟨_, rfl⟩
        refine YY.V eU28.symm ?_
        refine x_aload_n dX6_takesKind_63 2 rfl ?_
        refine x_iload_n dX6_takesKind_64 1 rfl ?_
        have z29 : (1 : Int32) = 0 ∨ (1 : Int32) = 1 := by first | exact Or.inl rfl | exact Or.inr rfl
        refine x_putZ fp_X6_22 rfl rfl z29 dX6_takesKind_65 ?_
        obtain ⟨U30, eU30⟩ : ∃ v_v : vM, v_v = uM U28 37 2 1 := ⟨_, rfl⟩
        refine YY.V eU30.symm ?_
        refine x_aload_n dX6_takesKind_68 2 rfl ?_
        refine x_aload_n dX6_takesKind_69 2 rfl ?_
        refine x_getI fl_X6_18 rfl rfl dX6_takesKind_70 ?_
        refine x_topi (y := nx) (by rw [eU30, uM_ni (by decide), eU28, uM_hit]) ?_
        refine x_iconst (v := 4) dX6_takesKind_73 (by decide) ?_
        refine x_icmp_ne 81 dX6_takesKind_74 (by decide) (fun c31 => ?_) (fun c31 => ?_)
        · refine x_iconst (v := 2) dX6_takesKind_81 (by decide) ?_
          refine x_gpts (own := "") (nwr5 (g := g)) dX6_takesKind_82 ?_
          refine x_aload_n dX6_takesKind_85 2 rfl ?_
          refine x_getI fl_X6_18 rfl rfl dX6_takesKind_86 ?_
          refine x_topi (y := nx) (by rw [eU30, uM_ni (by decide), eU28, uM_hit]) ?_
          have b32 : vp_in nx 5 := by exact vp_lit (N := 5) 5 (by decide) rfl hb.1.1 (Int32.lt_iff_toInt_lt.mpr (by have := Int32.le_iff_toInt_le.mp hb.1.2; rw [show (4 : Int32).toInt = 4 from rfl] at this; rw [show (5 : Int32).toInt = 5 from rfl]; omega))
          refine x_pald b32 dX6_takesKind_89 ?_
          refine x_imul dX6_takesKind_90 ?_
          refine x_topi (y := nI (rNd nx)) (pV_nd hb.1 (by assumption)) ?_
          refine x_putI fp_X6_26 rfl rfl dX6_takesKind_91 ?_
          obtain ⟨U33, eU33⟩ : ∃ v_v : vM, v_v = uM U30 37 3 (nI (rNd nx)) := ⟨_, rfl⟩
          refine YY.V eU33.symm ?_
          refine x_aload_n dX6_takesKind_94 2 rfl ?_
          refine x_iconst (v := 0) dX6_takesKind_95 (by decide) ?_
          refine x_putI fp_X6_29 rfl rfl dX6_takesKind_96 ?_
          obtain ⟨U34, eU34⟩ : ∃ v_v : vM, v_v = uM U33 37 4 0 := ⟨_, rfl⟩
          refine YY.V eU34.symm ?_
          refine x_aload_n dX6_takesKind_99 2 rfl ?_
          refine x_callV (K := jX6_beginNumber) [] lk_X6_47 ⟨⟨rfl, rfl⟩, Nat.le_of_ble_eq_true rfl, Nat.le_of_ble_eq_true rfl⟩ rfl rfl (mX6_beginNumber U34) rfl (Nat.le_of_ble_eq_true rfl) rfl dX6_takesKind_100 (kdV ?_)
          obtain ⟨U35, eU35⟩ : ∃ v_v : vM, v_v = uM (uM (uM U34 37 5 0) 37 6 0) 37 7 0 := ⟨_, rfl⟩
          refine YY.V eU35.symm ?_
          refine x_iconst (v := 1) dX6_takesKind_103 (by decide) ?_
          refine x_zret dX6_takesKind_104 rfl (by exact nar01 (by first | exact Or.inl rfl | exact Or.inr rfl | grind)) ?_
          rw [hQ]
          have hle : rLe ch ((k, sm, ng), (c, v, d, cm), (x, y, sx, sy), X, O) = some ((nx, 1, 0), (0, 0, 0, wm), (wx, wy, wsx, wsy), wX, wO) := by unfold rLe; rw [if_neg (fun q => q.elim hnn (fun z => z hcb)), ← ew, hlt]; rfl
          refine ⟨_, rfl, Or.inr ⟨rfl, _, hle, ⟨⟨?_, ?_, ?_, ?_, ?_, ?_, ?_, ?_, ?_, ?_, ?_, ?_, fun j hj => absurd hj (Nat.not_lt_zero _)⟩, ?_⟩, ?_⟩⟩
          · simp [eU35, eU34, eU33, eU30, eU28, uM_at]
          · simp [eU35, eU34, eU33, eU30, eU28, uM_at]
          · simp [eU35, eU34, eU33, eU30, eU28, uM_at]
          · simp [eU35, eU34, eU33, eU30, eU28, uM_at] <;> rfl
          · simp [eU35, eU34, eU33, eU30, eU28, uM_at] <;> rfl
          · simp [eU35, eU34, eU33, eU30, eU28, uM_at] <;> rfl
          · simp [eU35, eU34, eU33, eU30, eU28, uM_at]
          · simp [eU35, eU34, eU33, eU30, eU28, uM_at, w8]
          · simp [eU35, eU34, eU33, eU30, eU28, uM_at, w9]
          · simp [eU35, eU34, eU33, eU30, eU28, uM_at, w10]
          · simp [eU35, eU34, eU33, eU30, eU28, uM_at, w11]
          · simp [eU35, eU34, eU33, eU30, eU28, uM_at, w12]
          · exact w14.ag (fun b j q => by rw [eU35, uM_na (by omega), uM_na (by omega), uM_na (by omega), eU34, uM_na (by omega), eU33, uM_na (by omega), eU30, uM_na (by omega), eU28, uM_na (by omega)])
          · exact fun a j p1 p2 p3 p4 p5 => by rw [eU35, uM_na p4, uM_na p4, uM_na p4, eU34, uM_na p4, eU33, uM_na p4, eU30, uM_na p4, eU28, uM_na p4]; exact hfF a j p1 p2 p3 p4 p5
        · refine x_iconst (v := 0) dX6_takesKind_77 (by decide) ?_
          refine x_goto 91 dX6_takesKind_78 (by decide) ?_
          refine x_topi (y := nI (rNd nx)) (by rw [show rNd nx = 0 from if_pos (Or.inl (by assumption))]; rfl) ?_
          refine x_putI fp_X6_26 rfl rfl dX6_takesKind_91 ?_
          obtain ⟨U37, eU37⟩ : ∃ v_v : vM, v_v = uM U30 37 3 (nI (rNd nx)) := ⟨_, rfl⟩
          refine YY.V eU37.symm ?_
          refine x_aload_n dX6_takesKind_94 2 rfl ?_
          refine x_iconst (v := 0) dX6_takesKind_95 (by decide) ?_
          refine x_putI fp_X6_29 rfl rfl dX6_takesKind_96 ?_
          obtain ⟨U38, eU38⟩ : ∃ v_v : vM, v_v = uM U37 37 4 0 := ⟨_, rfl⟩
          refine YY.V eU38.symm ?_
          refine x_aload_n dX6_takesKind_99 2 rfl ?_
          refine x_callV (K := jX6_beginNumber) [] lk_X6_47 ⟨⟨rfl, rfl⟩, Nat.le_of_ble_eq_true rfl, Nat.le_of_ble_eq_true rfl⟩ rfl rfl (mX6_beginNumber U38) rfl (Nat.le_of_ble_eq_true rfl) rfl dX6_takesKind_100 (kdV ?_)
          obtain ⟨U39, eU39⟩ : ∃ v_v : vM, v_v = uM (uM (uM U38 37 5 0) 37 6 0) 37 7 0 := ⟨_, rfl⟩
          refine YY.V eU39.symm ?_
          refine x_iconst (v := 1) dX6_takesKind_103 (by decide) ?_
          refine x_zret dX6_takesKind_104 rfl (by exact nar01 (by first | exact Or.inl rfl | exact Or.inr rfl | grind)) ?_
          rw [hQ]
          have hle : rLe ch ((k, sm, ng), (c, v, d, cm), (x, y, sx, sy), X, O) = some ((nx, 1, 0), (0, 0, 0, wm), (wx, wy, wsx, wsy), wX, wO) := by unfold rLe; rw [if_neg (fun q => q.elim hnn (fun z => z hcb)), ← ew, hlt]; rfl
          refine ⟨_, rfl, Or.inr ⟨rfl, _, hle, ⟨⟨?_, ?_, ?_, ?_, ?_, ?_, ?_, ?_, ?_, ?_, ?_, ?_, fun j hj => absurd hj (Nat.not_lt_zero _)⟩, ?_⟩, ?_⟩⟩
          · simp [eU39, eU38, eU37, eU30, eU28, uM_at]
          · simp [eU39, eU38, eU37, eU30, eU28, uM_at]
          · simp [eU39, eU38, eU37, eU30, eU28, uM_at]
          · simp [eU39, eU38, eU37, eU30, eU28, uM_at] <;> rfl
          · simp [eU39, eU38, eU37, eU30, eU28, uM_at] <;> rfl
          · simp [eU39, eU38, eU37, eU30, eU28, uM_at] <;> rfl
          · simp [eU39, eU38, eU37, eU30, eU28, uM_at]
          · simp [eU39, eU38, eU37, eU30, eU28, uM_at, w8]
          · simp [eU39, eU38, eU37, eU30, eU28, uM_at, w9]
          · simp [eU39, eU38, eU37, eU30, eU28, uM_at, w10]
          · simp [eU39, eU38, eU37, eU30, eU28, uM_at, w11]
          · simp [eU39, eU38, eU37, eU30, eU28, uM_at, w12]
          · exact w14.ag (fun b j q => by rw [eU39, uM_na (by omega), uM_na (by omega), uM_na (by omega), eU38, uM_na (by omega), eU37, uM_na (by omega), eU30, uM_na (by omega), eU28, uM_na (by omega)])
          · exact fun a j p1 p2 p3 p4 p5 => by rw [eU39, uM_na p4, uM_na p4, uM_na p4, eU38, uM_na p4, eU37, uM_na p4, eU30, uM_na p4, eU28, uM_na p4]; exact hfF a j p1 p2 p3 p4 p5
      · have c25n : ¬ (rCb (ixS 1 ch) ((k, sm, ng), (c, v, d, cm), (x, y, sx, sy), X, O)) := bP_0.mp c25
        refine x_iconst (v := 0) dX6_takesKind_50 (by decide) ?_
        refine x_zret dX6_takesKind_51 rfl (by exact nar01 (by first | exact Or.inl rfl | exact Or.inr rfl | grind)) ?_
        rw [hQ]
        have hlt : rLt ch = (ixS 1 ch, 1) := by unfold rLt; rw [if_pos (Int32.not_le.mp (by assumption))]
        exact ⟨_, rfl, Or.inl ⟨rfl, by unfold rLe; rw [if_pos (by rw [hlt]; first | exact Or.inl (by assumption) | exact Or.inr (by assumption))], rfl⟩⟩
theorem rSt_d {ch : Int32} {s : RSt} (h : 48 ≤ ch ∧ ch ≤ 57) : rSt ch s = rDg (ch - 48).toNatClampNeg s := if_pos h
theorem rSt_m {ch : Int32} {s : RSt} (h : ch = 45) : rSt ch s = rMi s := by
  unfold rSt; rw [if_neg (by rw [h]; decide), if_pos h]
theorem rSt_c {ch : Int32} {s : RSt} (h : ch = 44) : rSt ch s = rCo s := by
  unfold rSt; rw [if_neg (by rw [h]; decide), if_neg (by rw [h]; decide), if_pos h]
theorem rSt_l {ch : Int32} {s : RSt} (h : ¬ (48 ≤ ch ∧ ch ≤ 57)) (h1 : ¬ ch = 45) (h2 : ¬ ch = 44) : rSt ch s = rLe ch s := by
  unfold rSt; rw [if_neg h, if_neg h1, if_neg h2]
theorem dig_ex {ch : Int32} (h : 48 ≤ ch ∧ ch ≤ 57) : ∃ dv, ch - 48 = nI dv ∧ dv ≤ 9 := by
  have h0 := Int32.le_iff_toInt_le.mp h.1
  have h1 := Int32.le_iff_toInt_le.mp h.2
  rw [show (48 : Int32).toInt = 48 from rfl] at h0
  rw [show (57 : Int32).toInt = 57 from rfl] at h1
  refine ⟨(ch.toInt - 48).toNat, Int32.toInt_inj.mp ?_, by omega⟩
  rw [fb_subI (by rw [show (48 : Int32).toInt = 48 from rfl]; omega) (by rw [show (48 : Int32).toInt = 48 from rfl]; omega), nI_toInt (by omega), show (48 : Int32).toInt = 48 from rfl]
  omega
set_option maxHeartbeats 1000000 in
set_option maxRecDepth 100000 in
theorem mX6_takes {g : gX} {V : vM} {k sm ng : Int32} {c v d cm : Nat} {x y sx sy : Int32} {X O : Nat → Int32} {i : Nat} (hI : RI i ((k, sm, ng), (c, v, d, cm), (x, y, sx, sy), X, O)) (hi : i ≤ 120) (hR : RC V ((k, sm, ng), (c, v, d, cm), (x, y, sx, sy), X, O)) (ch : Int32) (hch : 0 ≤ ch ∧ ch ≤ 127) : MM g jX6_takes V [.ref (g.2.1 37), .int ch, .ref (g.2.1 2)] (eI (TK V (rSt ch ((k, sm, ng), (c, v, d, cm), (x, y, sx, sy), X, O)))) := by
  refine MM.of plX6_takes (Nat.le_of_ble_eq_true rfl) ?_
  obtain ⟨Q, hQ⟩ : ∃ Q : Option Value → vM → Prop, Q = (eI (TK V (rSt ch ((k, sm, ng), (c, v, d, cm), (x, y, sx, sy), X, O)))) := ⟨_, rfl⟩
  rw [← hQ]
  show XX g jX6_takes Q V 0 [(0, .ref (g.2.1 37)), (1, .int ch), (2, .ref (g.2.1 2))] []
  refine x_iload_n dX6_takes_0 1 rfl ?_
  refine x_bipush (v := 48) dX6_takes_1 (by decide) ?_
  refine x_icmp_lt 21 dX6_takes_3 (by decide) (fun c1 => ?_) (fun c1 => ?_)
  · refine x_iload_n dX6_takes_21 1 rfl ?_
    refine x_bipush (v := 45) dX6_takes_22 (by decide) ?_
    refine x_icmp_ne 32 dX6_takes_24 (by decide) (fun c2 => ?_) (fun c2 => ?_)
    · refine x_iload_n dX6_takes_32 1 rfl ?_
      refine x_bipush (v := 44) dX6_takes_33 (by decide) ?_
      refine x_icmp_ne 43 dX6_takes_35 (by decide) (fun c3 => ?_) (fun c3 => ?_)
      · refine x_aload_n dX6_takes_43 0 rfl ?_
        refine x_iload_n dX6_takes_44 1 rfl ?_
        refine x_aload_n dX6_takes_45 2 rfl ?_
        refine x_callV (K := jX6_takesKind) [.int ch, .ref (g.2.1 2)] lk_X6_70 ⟨⟨rfl, rfl⟩, Nat.le_of_ble_eq_true rfl, Nat.le_of_ble_eq_true rfl⟩ rfl rfl (mX6_takesKind hI hi hR ch hch) rfl (Nat.le_of_ble_eq_true rfl) rfl dX6_takes_46 (keI fun r6 U4 hU5 => ?_)
        refine x_zret dX6_takes_49 rfl (by exact nar01 (TK01 hU5)) ?_
        rw [hQ]
        refine ⟨_, rfl, ?_⟩
        rw [rSt_l (fun q => by first | exact absurd q.1 (Int32.not_le.mpr (by assumption)) | exact absurd q.2 (Int32.not_le.mpr (by assumption))) (by assumption) (by assumption)]
        exact hU5
      · refine x_aload_n dX6_takes_38 0 rfl ?_
        refine x_callV (K := jX6_takesComma) [] lk_X6_67 ⟨⟨rfl, rfl⟩, Nat.le_of_ble_eq_true rfl, Nat.le_of_ble_eq_true rfl⟩ rfl rfl (mX6_takesComma hI hi hR) rfl (Nat.le_of_ble_eq_true rfl) rfl dX6_takes_39 (keI fun r10 U8 hU9 => ?_)
        refine x_zret dX6_takes_42 rfl (by exact nar01 (TK01 hU9)) ?_
        rw [hQ]
        refine ⟨_, rfl, ?_⟩
        rw [rSt_c (by assumption)]
        exact hU9
    · refine x_aload_n dX6_takes_27 0 rfl ?_
      refine x_callV (K := jX6_takesMinus) [] lk_X6_63 ⟨⟨rfl, rfl⟩, Nat.le_of_ble_eq_true rfl, Nat.le_of_ble_eq_true rfl⟩ rfl rfl (mX6_takesMinus hI hi hR) rfl (Nat.le_of_ble_eq_true rfl) rfl dX6_takes_28 (keI fun r14 U12 hU13 => ?_)
      refine x_zret dX6_takes_31 rfl (by exact nar01 (TK01 hU13)) ?_
      rw [hQ]
      refine ⟨_, rfl, ?_⟩
      rw [rSt_m (by assumption)]
      exact hU13
  · refine x_iload_n dX6_takes_6 1 rfl ?_
    refine x_bipush (v := 57) dX6_takes_7 (by decide) ?_
    refine x_icmp_gt 21 dX6_takes_9 (by decide) (fun c16 => ?_) (fun c16 => ?_)
    · refine x_iload_n dX6_takes_21 1 rfl ?_
      refine x_bipush (v := 45) dX6_takes_22 (by decide) ?_
      refine x_icmp_ne 32 dX6_takes_24 (by decide) (fun c17 => ?_) (fun c17 => ?_)
      · refine x_iload_n dX6_takes_32 1 rfl ?_
        refine x_bipush (v := 44) dX6_takes_33 (by decide) ?_
        refine x_icmp_ne 43 dX6_takes_35 (by decide) (fun c18 => ?_) (fun c18 => ?_)
        · refine x_aload_n dX6_takes_43 0 rfl ?_
          refine x_iload_n dX6_takes_44 1 rfl ?_
          refine x_aload_n dX6_takes_45 2 rfl ?_
          refine x_callV (K := jX6_takesKind) [.int ch, .ref (g.2.1 2)] lk_X6_70 ⟨⟨rfl, rfl⟩, Nat.le_of_ble_eq_true rfl, Nat.le_of_ble_eq_true rfl⟩ rfl rfl (mX6_takesKind hI hi hR ch hch) rfl (Nat.le_of_ble_eq_true rfl) rfl dX6_takes_46 (keI fun r21 U19 hU20 => ?_)
          refine x_zret dX6_takes_49 rfl (by exact nar01 (TK01 hU20)) ?_
          rw [hQ]
          refine ⟨_, rfl, ?_⟩
          rw [rSt_l (fun q => by first | exact absurd q.1 (Int32.not_le.mpr (by assumption)) | exact absurd q.2 (Int32.not_le.mpr (by assumption))) (by assumption) (by assumption)]
          exact hU20
        · refine x_aload_n dX6_takes_38 0 rfl ?_
          refine x_callV (K := jX6_takesComma) [] lk_X6_67 ⟨⟨rfl, rfl⟩, Nat.le_of_ble_eq_true rfl, Nat.le_of_ble_eq_true rfl⟩ rfl rfl (mX6_takesComma hI hi hR) rfl (Nat.le_of_ble_eq_true rfl) rfl dX6_takes_39 (keI fun r25 U23 hU24 => ?_)
          refine x_zret dX6_takes_42 rfl (by exact nar01 (TK01 hU24)) ?_
          rw [hQ]
          refine ⟨_, rfl, ?_⟩
          rw [rSt_c (by assumption)]
          exact hU24
      · refine x_aload_n dX6_takes_27 0 rfl ?_
        refine x_callV (K := jX6_takesMinus) [] lk_X6_63 ⟨⟨rfl, rfl⟩, Nat.le_of_ble_eq_true rfl, Nat.le_of_ble_eq_true rfl⟩ rfl rfl (mX6_takesMinus hI hi hR) rfl (Nat.le_of_ble_eq_true rfl) rfl dX6_takes_28 (keI fun r29 U27 hU28 => ?_)
        refine x_zret dX6_takes_31 rfl (by exact nar01 (TK01 hU28)) ?_
        rw [hQ]
        refine ⟨_, rfl, ?_⟩
        rw [rSt_m (by assumption)]
        exact hU28
    · refine x_aload_n dX6_takes_12 0 rfl ?_
      refine x_iload_n dX6_takes_13 1 rfl ?_
      refine x_bipush (v := 48) dX6_takes_14 (by decide) ?_
      refine x_isub dX6_takes_16 ?_
      have h57 : ch ≤ 57 := Int32.not_lt.mp (by assumption)
      have h48 : 48 ≤ ch := Int32.not_lt.mp (by assumption)
      obtain ⟨dv, edv, hdv⟩ := dig_ex ⟨h48, h57⟩
      refine x_topi (y := nI dv) edv ?_
      refine x_callV (K := jX6_takesDigit) [.int (nI dv)] lk_X6_59 ⟨⟨rfl, rfl⟩, Nat.le_of_ble_eq_true rfl, Nat.le_of_ble_eq_true rfl⟩ rfl rfl (mX6_takesDigit hI hi hR dv hdv) rfl (Nat.le_of_ble_eq_true rfl) rfl dX6_takes_17 (keI fun r33 U31 hU32 => ?_)
      refine x_zret dX6_takes_20 rfl (by exact nar01 (TK01 hU32)) ?_
      rw [hQ]
      refine ⟨_, rfl, ?_⟩
      rw [rSt_d ⟨by assumption, by assumption⟩]
      rw [edv, nI_clamp (by omega)]
      exact hU32
