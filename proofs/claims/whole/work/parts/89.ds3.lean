/-- the model's row of dashes -/
def DMr (V : vM) (D : List (Int × Int)) : Prop := ∀ i, i < D.length → i < 1000 → (V 70 (2 * i)).toInt = (D.getD i (0, 0)).1 ∧ (V 70 (2 * i + 1)).toInt = (D.getD i (0, 0)).2
theorem DMr.eqL {V : vM} {A B : List (Int × Int)} (h : DMr V A) (e : eqL A B) : DMr V B := fun i h1 h2 => by
  have := e.1
  rw [← e.2 i h1 (by omega)]
  exact h i (by omega) h2
theorem DMr.more {V : vM} {D : List (Int × Int)} (h : DMr V D) (hl : 1000 ≤ D.length) (a : Int × Int) : DMr V (D ++ [a]) := fun i h1 h2 => by
  rw [getD_old (by omega)]
  exact h i (by omega) h2
theorem DMr.put {V U : vM} {D : List (Int × Int)} (h : DMr V D) {x y : Int32} {a b : Int} (hx : x.toInt = a) (hy : y.toInt = b) (e : U = uM (uM V 70 (2 * D.length) x) 70 (2 * D.length + 1) y) : DMr U (D ++ [(a, b)]) := fun i h1 h2 => by
  rw [List.length_append, List.length_singleton] at h1
  rw [e]
  by_cases q : i = D.length
  · subst q
    rw [getD_last, uM_ni (by omega), uM_hit, uM_hit]
    exact ⟨hx, hy⟩
  · rw [getD_old (by omega), uM_ni (by omega), uM_ni (by omega), uM_ni (by omega), uM_ni (by omega)]
    exact h i (by omega) h2
def fr70 (V U : vM) : Prop := ∀ a i, a ≠ 70 → U a i = V a i
theorem fr70.refl (V : vM) : fr70 V V := fun _ _ _ => rfl
theorem fr70.st {V U U' : vM} (h : fr70 V U) {i : Nat} {x : Int32} (e : U' = uM U 70 i x) : fr70 V U' := by
  intro b j h1
  rw [e, uM_na h1]
  exact h b j h1
theorem fr70.N {V U : vM} (h : fr70 V U) : frN V U := fun a i p _ => h a i (by omega)
/-- the pattern on the model's side -/
def DCm (V : vM) (n ph : Nat) (d : Nat → Nat) : Prop := V 49 6 = nI n ∧ n ≤ 6 ∧ V 49 7 = nI ph ∧ ph ≤ 100000 ∧ (∀ i, i < n → V 54 i = nI (d i)) ∧ ∀ i, i < n → 1 ≤ d i ∧ d i ≤ 100000
theorem DCm.ag {V U : vM} {n ph : Nat} {d : Nat → Nat} (h : DCm V n ph d) (q : frN V U) : DCm U n ph d :=
  ⟨by rw [q 49 6 (by omega) (by omega)]; exact h.1, h.2.1, by rw [q 49 7 (by omega) (by omega)]; exact h.2.2.1, h.2.2.2.1, fun i hi => by rw [q 54 i (by omega) (by omega)]; exact h.2.2.2.2.1 i hi, h.2.2.2.2.2⟩
theorem dsL_no {ph : Nat} {d : Nat → Nat} {n : Nat} {L : Int} {k : Nat} (h : k % 2 = 0) (c : ¬ mxZ (dsE ph d n k) < mnZ L (dsE ph d n (k + 1))) : dsL ph d n L (k + 1) = dsL ph d n L k := by
  rw [dsL_ev h, if_neg c, List.append_nil]
theorem dsL_ys {ph : Nat} {d : Nat → Nat} {n : Nat} {L : Int} {k : Nat} (h : k % 2 = 0) (c : mxZ (dsE ph d n k) < mnZ L (dsE ph d n (k + 1))) : dsL ph d n L (k + 1) = dsL ph d n L k ++ [(mxZ (dsE ph d n k), mnZ L (dsE ph d n (k + 1)))] := by
  rw [dsL_ev h, if_pos c]
/-- the answer of dash -/
def dsR (D : List (Int × Int)) (x what : Int32) : Int32 := if 1000 < D.length then -1000004 else if x = -1 then nI D.length else if 0 ≤ x ∧ x < nI D.length then Int32.ofInt (if what = 0 then (D.getD x.toNatClampNeg (0, 0)).1 else (D.getD x.toNatClampNeg (0, 0)).2) else -1000006
def dsZ (S : FS) (fb : Nat → Nat) (n ph : Nat) (d : Nat → Nat) (c x what : Int32) : Int32 := if 0 ≤ c ∧ c < nI S.2.1 then (if 0 ≤ what ∧ what ≤ 1 then (if n = 0 ∨ ¬ n % 2 = 0 then -1000005 else dsR (dsA ph d n (S.2.2 2 (fb (c.toNatClampNeg + 1) - 1)).toInt) x what) else -1000002) else -1000001
section
variable {S : FS} {fb : Nat → Nat} {n ph : Nat} {d : Nat → Nat} {c x what : Int32}
theorem dsZ_no (h : ¬ (0 ≤ c ∧ c < nI S.2.1)) : dsZ S fb n ph d c x what = -1000001 := if_neg h
theorem dsZ_w (h : 0 ≤ c ∧ c < nI S.2.1) (h2 : ¬ (0 ≤ what ∧ what ≤ 1)) : dsZ S fb n ph d c x what = -1000002 := by
  unfold dsZ; rw [if_pos h, if_neg h2]
theorem dsZ_n (h : 0 ≤ c ∧ c < nI S.2.1) (h2 : 0 ≤ what ∧ what ≤ 1) (h3 : n = 0 ∨ ¬ n % 2 = 0) : dsZ S fb n ph d c x what = -1000005 := by
  unfold dsZ; rw [if_pos h, if_pos h2, if_pos h3]
theorem dsZ_k {k : Nat} (h24 : S.2.1 ≤ 24) (hk : c = nI k) (hS : k < S.2.1) (h2 : 0 ≤ what ∧ what ≤ 1) (h3 : ¬ (n = 0 ∨ ¬ n % 2 = 0)) : dsZ S fb n ph d c x what = dsR (dsA ph d n (S.2.2 2 (fb (k + 1) - 1)).toInt) x what := by
  unfold dsZ
  rw [hk, if_pos (nI_bt (by omega) hS), if_pos h2, if_neg h3, nI_clamp (by omega)]
end
theorem dsR_m {D : List (Int × Int)} {x what : Int32} (h : 1000 < D.length) : dsR D x what = -1000004 := if_pos h
theorem dsR_1 {D : List (Int × Int)} {x what : Int32} (h : ¬ 1000 < D.length) (hx : x = -1) : dsR D x what = nI D.length := by
  unfold dsR; rw [if_neg h, if_pos hx]
theorem dsR_o {D : List (Int × Int)} {x what : Int32} (h : ¬ 1000 < D.length) (hx : ¬ x = -1) (h2 : ¬ (0 ≤ x ∧ x < nI D.length)) : dsR D x what = -1000006 := by
  unfold dsR; rw [if_neg h, if_neg hx, if_neg h2]
theorem dsR_i {D : List (Int × Int)} {x what : Int32} {w : Nat} (h : ¬ 1000 < D.length) (hw : x = nI w) (hl : w < D.length) {z : Int32} (hz : z.toInt = if what = 0 then (D.getD w (0, 0)).1 else (D.getD w (0, 0)).2) : z = dsR D x what := by
  unfold dsR
  rw [if_neg h, if_neg (by rw [hw]; exact nI_nm1 (by omega)), hw, if_pos (nI_bt (by omega) hl), nI_clamp (by omega), ← hz, Int32.ofInt_toInt]
theorem len_b {S : FS} {N i : Nat} (hL : GL S N) (h15 : S.1 ≤ 1536) (hi : i < S.1) : 0 ≤ (S.2.2 2 i).toInt ∧ (S.2.2 2 i).toInt ≤ 300000000 := by
  obtain ⟨q, e, b⟩ := hL.d0 hi
  rw [e, nI_toInt (by omega)]
  omega
set_option maxHeartbeats 4000000 in
set_option maxRecDepth 100000 in
theorem mX10_layDashes {g : gX} (V : vM) (n ph : Nat) (d : Nat → Nat) (hD : DCm V n ph d) (h0 : 0 < n) (len : Int32) (hLb : len.toInt ≤ 300000000) : MM g jX10_layDashes V [.ref (g.2.1 49), .int len] (eI (fun z U => (∃ D, z = nI D.length ∧ eqL D (dsA ph d n len.toInt) ∧ D.length ≤ 1001) ∧ DMr U (dsA ph d n len.toInt) ∧ fr70 V U)) := by
  refine MM.of plX10_layDashes (Nat.le_of_ble_eq_true rfl) ?_
  obtain ⟨Q, hQ⟩ : ∃ Q : Option Value → vM → Prop, Q = (eI (fun z U => (∃ D, z = nI D.length ∧ eqL D (dsA ph d n len.toInt) ∧ D.length ≤ 1001) ∧ DMr U (dsA ph d n len.toInt) ∧ fr70 V U)) := ⟨_, rfl⟩
  rw [← hQ]
  show XX g jX10_layDashes Q V 0 [(0, .ref (g.2.1 49)), (1, .int len)] []
  have hd := hD.2.2.2.2.2
  have hn6 := hD.2.1
  have hph := hD.2.2.2.1
  refine x_iconst (v := 0) dX10_layDashes_0 (by decide) ?_
  refine x_istore_n 2 [(2, .int 0), (0, .ref (g.2.1 49)), (1, .int len)] dX10_layDashes_1 rfl (by decide) rfl ?_
  refine x_aload_n dX10_layDashes_2 1 rfl ?_
  refine x_getI fl_X10_281 rfl rfl dX10_layDashes_3 ?_
  refine x_topi (hD.2.2.1) ?_
  refine x_ineg dX10_layDashes_6 ?_
  refine x_istore_n 3 [(3, .int (-(nI ph))), (2, .int 0), (0, .ref (g.2.1 49)), (1, .int len)] dX10_layDashes_7 rfl (by decide) rfl ?_
  refine x_iconst (v := 0) dX10_layDashes_8 (by decide) ?_
  refine x_istore 4 [(4, .int 0), (3, .int (-(nI ph))), (2, .int 0), (0, .ref (g.2.1 49)), (1, .int len)] dX10_layDashes_9 (by decide) rfl ?_
  obtain ⟨b0, eb0⟩ : ∃ z : Int32, z = -(nI ph) := ⟨_, rfl⟩
  refine YY.L (lv' := [(4, .int 0), (3, .int b0), (2, .int 0), (0, .ref (g.2.1 49)), (1, .int len)]) (by rw [eb0]) ?_
  have lp1 : ∀ (fu : Nat) (k : Nat) (b : Int32) (U : vM), ((dsL ph d n len.toInt k).length ≤ 1001) → (b.toInt = dsE ph d n k) → (DMr U (dsL ph d n len.toInt k)) → (fr70 V U) → ((len.toInt - dsE ph d n k).toNat) < fu → XX g jX10_layDashes Q U 11 [(4, .int (nI k)), (3, .int b), (2, .int (nI ((dsL ph d n len.toInt k).length))), (0, .ref (g.2.1 49)), (1, .int len)] [] := by
    intro fu
    induction fu with
    | zero => intro _ _ _ _ _ _ _ hmz; exact absurd hmz (Nat.not_lt_zero _)
    | succ fu ih =>
      intro k b U hk hb hDM hfU hmz
      refine x_iload_n dX10_layDashes_11 1 rfl ?_
      refine x_iload_n dX10_layDashes_12 4 rfl ?_
      refine x_icmp_ge 119 dX10_layDashes_13 (by decide) (fun c2 => ?_) (fun c2 => ?_)
      · refine x_iload_n dX10_layDashes_119 2 rfl ?_
        refine x_iret dX10_layDashes_120 rfl ?_
        rw [hQ]
        have hfin : dsF ph d n len.toInt k := by
          first
            | exact Or.inl (by rw [← hb]; exact Int32.le_iff_toInt_le.mp (by assumption))
            | exact Or.inr (by omega)
        have he := dsF_A h0 hd hfin
        exact ⟨_, rfl, ⟨_, rfl, he, hk⟩, hDM.eqL he, hfU⟩
      · refine x_iload_n dX10_layDashes_16 2 rfl ?_
        refine x_sipush (v := 1000) dX10_layDashes_17 (by decide) ?_
        refine x_icmp_gt 119 dX10_layDashes_20 (by decide) (fun c3 => ?_) (fun c3 => ?_)
        · have c3n : 1000 < (dsL ph d n len.toInt k).length := (nl_lt (a := 1000) (b := (dsL ph d n len.toInt k).length) (rfl) (rfl) (by omega) (by omega)).mp c3
          refine x_iload_n dX10_layDashes_119 2 rfl ?_
          refine x_iret dX10_layDashes_120 rfl ?_
          rw [hQ]
          have hfin : dsF ph d n len.toInt k := by
            first
              | exact Or.inl (by rw [← hb]; exact Int32.le_iff_toInt_le.mp (by assumption))
              | exact Or.inr (by omega)
          have he := dsF_A h0 hd hfin
          exact ⟨_, rfl, ⟨_, rfl, he, hk⟩, hDM.eqL he, hfU⟩
        · have c3n : (dsL ph d n len.toInt k).length ≤ 1000 := Nat.not_lt.mp (fun q => c3 ((nl_lt (a := 1000) (b := (dsL ph d n len.toInt k).length) (rfl) (rfl) (by omega) (by omega)).mpr q))
          refine x_iload_n dX10_layDashes_23 1 rfl ?_
          refine x_aload_n dX10_layDashes_24 3 rfl ?_
          refine x_getR fl_X10_23 rfl rfl dX10_layDashes_25 ?_
          refine x_iload dX10_layDashes_28 0 rfl ?_
          refine x_aload_n dX10_layDashes_30 3 rfl ?_
          refine x_getI fl_X10_278 rfl rfl dX10_layDashes_31 ?_
          refine x_topi ((hfU 49 6 (by decide)).trans hD.1) ?_
          have nz4 : ¬ (nI n : Int32) = 0 := by exact nI_ne (b := 0) (by omega) (by omega) (by omega)
          refine x_irem dX10_layDashes_34 nz4 ?_
          have hkn := Nat.mod_lt k h0
          have hbl : dsE ph d n k < len.toInt := by rw [← hb]; exact Int32.lt_iff_toInt_lt.mp (Int32.not_le.mp (by assumption))
          have hbg := dsT_b h0 hd k 0
          rw [Nat.zero_add, dsT, Nat.zero_add] at hbg
          have hkE : -100000 + (k : Int) ≤ dsE ph d n k := by unfold dsE; omega
          refine YY.S (st' := [.int (nI (k % n)), .ref (g.2.1 54), .int b]) (by rw [nI_mod (by omega) (by omega) h0]) ?_
          have b5 : vp_in (nI (k % n)) 6 := by exact vp_in_nI (by omega) (by decide)
          refine x_iald rfl b5 dX10_layDashes_35 ?_
          refine x_topi (y := U 54 (k % n)) (by rw [nI_clamp (by omega)]) ?_
          refine x_topi ((hfU 54 (k % n) (by decide)).trans (hD.2.2.2.2.1 (k % n) hkn)) ?_
          refine x_iadd dX10_layDashes_36 ?_
          obtain ⟨x1, ex1⟩ : ∃ z : Int32, z = b + nI (d (k % n)) := ⟨_, rfl⟩
          have hdi := hd (k % n) hkn
          have hx1 : x1.toInt = dsE ph d n (k + 1) := by rw [ex1, add_i hb (by omega) (by omega) (by omega), dsE_s]
          refine x_topi (y := x1) ex1.symm ?_
          have hmx := mx_i hb
          have hmn := mn_i hx1 (rfl : len.toInt = len.toInt)
          have hcm : (if b < 0 then 0 else b) < (if len < x1 then len else x1) ↔ mxZ (dsE ph d n k) < mnZ len.toInt (dsE ph d n (k + 1)) := by rw [Int32.lt_iff_toInt_lt, hmx, hmn]
          refine x_istore 5 [(5, .int x1), (4, .int (nI k)), (3, .int b), (2, .int (nI ((dsL ph d n len.toInt k).length))), (0, .ref (g.2.1 49)), (1, .int len)] dX10_layDashes_37 (by decide) rfl ?_
          refine x_iload_n dX10_layDashes_39 2 rfl ?_
          refine x_if_ge 47 dX10_layDashes_40 (by decide) (fun c6 => ?_) (fun c6 => ?_)
          · refine x_iload_n dX10_layDashes_47 2 rfl ?_
            refine x_topi (y := if b < 0 then 0 else b) (if_neg (Int32.not_lt.mpr (by assumption))).symm ?_
            refine x_istore 6 [(6, .int (if b < 0 then 0 else b)), (5, .int x1), (4, .int (nI k)), (3, .int b), (2, .int (nI ((dsL ph d n len.toInt k).length))), (0, .ref (g.2.1 49)), (1, .int len)] dX10_layDashes_48 (by decide) rfl ?_
            refine x_iload dX10_layDashes_50 1 rfl ?_
            refine x_iload_n dX10_layDashes_52 6 rfl ?_
            refine x_icmp_le 60 dX10_layDashes_53 (by decide) (fun c7 => ?_) (fun c7 => ?_)
            · refine x_iload dX10_layDashes_60 1 rfl ?_
              refine x_topi (y := if len < x1 then len else x1) (if_neg (Int32.not_lt.mpr (by assumption))).symm ?_
              refine x_istore 7 [(7, .int (if len < x1 then len else x1)), (6, .int (if b < 0 then 0 else b)), (5, .int x1), (4, .int (nI k)), (3, .int b), (2, .int (nI ((dsL ph d n len.toInt k).length))), (0, .ref (g.2.1 49)), (1, .int len)] dX10_layDashes_62 (by decide) rfl ?_
              refine x_iload dX10_layDashes_64 3 rfl ?_
              refine x_iconst (v := 2) dX10_layDashes_66 (by decide) ?_
              have nz8 : ¬ (2 : Int32) = 0 := by decide
              refine x_irem dX10_layDashes_67 nz8 ?_
              refine YY.S (st' := [.int (nI (k % 2))]) (by rw [show (2 : Int32) = nI 2 from rfl, nI_mod (by omega) (by omega) (by omega)]) ?_
              refine x_if_ne 110 dX10_layDashes_68 (by decide) (fun c9 => ?_) (fun c9 => ?_)
              · have c9n : ¬ k % 2 = 0 := fun q => c9 ((nl_eq (a := k % 2) (b := 0) (rfl) (rfl) (by omega) (by omega)).mpr q)
                refine x_iload dX10_layDashes_110 2 rfl ?_
                refine x_istore_n 3 [(3, .int x1), (7, .int (if len < x1 then len else x1)), (6, .int (if b < 0 then 0 else b)), (5, .int x1), (4, .int (nI k)), (2, .int (nI ((dsL ph d n len.toInt k).length))), (0, .ref (g.2.1 49)), (1, .int len)] dX10_layDashes_112 rfl (by decide) rfl ?_
                refine x_iinc 4 (v := (nI k) + 1) 4 [(4, .int ((nI k) + 1)), (3, .int x1), (7, .int (if len < x1 then len else x1)), (6, .int (if b < 0 then 0 else b)), (5, .int x1), (2, .int (nI ((dsL ph d n len.toInt k).length))), (0, .ref (g.2.1 49)), (1, .int len)] dX10_layDashes_113 rfl (by rfl) (by decide) rfl ?_
                refine x_goto 11 dX10_layDashes_116 (by decide) ?_
                refine x_lv [0, 1, 5, 6, 7] rfl ?_
                refine YY.L (lv' := [(4, .int (nI (k + 1))), (3, .int x1), (2, .int (nI ((dsL ph d n len.toInt (k + 1)).length))), (0, .ref (g.2.1 49)), (1, .int len)]) (by rw [nI_1, show dsL ph d n len.toInt (k + 1) = dsL ph d n len.toInt k from (by first | exact dsL_od (by omega) | exact dsL_no (by omega) (fun q => absurd (hcm.mpr q) (Int32.not_lt.mpr (by assumption))))] <;> rfl) ?_
                exact ih (k + 1) x1 U (by rw [show dsL ph d n len.toInt (k + 1) = dsL ph d n len.toInt k from (by first | exact dsL_od (by omega) | exact dsL_no (by omega) (fun q => absurd (hcm.mpr q) (Int32.not_lt.mpr (by assumption))))]; omega) (by exact hx1) (by rw [show dsL ph d n len.toInt (k + 1) = dsL ph d n len.toInt k from (by first | exact dsL_od (by omega) | exact dsL_no (by omega) (fun q => absurd (hcm.mpr q) (Int32.not_lt.mpr (by assumption))))]; exact hDM) (by exact hfU) (by have := dsE_s ph d n k; omega)
              · have c9n : k % 2 = 0 := (nl_eq (a := k % 2) (b := 0) (rfl) (rfl) (by omega) (by omega)).mp c9
                refine x_iload dX10_layDashes_71 1 rfl ?_
                refine x_iload dX10_layDashes_73 0 rfl ?_
                refine x_icmp_ge 110 dX10_layDashes_75 (by decide) (fun c10 => ?_) (fun c10 => ?_)
                · refine x_iload dX10_layDashes_110 2 rfl ?_
                  refine x_istore_n 3 [(3, .int x1), (7, .int (if len < x1 then len else x1)), (6, .int (if b < 0 then 0 else b)), (5, .int x1), (4, .int (nI k)), (2, .int (nI ((dsL ph d n len.toInt k).length))), (0, .ref (g.2.1 49)), (1, .int len)] dX10_layDashes_112 rfl (by decide) rfl ?_
                  refine x_iinc 4 (v := (nI k) + 1) 4 [(4, .int ((nI k) + 1)), (3, .int x1), (7, .int (if len < x1 then len else x1)), (6, .int (if b < 0 then 0 else b)), (5, .int x1), (2, .int (nI ((dsL ph d n len.toInt k).length))), (0, .ref (g.2.1 49)), (1, .int len)] dX10_layDashes_113 rfl (by rfl) (by decide) rfl ?_
                  refine x_goto 11 dX10_layDashes_116 (by decide) ?_
                  refine x_lv [0, 1, 5, 6, 7] rfl ?_
                  refine YY.L (lv' := [(4, .int (nI (k + 1))), (3, .int x1), (2, .int (nI ((dsL ph d n len.toInt (k + 1)).length))), (0, .ref (g.2.1 49)), (1, .int len)]) (by rw [nI_1, show dsL ph d n len.toInt (k + 1) = dsL ph d n len.toInt k from (by first | exact dsL_od (by omega) | exact dsL_no (by omega) (fun q => absurd (hcm.mpr q) (Int32.not_lt.mpr (by assumption))))] <;> rfl) ?_
                  exact ih (k + 1) x1 U (by rw [show dsL ph d n len.toInt (k + 1) = dsL ph d n len.toInt k from (by first | exact dsL_od (by omega) | exact dsL_no (by omega) (fun q => absurd (hcm.mpr q) (Int32.not_lt.mpr (by assumption))))]; omega) (by exact hx1) (by rw [show dsL ph d n len.toInt (k + 1) = dsL ph d n len.toInt k from (by first | exact dsL_od (by omega) | exact dsL_no (by omega) (fun q => absurd (hcm.mpr q) (Int32.not_lt.mpr (by assumption))))]; exact hDM) (by exact hfU) (by have := dsE_s ph d n k; omega)
                · refine x_iload_n dX10_layDashes_78 5 rfl ?_
                  refine x_sipush (v := 1000) dX10_layDashes_79 (by decide) ?_
                  refine x_icmp_ge 107 dX10_layDashes_82 (by decide) (fun c11 => ?_) (fun c11 => ?_)
                  · have c11n : 1000 ≤ (dsL ph d n len.toInt k).length := (nl_le (a := 1000) (b := (dsL ph d n len.toInt k).length) (rfl) (rfl) (by omega) (by omega)).mp c11
                    refine x_iinc 2 (v := (nI ((dsL ph d n len.toInt k).length)) + 1) 5 [(2, .int ((nI ((dsL ph d n len.toInt k).length)) + 1)), (7, .int (if len < x1 then len else x1)), (6, .int (if b < 0 then 0 else b)), (5, .int x1), (4, .int (nI k)), (3, .int b), (0, .ref (g.2.1 49)), (1, .int len)] dX10_layDashes_107 rfl (by rfl) (by decide) rfl ?_
                    refine x_iload dX10_layDashes_110 3 rfl ?_
                    refine x_istore_n 3 [(3, .int x1), (2, .int ((nI ((dsL ph d n len.toInt k).length)) + 1)), (7, .int (if len < x1 then len else x1)), (6, .int (if b < 0 then 0 else b)), (5, .int x1), (4, .int (nI k)), (0, .ref (g.2.1 49)), (1, .int len)] dX10_layDashes_112 rfl (by decide) rfl ?_
                    refine x_iinc 4 (v := (nI k) + 1) 5 [(4, .int ((nI k) + 1)), (3, .int x1), (2, .int ((nI ((dsL ph d n len.toInt k).length)) + 1)), (7, .int (if len < x1 then len else x1)), (6, .int (if b < 0 then 0 else b)), (5, .int x1), (0, .ref (g.2.1 49)), (1, .int len)] dX10_layDashes_113 rfl (by rfl) (by decide) rfl ?_
                    refine x_goto 11 dX10_layDashes_116 (by decide) ?_
                    refine x_lv [0, 1, 2, 6, 7] rfl ?_
                    refine YY.L (lv' := [(4, .int (nI (k + 1))), (3, .int x1), (2, .int (nI ((dsL ph d n len.toInt (k + 1)).length))), (0, .ref (g.2.1 49)), (1, .int len)]) (by rw [nI_1, nI_1, dsL_ys (by omega) (hcm.mp (Int32.not_le.mp (by assumption))), List.length_append, List.length_singleton] <;> rfl) ?_
                    exact ih (k + 1) x1 U (by rw [dsL_ys (by omega) (hcm.mp (Int32.not_le.mp (by assumption))), List.length_append, List.length_singleton]; omega) (by exact hx1) (by rw [dsL_ys (by omega) (hcm.mp (Int32.not_le.mp (by assumption)))]; exact hDM.more (by omega) _) (by exact hfU) (by have := dsE_s ph d n k; omega)
                  · have c11n : (dsL ph d n len.toInt k).length < 1000 := Nat.not_le.mp (fun q => c11 ((nl_le (a := 1000) (b := (dsL ph d n len.toInt k).length) (rfl) (rfl) (by omega) (by omega)).mpr q))
                    refine x_aload_n dX10_layDashes_85 6 rfl ?_
                    refine x_getR fl_X10_71 rfl rfl dX10_layDashes_86 ?_
                    refine x_iconst (v := 2) dX10_layDashes_89 (by decide) ?_
                    refine x_iload_n dX10_layDashes_90 5 rfl ?_
                    refine x_imul dX10_layDashes_91 ?_
                    refine x_iload dX10_layDashes_92 1 rfl ?_
                    have q12 : (2 * (nI ((dsL ph d n len.toInt k).length)) : Int32) = nI (2 * ((dsL ph d n len.toInt k).length)) := nmul (rfl) (rfl)
                    refine YY.S (st' := [.int (if b < 0 then 0 else b), .int (nI (2 * ((dsL ph d n len.toInt k).length))), .ref (g.2.1 70)]) (by rw [q12]) ?_
                    have b13 : vp_in (nI (2 * ((dsL ph d n len.toInt k).length))) 2000 := by exact vp_in_nI (by omega) (by decide)
                    refine x_iast rfl b13 dX10_layDashes_94 ?_
                    refine YY.V (V' := uM U 70 (2 * ((dsL ph d n len.toInt k).length)) (if b < 0 then 0 else b)) (by rw [nI_clamp (by omega)]) ?_
                    obtain ⟨U14, eU14⟩ : ∃ v_v : vM, v_v = uM U 70 (2 * ((dsL ph d n len.toInt k).length)) (if b < 0 then 0 else b) := ⟨_, rfl⟩
                    refine YY.V eU14.symm ?_
                    refine x_aload_n dX10_layDashes_95 6 rfl ?_
                    refine x_getR fl_X10_71 rfl rfl dX10_layDashes_96 ?_
                    refine x_iconst (v := 2) dX10_layDashes_99 (by decide) ?_
                    refine x_iload_n dX10_layDashes_100 5 rfl ?_
                    refine x_imul dX10_layDashes_101 ?_
                    refine x_iconst (v := 1) dX10_layDashes_102 (by decide) ?_
                    refine x_iadd dX10_layDashes_103 ?_
                    refine x_iload dX10_layDashes_104 0 rfl ?_
                    have q15 : ((2 * (nI ((dsL ph d n len.toInt k).length))) + 1 : Int32) = nI ((2 * ((dsL ph d n len.toInt k).length)) + 1) := nadd (nmul (rfl) (rfl)) (rfl)
                    refine YY.S (st' := [.int (if len < x1 then len else x1), .int (nI ((2 * ((dsL ph d n len.toInt k).length)) + 1)), .ref (g.2.1 70)]) (by rw [q15]) ?_
                    have b16 : vp_in (nI ((2 * ((dsL ph d n len.toInt k).length)) + 1)) 2000 := by exact vp_in_nI (by omega) (by decide)
                    refine x_iast rfl b16 dX10_layDashes_106 ?_
                    refine YY.V (V' := uM U14 70 ((2 * ((dsL ph d n len.toInt k).length)) + 1) (if len < x1 then len else x1)) (by rw [nI_clamp (by omega)]) ?_
                    obtain ⟨U17, eU17⟩ : ∃ v_v : vM, v_v = uM U14 70 ((2 * ((dsL ph d n len.toInt k).length)) + 1) (if len < x1 then len else x1) := ⟨_, rfl⟩
                    refine YY.V eU17.symm ?_
                    refine x_iinc 2 (v := (nI ((dsL ph d n len.toInt k).length)) + 1) 5 [(2, .int ((nI ((dsL ph d n len.toInt k).length)) + 1)), (7, .int (if len < x1 then len else x1)), (6, .int (if b < 0 then 0 else b)), (5, .int x1), (4, .int (nI k)), (3, .int b), (0, .ref (g.2.1 49)), (1, .int len)] dX10_layDashes_107 rfl (by rfl) (by decide) rfl ?_
                    refine x_iload dX10_layDashes_110 3 rfl ?_
                    refine x_istore_n 3 [(3, .int x1), (2, .int ((nI ((dsL ph d n len.toInt k).length)) + 1)), (7, .int (if len < x1 then len else x1)), (6, .int (if b < 0 then 0 else b)), (5, .int x1), (4, .int (nI k)), (0, .ref (g.2.1 49)), (1, .int len)] dX10_layDashes_112 rfl (by decide) rfl ?_
                    refine x_iinc 4 (v := (nI k) + 1) 5 [(4, .int ((nI k) + 1)), (3, .int x1), (2, .int ((nI ((dsL ph d n len.toInt k).length)) + 1)), (7, .int (if len < x1 then len else x1)), (6, .int (if b < 0 then 0 else b)), (5, .int x1), (0, .ref (g.2.1 49)), (1, .int len)] dX10_layDashes_113 rfl (by rfl) (by decide) rfl ?_
                    refine x_goto 11 dX10_layDashes_116 (by decide) ?_
                    refine x_lv [0, 1, 2, 6, 7] rfl ?_
                    refine YY.L (lv' := [(4, .int (nI (k + 1))), (3, .int x1), (2, .int (nI ((dsL ph d n len.toInt (k + 1)).length))), (0, .ref (g.2.1 49)), (1, .int len)]) (by rw [nI_1, nI_1, dsL_ys (by omega) (hcm.mp (Int32.not_le.mp (by assumption))), List.length_append, List.length_singleton] <;> rfl) ?_
                    exact ih (k + 1) x1 U17 (by rw [dsL_ys (by omega) (hcm.mp (Int32.not_le.mp (by assumption))), List.length_append, List.length_singleton]; omega) (by exact hx1) (by rw [dsL_ys (by omega) (hcm.mp (Int32.not_le.mp (by assumption)))]; exact hDM.put hmx hmn (by rw [eU17, eU14])) (by exact (hfU.st eU14).st eU17) (by have := dsE_s ph d n k; omega)
            · refine x_iload_n dX10_layDashes_56 6 rfl ?_
              refine x_goto 62 dX10_layDashes_57 (by decide) ?_
              refine x_topi (y := if len < x1 then len else x1) (if_pos (Int32.not_le.mp (by assumption))).symm ?_
              refine x_istore 7 [(7, .int (if len < x1 then len else x1)), (6, .int (if b < 0 then 0 else b)), (5, .int x1), (4, .int (nI k)), (3, .int b), (2, .int (nI ((dsL ph d n len.toInt k).length))), (0, .ref (g.2.1 49)), (1, .int len)] dX10_layDashes_62 (by decide) rfl ?_
              refine x_iload dX10_layDashes_64 3 rfl ?_
              refine x_iconst (v := 2) dX10_layDashes_66 (by decide) ?_
              have nz18 : ¬ (2 : Int32) = 0 := by decide
              refine x_irem dX10_layDashes_67 nz18 ?_
              refine YY.S (st' := [.int (nI (k % 2))]) (by rw [show (2 : Int32) = nI 2 from rfl, nI_mod (by omega) (by omega) (by omega)]) ?_
              refine x_if_ne 110 dX10_layDashes_68 (by decide) (fun c19 => ?_) (fun c19 => ?_)
              · have c19n : ¬ k % 2 = 0 := fun q => c19 ((nl_eq (a := k % 2) (b := 0) (rfl) (rfl) (by omega) (by omega)).mpr q)
                refine x_iload dX10_layDashes_110 2 rfl ?_
                refine x_istore_n 3 [(3, .int x1), (7, .int (if len < x1 then len else x1)), (6, .int (if b < 0 then 0 else b)), (5, .int x1), (4, .int (nI k)), (2, .int (nI ((dsL ph d n len.toInt k).length))), (0, .ref (g.2.1 49)), (1, .int len)] dX10_layDashes_112 rfl (by decide) rfl ?_
                refine x_iinc 4 (v := (nI k) + 1) 4 [(4, .int ((nI k) + 1)), (3, .int x1), (7, .int (if len < x1 then len else x1)), (6, .int (if b < 0 then 0 else b)), (5, .int x1), (2, .int (nI ((dsL ph d n len.toInt k).length))), (0, .ref (g.2.1 49)), (1, .int len)] dX10_layDashes_113 rfl (by rfl) (by decide) rfl ?_
                refine x_goto 11 dX10_layDashes_116 (by decide) ?_
                refine x_lv [0, 1, 5, 6, 7] rfl ?_
                refine YY.L (lv' := [(4, .int (nI (k + 1))), (3, .int x1), (2, .int (nI ((dsL ph d n len.toInt (k + 1)).length))), (0, .ref (g.2.1 49)), (1, .int len)]) (by rw [nI_1, show dsL ph d n len.toInt (k + 1) = dsL ph d n len.toInt k from (by first | exact dsL_od (by omega) | exact dsL_no (by omega) (fun q => absurd (hcm.mpr q) (Int32.not_lt.mpr (by assumption))))] <;> rfl) ?_
                exact ih (k + 1) x1 U (by rw [show dsL ph d n len.toInt (k + 1) = dsL ph d n len.toInt k from (by first | exact dsL_od (by omega) | exact dsL_no (by omega) (fun q => absurd (hcm.mpr q) (Int32.not_lt.mpr (by assumption))))]; omega) (by exact hx1) (by rw [show dsL ph d n len.toInt (k + 1) = dsL ph d n len.toInt k from (by first | exact dsL_od (by omega) | exact dsL_no (by omega) (fun q => absurd (hcm.mpr q) (Int32.not_lt.mpr (by assumption))))]; exact hDM) (by exact hfU) (by have := dsE_s ph d n k; omega)
              · have c19n : k % 2 = 0 := (nl_eq (a := k % 2) (b := 0) (rfl) (rfl) (by omega) (by omega)).mp c19
                refine x_iload dX10_layDashes_71 1 rfl ?_
                refine x_iload dX10_layDashes_73 0 rfl ?_
                refine x_icmp_ge 110 dX10_layDashes_75 (by decide) (fun c20 => ?_) (fun c20 => ?_)
                · refine x_iload dX10_layDashes_110 2 rfl ?_
                  refine x_istore_n 3 [(3, .int x1), (7, .int (if len < x1 then len else x1)), (6, .int (if b < 0 then 0 else b)), (5, .int x1), (4, .int (nI k)), (2, .int (nI ((dsL ph d n len.toInt k).length))), (0, .ref (g.2.1 49)), (1, .int len)] dX10_layDashes_112 rfl (by decide) rfl ?_
                  refine x_iinc 4 (v := (nI k) + 1) 4 [(4, .int ((nI k) + 1)), (3, .int x1), (7, .int (if len < x1 then len else x1)), (6, .int (if b < 0 then 0 else b)), (5, .int x1), (2, .int (nI ((dsL ph d n len.toInt k).length))), (0, .ref (g.2.1 49)), (1, .int len)] dX10_layDashes_113 rfl (by rfl) (by decide) rfl ?_
                  refine x_goto 11 dX10_layDashes_116 (by decide) ?_
                  refine x_lv [0, 1, 5, 6, 7] rfl ?_
                  refine YY.L (lv' := [(4, .int (nI (k + 1))), (3, .int x1), (2, .int (nI ((dsL ph d n len.toInt (k + 1)).length))), (0, .ref (g.2.1 49)), (1, .int len)]) (by rw [nI_1, show dsL ph d n len.toInt (k + 1) = dsL ph d n len.toInt k from (by first | exact dsL_od (by omega) | exact dsL_no (by omega) (fun q => absurd (hcm.mpr q) (Int32.not_lt.mpr (by assumption))))] <;> rfl) ?_
                  exact ih (k + 1) x1 U (by rw [show dsL ph d n len.toInt (k + 1) = dsL ph d n len.toInt k from (by first | exact dsL_od (by omega) | exact dsL_no (by omega) (fun q => absurd (hcm.mpr q) (Int32.not_lt.mpr (by assumption))))]; omega) (by exact hx1) (by rw [show dsL ph d n len.toInt (k + 1) = dsL ph d n len.toInt k from (by first | exact dsL_od (by omega) | exact dsL_no (by omega) (fun q => absurd (hcm.mpr q) (Int32.not_lt.mpr (by assumption))))]; exact hDM) (by exact hfU) (by have := dsE_s ph d n k; omega)
                · refine x_iload_n dX10_layDashes_78 5 rfl ?_
                  refine x_sipush (v := 1000) dX10_layDashes_79 (by decide) ?_
                  refine x_icmp_ge 107 dX10_layDashes_82 (by decide) (fun c21 => ?_) (fun c21 => ?_)
                  · have c21n : 1000 ≤ (dsL ph d n len.toInt k).length := (nl_le (a := 1000) (b := (dsL ph d n len.toInt k).length) (rfl) (rfl) (by omega) (by omega)).mp c21
                    refine x_iinc 2 (v := (nI ((dsL ph d n len.toInt k).length)) + 1) 5 [(2, .int ((nI ((dsL ph d n len.toInt k).length)) + 1)), (7, .int (if len < x1 then len else x1)), (6, .int (if b < 0 then 0 else b)), (5, .int x1), (4, .int (nI k)), (3, .int b), (0, .ref (g.2.1 49)), (1, .int len)] dX10_layDashes_107 rfl (by rfl) (by decide) rfl ?_
                    refine x_iload dX10_layDashes_110 3 rfl ?_
                    refine x_istore_n 3 [(3, .int x1), (2, .int ((nI ((dsL ph d n len.toInt k).length)) + 1)), (7, .int (if len < x1 then len else x1)), (6, .int (if b < 0 then 0 else b)), (5, .int x1), (4, .int (nI k)), (0, .ref (g.2.1 49)), (1, .int len)] dX10_layDashes_112 rfl (by decide) rfl ?_
                    refine x_iinc 4 (v := (nI k) + 1) 5 [(4, .int ((nI k) + 1)), (3, .int x1), (2, .int ((nI ((dsL ph d n len.toInt k).length)) + 1)), (7, .int (if len < x1 then len else x1)), (6, .int (if b < 0 then 0 else b)), (5, .int x1), (0, .ref (g.2.1 49)), (1, .int len)] dX10_layDashes_113 rfl (by rfl) (by decide) rfl ?_
                    refine x_goto 11 dX10_layDashes_116 (by decide) ?_
                    refine x_lv [0, 1, 2, 6, 7] rfl ?_
                    refine YY.L (lv' := [(4, .int (nI (k + 1))), (3, .int x1), (2, .int (nI ((dsL ph d n len.toInt (k + 1)).length))), (0, .ref (g.2.1 49)), (1, .int len)]) (by rw [nI_1, nI_1, dsL_ys (by omega) (hcm.mp (Int32.not_le.mp (by assumption))), List.length_append, List.length_singleton] <;> rfl) ?_
                    exact ih (k + 1) x1 U (by rw [dsL_ys (by omega) (hcm.mp (Int32.not_le.mp (by assumption))), List.length_append, List.length_singleton]; omega) (by exact hx1) (by rw [dsL_ys (by omega) (hcm.mp (Int32.not_le.mp (by assumption)))]; exact hDM.more (by omega) _) (by exact hfU) (by have := dsE_s ph d n k; omega)
                  · have c21n : (dsL ph d n len.toInt k).length < 1000 := Nat.not_le.mp (fun q => c21 ((nl_le (a := 1000) (b := (dsL ph d n len.toInt k).length) (rfl) (rfl) (by omega) (by omega)).mpr q))
                    refine x_aload_n dX10_layDashes_85 6 rfl ?_
                    refine x_getR fl_X10_71 rfl rfl dX10_layDashes_86 ?_
                    refine x_iconst (v := 2) dX10_layDashes_89 (by decide) ?_
                    refine x_iload_n dX10_layDashes_90 5 rfl ?_
                    refine x_imul dX10_layDashes_91 ?_
                    refine x_iload dX10_layDashes_92 1 rfl ?_
                    have q22 : (2 * (nI ((dsL ph d n len.toInt k).length)) : Int32) = nI (2 * ((dsL ph d n len.toInt k).length)) := nmul (rfl) (rfl)
                    refine YY.S (st' := [.int (if b < 0 then 0 else b), .int (nI (2 * ((dsL ph d n len.toInt k).length))), .ref (g.2.1 70)]) (by rw [q22]) ?_
                    have b23 : vp_in (nI (2 * ((dsL ph d n len.toInt k).length))) 2000 := by exact vp_in_nI (by omega) (by decide)
                    refine x_iast rfl b23 dX10_layDashes_94 ?_
                    refine YY.V (V' := uM U 70 (2 * ((dsL ph d n len.toInt k).length)) (if b < 0 then 0 else b)) (by rw [nI_clamp (by omega)]) ?_
                    obtain ⟨U24, eU24⟩ : ∃ v_v : vM, v_v = uM U 70 (2 * ((dsL ph d n len.toInt k).length)) (if b < 0 then 0 else b) := ⟨_, rfl⟩
                    refine YY.V eU24.symm ?_
                    refine x_aload_n dX10_layDashes_95 6 rfl ?_
                    refine x_getR fl_X10_71 rfl rfl dX10_layDashes_96 ?_
                    refine x_iconst (v := 2) dX10_layDashes_99 (by decide) ?_
                    refine x_iload_n dX10_layDashes_100 5 rfl ?_
                    refine x_imul dX10_layDashes_101 ?_
                    refine x_iconst (v := 1) dX10_layDashes_102 (by decide) ?_
                    refine x_iadd dX10_layDashes_103 ?_
                    refine x_iload dX10_layDashes_104 0 rfl ?_
                    have q25 : ((2 * (nI ((dsL ph d n len.toInt k).length))) + 1 : Int32) = nI ((2 * ((dsL ph d n len.toInt k).length)) + 1) := nadd (nmul (rfl) (rfl)) (rfl)
                    refine YY.S (st' := [.int (if len < x1 then len else x1), .int (nI ((2 * ((dsL ph d n len.toInt k).length)) + 1)), .ref (g.2.1 70)]) (by rw [q25]) ?_
                    have b26 : vp_in (nI ((2 * ((dsL ph d n len.toInt k).length)) + 1)) 2000 := by exact vp_in_nI (by omega) (by decide)
                    refine x_iast rfl b26 dX10_layDashes_106 ?_
                    refine YY.V (V' := uM U24 70 ((2 * ((dsL ph d n len.toInt k).length)) + 1) (if len < x1 then len else x1)) (by rw [nI_clamp (by omega)]) ?_
                    obtain ⟨U27, eU27⟩ : ∃ v_v : vM, v_v = uM U24 70 ((2 * ((dsL ph d n len.toInt k).length)) + 1) (if len < x1 then len else x1) := ⟨_, rfl⟩
                    refine YY.V eU27.symm ?_
                    refine x_iinc 2 (v := (nI ((dsL ph d n len.toInt k).length)) + 1) 5 [(2, .int ((nI ((dsL ph d n len.toInt k).length)) + 1)), (7, .int (if len < x1 then len else x1)), (6, .int (if b < 0 then 0 else b)), (5, .int x1), (4, .int (nI k)), (3, .int b), (0, .ref (g.2.1 49)), (1, .int len)] dX10_layDashes_107 rfl (by rfl) (by decide) rfl ?_
                    refine x_iload dX10_layDashes_110 3 rfl ?_
                    refine x_istore_n 3 [(3, .int x1), (2, .int ((nI ((dsL ph d n len.toInt k).length)) + 1)), (7, .int (if len < x1 then len else x1)), (6, .int (if b < 0 then 0 else b)), (5, .int x1), (4, .int (nI k)), (0, .ref (g.2.1 49)), (1, .int len)] dX10_layDashes_112 rfl (by decide) rfl ?_
                    refine x_iinc 4 (v := (nI k) + 1) 5 [(4, .int ((nI k) + 1)), (3, .int x1), (2, .int ((nI ((dsL ph d n len.toInt k).length)) + 1)), (7, .int (if len < x1 then len else x1)), (6, .int (if b < 0 then 0 else b)), (5, .int x1), (0, .ref (g.2.1 49)), (1, .int len)] dX10_layDashes_113 rfl (by rfl) (by decide) rfl ?_
                    refine x_goto 11 dX10_layDashes_116 (by decide) ?_
                    refine x_lv [0, 1, 2, 6, 7] rfl ?_
                    refine YY.L (lv' := [(4, .int (nI (k + 1))), (3, .int x1), (2, .int (nI ((dsL ph d n len.toInt (k + 1)).length))), (0, .ref (g.2.1 49)), (1, .int len)]) (by rw [nI_1, nI_1, dsL_ys (by omega) (hcm.mp (Int32.not_le.mp (by assumption))), List.length_append, List.length_singleton] <;> rfl) ?_
                    exact ih (k + 1) x1 U27 (by rw [dsL_ys (by omega) (hcm.mp (Int32.not_le.mp (by assumption))), List.length_append, List.length_singleton]; omega) (by exact hx1) (by rw [dsL_ys (by omega) (hcm.mp (Int32.not_le.mp (by assumption)))]; exact hDM.put hmx hmn (by rw [eU27, eU24])) (by exact (hfU.st eU24).st eU27) (by have := dsE_s ph d n k; omega)
          · refine x_iconst (v := 0) dX10_layDashes_43 (by decide) ?_
            refine x_goto 48 dX10_layDashes_44 (by decide) ?_
            refine x_topi (y := if b < 0 then 0 else b) (if_pos (Int32.not_le.mp (by assumption))).symm ?_
            refine x_istore 6 [(6, .int (if b < 0 then 0 else b)), (5, .int x1), (4, .int (nI k)), (3, .int b), (2, .int (nI ((dsL ph d n len.toInt k).length))), (0, .ref (g.2.1 49)), (1, .int len)] dX10_layDashes_48 (by decide) rfl ?_
            refine x_iload dX10_layDashes_50 1 rfl ?_
            refine x_iload_n dX10_layDashes_52 6 rfl ?_
            refine x_icmp_le 60 dX10_layDashes_53 (by decide) (fun c28 => ?_) (fun c28 => ?_)
            · refine x_iload dX10_layDashes_60 1 rfl ?_
              refine x_topi (y := if len < x1 then len else x1) (if_neg (Int32.not_lt.mpr (by assumption))).symm ?_
              refine x_istore 7 [(7, .int (if len < x1 then len else x1)), (6, .int (if b < 0 then 0 else b)), (5, .int x1), (4, .int (nI k)), (3, .int b), (2, .int (nI ((dsL ph d n len.toInt k).length))), (0, .ref (g.2.1 49)), (1, .int len)] dX10_layDashes_62 (by decide) rfl ?_
              refine x_iload dX10_layDashes_64 3 rfl ?_
              refine x_iconst (v := 2) dX10_layDashes_66 (by decide) ?_
              have nz29 : ¬ (2 : Int32) = 0 := by decide
              refine x_irem dX10_layDashes_67 nz29 ?_
              refine YY.S (st' := [.int (nI (k % 2))]) (by rw [show (2 : Int32) = nI 2 from rfl, nI_mod (by omega) (by omega) (by omega)]) ?_
              refine x_if_ne 110 dX10_layDashes_68 (by decide) (fun c30 => ?_) (fun c30 => ?_)
              · have c30n : ¬ k % 2 = 0 := fun q => c30 ((nl_eq (a := k % 2) (b := 0) (rfl) (rfl) (by omega) (by omega)).mpr q)
                refine x_iload dX10_layDashes_110 2 rfl ?_
                refine x_istore_n 3 [(3, .int x1), (7, .int (if len < x1 then len else x1)), (6, .int (if b < 0 then 0 else b)), (5, .int x1), (4, .int (nI k)), (2, .int (nI ((dsL ph d n len.toInt k).length))), (0, .ref (g.2.1 49)), (1, .int len)] dX10_layDashes_112 rfl (by decide) rfl ?_
                refine x_iinc 4 (v := (nI k) + 1) 4 [(4, .int ((nI k) + 1)), (3, .int x1), (7, .int (if len < x1 then len else x1)), (6, .int (if b < 0 then 0 else b)), (5, .int x1), (2, .int (nI ((dsL ph d n len.toInt k).length))), (0, .ref (g.2.1 49)), (1, .int len)] dX10_layDashes_113 rfl (by rfl) (by decide) rfl ?_
                refine x_goto 11 dX10_layDashes_116 (by decide) ?_
                refine x_lv [0, 1, 5, 6, 7] rfl ?_
                refine YY.L (lv' := [(4, .int (nI (k + 1))), (3, .int x1), (2, .int (nI ((dsL ph d n len.toInt (k + 1)).length))), (0, .ref (g.2.1 49)), (1, .int len)]) (by rw [nI_1, show dsL ph d n len.toInt (k + 1) = dsL ph d n len.toInt k from (by first | exact dsL_od (by omega) | exact dsL_no (by omega) (fun q => absurd (hcm.mpr q) (Int32.not_lt.mpr (by assumption))))] <;> rfl) ?_
                exact ih (k + 1) x1 U (by rw [show dsL ph d n len.toInt (k + 1) = dsL ph d n len.toInt k from (by first | exact dsL_od (by omega) | exact dsL_no (by omega) (fun q => absurd (hcm.mpr q) (Int32.not_lt.mpr (by assumption))))]; omega) (by exact hx1) (by rw [show dsL ph d n len.toInt (k + 1) = dsL ph d n len.toInt k from (by first | exact dsL_od (by omega) | exact dsL_no (by omega) (fun q => absurd (hcm.mpr q) (Int32.not_lt.mpr (by assumption))))]; exact hDM) (by exact hfU) (by have := dsE_s ph d n k; omega)
              · have c30n : k % 2 = 0 := (nl_eq (a := k % 2) (b := 0) (rfl) (rfl) (by omega) (by omega)).mp c30
                refine x_iload dX10_layDashes_71 1 rfl ?_
                refine x_iload dX10_layDashes_73 0 rfl ?_
                refine x_icmp_ge 110 dX10_layDashes_75 (by decide) (fun c31 => ?_) (fun c31 => ?_)
                · refine x_iload dX10_layDashes_110 2 rfl ?_
                  refine x_istore_n 3 [(3, .int x1), (7, .int (if len < x1 then len else x1)), (6, .int (if b < 0 then 0 else b)), (5, .int x1), (4, .int (nI k)), (2, .int (nI ((dsL ph d n len.toInt k).length))), (0, .ref (g.2.1 49)), (1, .int len)] dX10_layDashes_112 rfl (by decide) rfl ?_
                  refine x_iinc 4 (v := (nI k) + 1) 4 [(4, .int ((nI k) + 1)), (3, .int x1), (7, .int (if len < x1 then len else x1)), (6, .int (if b < 0 then 0 else b)), (5, .int x1), (2, .int (nI ((dsL ph d n len.toInt k).length))), (0, .ref (g.2.1 49)), (1, .int len)] dX10_layDashes_113 rfl (by rfl) (by decide) rfl ?_
                  refine x_goto 11 dX10_layDashes_116 (by decide) ?_
                  refine x_lv [0, 1, 5, 6, 7] rfl ?_
                  refine YY.L (lv' := [(4, .int (nI (k + 1))), (3, .int x1), (2, .int (nI ((dsL ph d n len.toInt (k + 1)).length))), (0, .ref (g.2.1 49)), (1, .int len)]) (by rw [nI_1, show dsL ph d n len.toInt (k + 1) = dsL ph d n len.toInt k from (by first | exact dsL_od (by omega) | exact dsL_no (by omega) (fun q => absurd (hcm.mpr q) (Int32.not_lt.mpr (by assumption))))] <;> rfl) ?_
                  exact ih (k + 1) x1 U (by rw [show dsL ph d n len.toInt (k + 1) = dsL ph d n len.toInt k from (by first | exact dsL_od (by omega) | exact dsL_no (by omega) (fun q => absurd (hcm.mpr q) (Int32.not_lt.mpr (by assumption))))]; omega) (by exact hx1) (by rw [show dsL ph d n len.toInt (k + 1) = dsL ph d n len.toInt k from (by first | exact dsL_od (by omega) | exact dsL_no (by omega) (fun q => absurd (hcm.mpr q) (Int32.not_lt.mpr (by assumption))))]; exact hDM) (by exact hfU) (by have := dsE_s ph d n k; omega)
                · refine x_iload_n dX10_layDashes_78 5 rfl ?_
                  refine x_sipush (v := 1000) dX10_layDashes_79 (by decide) ?_
                  refine x_icmp_ge 107 dX10_layDashes_82 (by decide) (fun c32 => ?_) (fun c32 => ?_)
                  · have c32n : 1000 ≤ (dsL ph d n len.toInt k).length := (nl_le (a := 1000) (b := (dsL ph d n len.toInt k).length) (rfl) (rfl) (by omega) (by omega)).mp c32
                    refine x_iinc 2 (v := (nI ((dsL ph d n len.toInt k).length)) + 1) 5 [(2, .int ((nI ((dsL ph d n len.toInt k).length)) + 1)), (7, .int (if len < x1 then len else x1)), (6, .int (if b < 0 then 0 else b)), (5, .int x1), (4, .int (nI k)), (3, .int b), (0, .ref (g.2.1 49)), (1, .int len)] dX10_layDashes_107 rfl (by rfl) (by decide) rfl ?_
                    refine x_iload dX10_layDashes_110 3 rfl ?_
                    refine x_istore_n 3 [(3, .int x1), (2, .int ((nI ((dsL ph d n len.toInt k).length)) + 1)), (7, .int (if len < x1 then len else x1)), (6, .int (if b < 0 then 0 else b)), (5, .int x1), (4, .int (nI k)), (0, .ref (g.2.1 49)), (1, .int len)] dX10_layDashes_112 rfl (by decide) rfl ?_
                    refine x_iinc 4 (v := (nI k) + 1) 5 [(4, .int ((nI k) + 1)), (3, .int x1), (2, .int ((nI ((dsL ph d n len.toInt k).length)) + 1)), (7, .int (if len < x1 then len else x1)), (6, .int (if b < 0 then 0 else b)), (5, .int x1), (0, .ref (g.2.1 49)), (1, .int len)] dX10_layDashes_113 rfl (by rfl) (by decide) rfl ?_
                    refine x_goto 11 dX10_layDashes_116 (by decide) ?_
                    refine x_lv [0, 1, 2, 6, 7] rfl ?_
                    refine YY.L (lv' := [(4, .int (nI (k + 1))), (3, .int x1), (2, .int (nI ((dsL ph d n len.toInt (k + 1)).length))), (0, .ref (g.2.1 49)), (1, .int len)]) (by rw [nI_1, nI_1, dsL_ys (by omega) (hcm.mp (Int32.not_le.mp (by assumption))), List.length_append, List.length_singleton] <;> rfl) ?_
                    exact ih (k + 1) x1 U (by rw [dsL_ys (by omega) (hcm.mp (Int32.not_le.mp (by assumption))), List.length_append, List.length_singleton]; omega) (by exact hx1) (by rw [dsL_ys (by omega) (hcm.mp (Int32.not_le.mp (by assumption)))]; exact hDM.more (by omega) _) (by exact hfU) (by have := dsE_s ph d n k; omega)
                  · have c32n : (dsL ph d n len.toInt k).length < 1000 := Nat.not_le.mp (fun q => c32 ((nl_le (a := 1000) (b := (dsL ph d n len.toInt k).length) (rfl) (rfl) (by omega) (by omega)).mpr q))
                    refine x_aload_n dX10_layDashes_85 6 rfl ?_
                    refine x_getR fl_X10_71 rfl rfl dX10_layDashes_86 ?_
                    refine x_iconst (v := 2) dX10_layDashes_89 (by decide) ?_
                    refine x_iload_n dX10_layDashes_90 5 rfl ?_
                    refine x_imul dX10_layDashes_91 ?_
                    refine x_iload dX10_layDashes_92 1 rfl ?_
                    have q33 : (2 * (nI ((dsL ph d n len.toInt k).length)) : Int32) = nI (2 * ((dsL ph d n len.toInt k).length)) := nmul (rfl) (rfl)
                    refine YY.S (st' := [.int (if b < 0 then 0 else b), .int (nI (2 * ((dsL ph d n len.toInt k).length))), .ref (g.2.1 70)]) (by rw [q33]) ?_
                    have b34 : vp_in (nI (2 * ((dsL ph d n len.toInt k).length))) 2000 := by exact vp_in_nI (by omega) (by decide)
                    refine x_iast rfl b34 dX10_layDashes_94 ?_
                    refine YY.V (V' := uM U 70 (2 * ((dsL ph d n len.toInt k).length)) (if b < 0 then 0 else b)) (by rw [nI_clamp (by omega)]) ?_
                    obtain ⟨U35, eU35⟩ : ∃ v_v : vM, v_v = uM U 70 (2 * ((dsL ph d n len.toInt k).length)) (if b < 0 then 0 else b) := ⟨_, rfl⟩
                    refine YY.V eU35.symm ?_
                    refine x_aload_n dX10_layDashes_95 6 rfl ?_
                    refine x_getR fl_X10_71 rfl rfl dX10_layDashes_96 ?_
                    refine x_iconst (v := 2) dX10_layDashes_99 (by decide) ?_
                    refine x_iload_n dX10_layDashes_100 5 rfl ?_
                    refine x_imul dX10_layDashes_101 ?_
                    refine x_iconst (v := 1) dX10_layDashes_102 (by decide) ?_
                    refine x_iadd dX10_layDashes_103 ?_
                    refine x_iload dX10_layDashes_104 0 rfl ?_
                    have q36 : ((2 * (nI ((dsL ph d n len.toInt k).length))) + 1 : Int32) = nI ((2 * ((dsL ph d n len.toInt k).length)) + 1) := nadd (nmul (rfl) (rfl)) (rfl)
                    refine YY.S (st' := [.int (if len < x1 then len else x1), .int (nI ((2 * ((dsL ph d n len.toInt k).length)) + 1)), .ref (g.2.1 70)]) (by rw [q36]) ?_
                    have b37 : vp_in (nI ((2 * ((dsL ph d n len.toInt k).length)) + 1)) 2000 := by exact vp_in_nI (by omega) (by decide)
                    refine x_iast rfl b37 dX10_layDashes_106 ?_
                    refine YY.V (V' := uM U35 70 ((2 * ((dsL ph d n len.toInt k).length)) + 1) (if len < x1 then len else x1)) (by rw [nI_clamp (by omega)]) ?_
                    obtain ⟨U38, eU38⟩ : ∃ v_v : vM, v_v = uM U35 70 ((2 * ((dsL ph d n len.toInt k).length)) + 1) (if len < x1 then len else x1) := ⟨_, rfl⟩
                    refine YY.V eU38.symm ?_
                    refine x_iinc 2 (v := (nI ((dsL ph d n len.toInt k).length)) + 1) 5 [(2, .int ((nI ((dsL ph d n len.toInt k).length)) + 1)), (7, .int (if len < x1 then len else x1)), (6, .int (if b < 0 then 0 else b)), (5, .int x1), (4, .int (nI k)), (3, .int b), (0, .ref (g.2.1 49)), (1, .int len)] dX10_layDashes_107 rfl (by rfl) (by decide) rfl ?_
                    refine x_iload dX10_layDashes_110 3 rfl ?_
                    refine x_istore_n 3 [(3, .int x1), (2, .int ((nI ((dsL ph d n len.toInt k).length)) + 1)), (7, .int (if len < x1 then len else x1)), (6, .int (if b < 0 then 0 else b)), (5, .int x1), (4, .int (nI k)), (0, .ref (g.2.1 49)), (1, .int len)] dX10_layDashes_112 rfl (by decide) rfl ?_
                    refine x_iinc 4 (v := (nI k) + 1) 5 [(4, .int ((nI k) + 1)), (3, .int x1), (2, .int ((nI ((dsL ph d n len.toInt k).length)) + 1)), (7, .int (if len < x1 then len else x1)), (6, .int (if b < 0 then 0 else b)), (5, .int x1), (0, .ref (g.2.1 49)), (1, .int len)] dX10_layDashes_113 rfl (by rfl) (by decide) rfl ?_
                    refine x_goto 11 dX10_layDashes_116 (by decide) ?_
                    refine x_lv [0, 1, 2, 6, 7] rfl ?_
                    refine YY.L (lv' := [(4, .int (nI (k + 1))), (3, .int x1), (2, .int (nI ((dsL ph d n len.toInt (k + 1)).length))), (0, .ref (g.2.1 49)), (1, .int len)]) (by rw [nI_1, nI_1, dsL_ys (by omega) (hcm.mp (Int32.not_le.mp (by assumption))), List.length_append, List.length_singleton] <;> rfl) ?_
                    exact ih (k + 1) x1 U38 (by rw [dsL_ys (by omega) (hcm.mp (Int32.not_le.mp (by assumption))), List.length_append, List.length_singleton]; omega) (by exact hx1) (by rw [dsL_ys (by omega) (hcm.mp (Int32.not_le.mp (by assumption)))]; exact hDM.put hmx hmn (by rw [eU38, eU35])) (by exact (hfU.st eU35).st eU38) (by have := dsE_s ph d n k; omega)
            · refine x_iload_n dX10_layDashes_56 6 rfl ?_
              refine x_goto 62 dX10_layDashes_57 (by decide) ?_
              refine x_topi (y := if len < x1 then len else x1) (if_pos (Int32.not_le.mp (by assumption))).symm ?_
              refine x_istore 7 [(7, .int (if len < x1 then len else x1)), (6, .int (if b < 0 then 0 else b)), (5, .int x1), (4, .int (nI k)), (3, .int b), (2, .int (nI ((dsL ph d n len.toInt k).length))), (0, .ref (g.2.1 49)), (1, .int len)] dX10_layDashes_62 (by decide) rfl ?_
              refine x_iload dX10_layDashes_64 3 rfl ?_
              refine x_iconst (v := 2) dX10_layDashes_66 (by decide) ?_
              have nz39 : ¬ (2 : Int32) = 0 := by decide
              refine x_irem dX10_layDashes_67 nz39 ?_
              refine YY.S (st' := [.int (nI (k % 2))]) (by rw [show (2 : Int32) = nI 2 from rfl, nI_mod (by omega) (by omega) (by omega)]) ?_
              refine x_if_ne 110 dX10_layDashes_68 (by decide) (fun c40 => ?_) (fun c40 => ?_)
              · have c40n : ¬ k % 2 = 0 := fun q => c40 ((nl_eq (a := k % 2) (b := 0) (rfl) (rfl) (by omega) (by omega)).mpr q)
                refine x_iload dX10_layDashes_110 2 rfl ?_
                refine x_istore_n 3 [(3, .int x1), (7, .int (if len < x1 then len else x1)), (6, .int (if b < 0 then 0 else b)), (5, .int x1), (4, .int (nI k)), (2, .int (nI ((dsL ph d n len.toInt k).length))), (0, .ref (g.2.1 49)), (1, .int len)] dX10_layDashes_112 rfl (by decide) rfl ?_
                refine x_iinc 4 (v := (nI k) + 1) 4 [(4, .int ((nI k) + 1)), (3, .int x1), (7, .int (if len < x1 then len else x1)), (6, .int (if b < 0 then 0 else b)), (5, .int x1), (2, .int (nI ((dsL ph d n len.toInt k).length))), (0, .ref (g.2.1 49)), (1, .int len)] dX10_layDashes_113 rfl (by rfl) (by decide) rfl ?_
                refine x_goto 11 dX10_layDashes_116 (by decide) ?_
                refine x_lv [0, 1, 5, 6, 7] rfl ?_
                refine YY.L (lv' := [(4, .int (nI (k + 1))), (3, .int x1), (2, .int (nI ((dsL ph d n len.toInt (k + 1)).length))), (0, .ref (g.2.1 49)), (1, .int len)]) (by rw [nI_1, show dsL ph d n len.toInt (k + 1) = dsL ph d n len.toInt k from (by first | exact dsL_od (by omega) | exact dsL_no (by omega) (fun q => absurd (hcm.mpr q) (Int32.not_lt.mpr (by assumption))))] <;> rfl) ?_
                exact ih (k + 1) x1 U (by rw [show dsL ph d n len.toInt (k + 1) = dsL ph d n len.toInt k from (by first | exact dsL_od (by omega) | exact dsL_no (by omega) (fun q => absurd (hcm.mpr q) (Int32.not_lt.mpr (by assumption))))]; omega) (by exact hx1) (by rw [show dsL ph d n len.toInt (k + 1) = dsL ph d n len.toInt k from (by first | exact dsL_od (by omega) | exact dsL_no (by omega) (fun q => absurd (hcm.mpr q) (Int32.not_lt.mpr (by assumption))))]; exact hDM) (by exact hfU) (by have := dsE_s ph d n k; omega)
              · have c40n : k % 2 = 0 := (nl_eq (a := k % 2) (b := 0) (rfl) (rfl) (by omega) (by omega)).mp c40
                refine x_iload dX10_layDashes_71 1 rfl ?_
                refine x_iload dX10_layDashes_73 0 rfl ?_
                refine x_icmp_ge 110 dX10_layDashes_75 (by decide) (fun c41 => ?_) (fun c41 => ?_)
                · refine x_iload dX10_layDashes_110 2 rfl ?_
                  refine x_istore_n 3 [(3, .int x1), (7, .int (if len < x1 then len else x1)), (6, .int (if b < 0 then 0 else b)), (5, .int x1), (4, .int (nI k)), (2, .int (nI ((dsL ph d n len.toInt k).length))), (0, .ref (g.2.1 49)), (1, .int len)] dX10_layDashes_112 rfl (by decide) rfl ?_
                  refine x_iinc 4 (v := (nI k) + 1) 4 [(4, .int ((nI k) + 1)), (3, .int x1), (7, .int (if len < x1 then len else x1)), (6, .int (if b < 0 then 0 else b)), (5, .int x1), (2, .int (nI ((dsL ph d n len.toInt k).length))), (0, .ref (g.2.1 49)), (1, .int len)] dX10_layDashes_113 rfl (by rfl) (by decide) rfl ?_
                  refine x_goto 11 dX10_layDashes_116 (by decide) ?_
                  refine x_lv [0, 1, 5, 6, 7] rfl ?_
                  refine YY.L (lv' := [(4, .int (nI (k + 1))), (3, .int x1), (2, .int (nI ((dsL ph d n len.toInt (k + 1)).length))), (0, .ref (g.2.1 49)), (1, .int len)]) (by rw [nI_1, show dsL ph d n len.toInt (k + 1) = dsL ph d n len.toInt k from (by first | exact dsL_od (by omega) | exact dsL_no (by omega) (fun q => absurd (hcm.mpr q) (Int32.not_lt.mpr (by assumption))))] <;> rfl) ?_
                  exact ih (k + 1) x1 U (by rw [show dsL ph d n len.toInt (k + 1) = dsL ph d n len.toInt k from (by first | exact dsL_od (by omega) | exact dsL_no (by omega) (fun q => absurd (hcm.mpr q) (Int32.not_lt.mpr (by assumption))))]; omega) (by exact hx1) (by rw [show dsL ph d n len.toInt (k + 1) = dsL ph d n len.toInt k from (by first | exact dsL_od (by omega) | exact dsL_no (by omega) (fun q => absurd (hcm.mpr q) (Int32.not_lt.mpr (by assumption))))]; exact hDM) (by exact hfU) (by have := dsE_s ph d n k; omega)
                · refine x_iload_n dX10_layDashes_78 5 rfl ?_
                  refine x_sipush (v := 1000) dX10_layDashes_79 (by decide) ?_
                  refine x_icmp_ge 107 dX10_layDashes_82 (by decide) (fun c42 => ?_) (fun c42 => ?_)
                  · have c42n : 1000 ≤ (dsL ph d n len.toInt k).length := (nl_le (a := 1000) (b := (dsL ph d n len.toInt k).length) (rfl) (rfl) (by omega) (by omega)).mp c42
                    refine x_iinc 2 (v := (nI ((dsL ph d n len.toInt k).length)) + 1) 5 [(2, .int ((nI ((dsL ph d n len.toInt k).length)) + 1)), (7, .int (if len < x1 then len else x1)), (6, .int (if b < 0 then 0 else b)), (5, .int x1), (4, .int (nI k)), (3, .int b), (0, .ref (g.2.1 49)), (1, .int len)] dX10_layDashes_107 rfl (by rfl) (by decide) rfl ?_
                    refine x_iload dX10_layDashes_110 3 rfl ?_
                    refine x_istore_n 3 [(3, .int x1), (2, .int ((nI ((dsL ph d n len.toInt k).length)) + 1)), (7, .int (if len < x1 then len else x1)), (6, .int (if b < 0 then 0 else b)), (5, .int x1), (4, .int (nI k)), (0, .ref (g.2.1 49)), (1, .int len)] dX10_layDashes_112 rfl (by decide) rfl ?_
                    refine x_iinc 4 (v := (nI k) + 1) 5 [(4, .int ((nI k) + 1)), (3, .int x1), (2, .int ((nI ((dsL ph d n len.toInt k).length)) + 1)), (7, .int (if len < x1 then len else x1)), (6, .int (if b < 0 then 0 else b)), (5, .int x1), (0, .ref (g.2.1 49)), (1, .int len)] dX10_layDashes_113 rfl (by rfl) (by decide) rfl ?_
                    refine x_goto 11 dX10_layDashes_116 (by decide) ?_
                    refine x_lv [0, 1, 2, 6, 7] rfl ?_
                    refine YY.L (lv' := [(4, .int (nI (k + 1))), (3, .int x1), (2, .int (nI ((dsL ph d n len.toInt (k + 1)).length))), (0, .ref (g.2.1 49)), (1, .int len)]) (by rw [nI_1, nI_1, dsL_ys (by omega) (hcm.mp (Int32.not_le.mp (by assumption))), List.length_append, List.length_singleton] <;> rfl) ?_
                    exact ih (k + 1) x1 U (by rw [dsL_ys (by omega) (hcm.mp (Int32.not_le.mp (by assumption))), List.length_append, List.length_singleton]; omega) (by exact hx1) (by rw [dsL_ys (by omega) (hcm.mp (Int32.not_le.mp (by assumption)))]; exact hDM.more (by omega) _) (by exact hfU) (by have := dsE_s ph d n k; omega)
                  · have c42n : (dsL ph d n len.toInt k).length < 1000 := Nat.not_le.mp (fun q => c42 ((nl_le (a := 1000) (b := (dsL ph d n len.toInt k).length) (rfl) (rfl) (by omega) (by omega)).mpr q))
                    refine x_aload_n dX10_layDashes_85 6 rfl ?_
                    refine x_getR fl_X10_71 rfl rfl dX10_layDashes_86 ?_
                    refine x_iconst (v := 2) dX10_layDashes_89 (by decide) ?_
                    refine x_iload_n dX10_layDashes_90 5 rfl ?_
                    refine x_imul dX10_layDashes_91 ?_
                    refine x_iload dX10_layDashes_92 1 rfl ?_
                    have q43 : (2 * (nI ((dsL ph d n len.toInt k).length)) : Int32) = nI (2 * ((dsL ph d n len.toInt k).length)) := nmul (rfl) (rfl)
                    refine YY.S (st' := [.int (if b < 0 then 0 else b), .int (nI (2 * ((dsL ph d n len.toInt k).length))), .ref (g.2.1 70)]) (by rw [q43]) ?_
                    have b44 : vp_in (nI (2 * ((dsL ph d n len.toInt k).length))) 2000 := by exact vp_in_nI (by omega) (by decide)
                    refine x_iast rfl b44 dX10_layDashes_94 ?_
                    refine YY.V (V' := uM U 70 (2 * ((dsL ph d n len.toInt k).length)) (if b < 0 then 0 else b)) (by rw [nI_clamp (by omega)]) ?_
                    obtain ⟨U45, eU45⟩ : ∃ v_v : vM, v_v = uM U 70 (2 * ((dsL ph d n len.toInt k).length)) (if b < 0 then 0 else b) := ⟨_, rfl⟩
                    refine YY.V eU45.symm ?_
                    refine x_aload_n dX10_layDashes_95 6 rfl ?_
                    refine x_getR fl_X10_71 rfl rfl dX10_layDashes_96 ?_
                    refine x_iconst (v := 2) dX10_layDashes_99 (by decide) ?_
                    refine x_iload_n dX10_layDashes_100 5 rfl ?_
                    refine x_imul dX10_layDashes_101 ?_
                    refine x_iconst (v := 1) dX10_layDashes_102 (by decide) ?_
                    refine x_iadd dX10_layDashes_103 ?_
                    refine x_iload dX10_layDashes_104 0 rfl ?_
                    have q46 : ((2 * (nI ((dsL ph d n len.toInt k).length))) + 1 : Int32) = nI ((2 * ((dsL ph d n len.toInt k).length)) + 1) := nadd (nmul (rfl) (rfl)) (rfl)
                    refine YY.S (st' := [.int (if len < x1 then len else x1), .int (nI ((2 * ((dsL ph d n len.toInt k).length)) + 1)), .ref (g.2.1 70)]) (by rw [q46]) ?_
                    have b47 : vp_in (nI ((2 * ((dsL ph d n len.toInt k).length)) + 1)) 2000 := by exact vp_in_nI (by omega) (by decide)
                    refine x_iast rfl b47 dX10_layDashes_106 ?_
                    refine YY.V (V' := uM U45 70 ((2 * ((dsL ph d n len.toInt k).length)) + 1) (if len < x1 then len else x1)) (by rw [nI_clamp (by omega)]) ?_
                    obtain ⟨U48, eU48⟩ : ∃ v_v : vM, v_v = uM U45 70 ((2 * ((dsL ph d n len.toInt k).length)) + 1) (if len < x1 then len else x1) := ⟨_, rfl⟩
                    refine YY.V eU48.symm ?_
                    refine x_iinc 2 (v := (nI ((dsL ph d n len.toInt k).length)) + 1) 5 [(2, .int ((nI ((dsL ph d n len.toInt k).length)) + 1)), (7, .int (if len < x1 then len else x1)), (6, .int (if b < 0 then 0 else b)), (5, .int x1), (4, .int (nI k)), (3, .int b), (0, .ref (g.2.1 49)), (1, .int len)] dX10_layDashes_107 rfl (by rfl) (by decide) rfl ?_
                    refine x_iload dX10_layDashes_110 3 rfl ?_
                    refine x_istore_n 3 [(3, .int x1), (2, .int ((nI ((dsL ph d n len.toInt k).length)) + 1)), (7, .int (if len < x1 then len else x1)), (6, .int (if b < 0 then 0 else b)), (5, .int x1), (4, .int (nI k)), (0, .ref (g.2.1 49)), (1, .int len)] dX10_layDashes_112 rfl (by decide) rfl ?_
                    refine x_iinc 4 (v := (nI k) + 1) 5 [(4, .int ((nI k) + 1)), (3, .int x1), (2, .int ((nI ((dsL ph d n len.toInt k).length)) + 1)), (7, .int (if len < x1 then len else x1)), (6, .int (if b < 0 then 0 else b)), (5, .int x1), (0, .ref (g.2.1 49)), (1, .int len)] dX10_layDashes_113 rfl (by rfl) (by decide) rfl ?_
                    refine x_goto 11 dX10_layDashes_116 (by decide) ?_
                    refine x_lv [0, 1, 2, 6, 7] rfl ?_
                    refine YY.L (lv' := [(4, .int (nI (k + 1))), (3, .int x1), (2, .int (nI ((dsL ph d n len.toInt (k + 1)).length))), (0, .ref (g.2.1 49)), (1, .int len)]) (by rw [nI_1, nI_1, dsL_ys (by omega) (hcm.mp (Int32.not_le.mp (by assumption))), List.length_append, List.length_singleton] <;> rfl) ?_
                    exact ih (k + 1) x1 U48 (by rw [dsL_ys (by omega) (hcm.mp (Int32.not_le.mp (by assumption))), List.length_append, List.length_singleton]; omega) (by exact hx1) (by rw [dsL_ys (by omega) (hcm.mp (Int32.not_le.mp (by assumption)))]; exact hDM.put hmx hmn (by rw [eU48, eU45])) (by exact (hfU.st eU45).st eU48) (by have := dsE_s ph d n k; omega)
  refine YY.L (lv' := [(4, .int (nI 0)), (3, .int b0), (2, .int (nI ((dsL ph d n len.toInt 0).length))), (0, .ref (g.2.1 49)), (1, .int len)]) (by rfl) ?_
  exact lp1 _ 0 b0 V (by exact Nat.zero_le _) (by rw [eb0, neg_nI (by omega), dsE_0]) (by exact fun i q => absurd q (Nat.not_lt_zero _)) (by exact fr70.refl V) (Nat.lt_succ_self _)
