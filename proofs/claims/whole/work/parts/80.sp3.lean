theorem wrC_at {a i : Nat} (h1 : a ≠ 38) (h2 : a ≠ 11) : ∀ (L : List Int32) (V : vM) (n : Nat), wrC V n L a i = V a i
  | [], _, _ => rfl
  | c :: L, V, n => by
    show wrC (apC V n c) (n + 1) L a i = V a i
    rw [wrC_at h1 h2 L, apC, uM_na h2, uM_na h1]
theorem wrM_at {a i : Nat} (h1 : a ≠ 61) (h2 : a = 49 → i ≠ 28) : ∀ (L : List Int32) (V : vM) (n : Nat), wrM V n L a i = V a i
  | [], _, _ => rfl
  | c :: L, V, n => by
    show wrM (apM V n c) (n + 1) L a i = V a i
    rw [wrM_at h1 h2 L, apM, uM_at, if_neg (fun q => h2 q.1 q.2), uM_na h1]
/-- numbers with commas between them -/
def jp (f : Nat → Int32) : Nat → List Int32
  | 0 => []
  | j + 1 => jp f j ++ (if 0 < j then [44] else []) ++ spN (f j)
theorem jp_len (f : Nat → Int32) : ∀ j, (jp f j).length ≤ 6 * j - 1
  | 0 => by simp [jp]
  | j + 1 => by
    have := jp_len f j
    have b := spN_len (f j)
    unfold jp
    simp only [List.length_append]
    split
    · simp only [List.length_cons, List.length_nil]; omega
    · have : j = 0 := by omega
      subst this
      simp only [jp, List.length_nil]; omega
/-- the numbers of a command in the order in which a text names them -/
def nbx (m : Nat → Int32) (i j : Nat) : Int32 := if m (i * 7) = 0 ∨ m (i * 7) = 1 then m (i * 7 + 5 + j) else nb7 m i j
def ptn (x : Int32) : Nat := if x = 2 then 2 else if x = 3 then 3 else 1
theorem nbx_u (m : Nat → Int32) (i j : Nat) : nbx m i j = if m (i * 7) = 0 ∨ m (i * 7) = 1 then m (i * 7 + 5 + j) else (if m (i * 7) = 2 then (if j < 2 then m (i * 7 + 1 + j) else m (i * 7 + 3 + j)) else m (i * 7 + 1 + j)) := rfl
theorem PR.nbq {V : vM} {a k n N : Nat} {m : Nat → Int32} (h : PR V a k n N m) {i j : Nat} (hi : i < N) (h4 : ¬ m (i * 7) = 4) (hj : j < 2 * ptn (m (i * 7))) : V n (i * 6 + j) = nbx m i j ∧ inR (nbx m i j) ∧ ptV V a k (nI i) = nI (ptn (m (i * 7))) := by
  rw [h.pt hi]
  obtain ⟨q1, q2, q3, q4⟩ := (h.2.2.2 i hi).2
  have hr := (h.2.2.1.2 i hi).2.2.1
  rw [nbx_u]
  rcases k5 (h.2.2.1.2 i hi).1 with e | e | e | e | e
  · rw [e] at hj ⊢
    have : j = 0 ∨ j = 1 := by simp [ptn] at hj; omega
    rw [if_pos (Or.inl rfl)]
    rcases this with rfl | rfl
    · exact ⟨(q1 (Or.inl e)).1, hr 5 (by omega) (by omega), rfl⟩
    · exact ⟨(q1 (Or.inl e)).2, hr 6 (by omega) (by omega), rfl⟩
  · rw [e] at hj ⊢
    have : j = 0 ∨ j = 1 := by simp [ptn] at hj; omega
    rw [if_pos (Or.inr rfl)]
    rcases this with rfl | rfl
    · exact ⟨(q1 (Or.inr e)).1, hr 5 (by omega) (by omega), rfl⟩
    · exact ⟨(q1 (Or.inr e)).2, hr 6 (by omega) (by omega), rfl⟩
  · rw [e] at hj ⊢
    have : j = 0 ∨ j = 1 ∨ j = 2 ∨ j = 3 := by simp [ptn] at hj; omega
    rw [if_neg (by rintro (q | q) <;> exact absurd q (by decide)), if_pos rfl]
    rcases this with rfl | rfl | rfl | rfl
    · exact ⟨(q2 e).1, hr 1 (by omega) (by omega), rfl⟩
    · exact ⟨(q2 e).2.1, hr 2 (by omega) (by omega), rfl⟩
    · exact ⟨(q2 e).2.2.1, hr 5 (by omega) (by omega), rfl⟩
    · exact ⟨(q2 e).2.2.2, hr 6 (by omega) (by omega), rfl⟩
  · rw [e] at hj ⊢
    have : j = 0 ∨ j = 1 ∨ j = 2 ∨ j = 3 ∨ j = 4 ∨ j = 5 := by simp [ptn] at hj; omega
    rw [if_neg (by rintro (q | q) <;> exact absurd q (by decide)), if_neg (by decide)]
    rcases this with rfl | rfl | rfl | rfl | rfl | rfl
    · exact ⟨(q3 e).1, hr 1 (by omega) (by omega), rfl⟩
    · exact ⟨(q3 e).2.1, hr 2 (by omega) (by omega), rfl⟩
    · exact ⟨(q3 e).2.2.1, hr 3 (by omega) (by omega), rfl⟩
    · exact ⟨(q3 e).2.2.2.1, hr 4 (by omega) (by omega), rfl⟩
    · exact ⟨(q3 e).2.2.2.2.1, hr 5 (by omega) (by omega), rfl⟩
    · exact ⟨(q3 e).2.2.2.2.2, hr 6 (by omega) (by omega), rfl⟩
  · exact absurd e h4
theorem ptn_b (x : Int32) : 1 ≤ ptn x ∧ ptn x ≤ 3 := by
  unfold ptn
  split
  · omega
  · split <;> omega
set_option maxHeartbeats 1000000 in
set_option maxRecDepth 100000 in
theorem mX8_spellNumbers {g : gX} (V : vM) {m : Nat → Int32} {N : Nat} (hp : PR V 1 12 13 N m) (i : Nat) (hi : i < N) (h4 : ¬ m (i * 7) = 4) (n : Nat) (hn : n + 35 ≤ 864) (hm : V 11 1 = nI n) : MM g jX8_spellNumbers V [.ref (g.2.1 11), .ref (g.2.1 1), .int (nI i)] (dV (wrC V n (jp (nbx m i) (2 * ptn (m (i * 7)))))) := by
  refine MM.of plX8_spellNumbers (Nat.le_of_ble_eq_true rfl) ?_
  obtain ⟨Q, hQ⟩ : ∃ Q : Option Value → vM → Prop, Q = (dV (wrC V n (jp (nbx m i) (2 * ptn (m (i * 7)))))) := ⟨_, rfl⟩
  rw [← hQ]
  show XX g jX8_spellNumbers Q V 0 [(0, .ref (g.2.1 11)), (1, .ref (g.2.1 1)), (2, .int (nI i))] []
  have hpb := ptn_b (m (i * 7))
  have hN := hp.2.2.1.1
  refine x_iconst (v := 2) dX8_spellNumbers_0 (by decide) ?_
  refine x_aload_n dX8_spellNumbers_1 1 rfl ?_
  refine x_iload_n dX8_spellNumbers_2 2 rfl ?_
  refine x_callV (K := jX5_pointsOf) [.int (nI i)] lk_X8_43 ⟨⟨rfl, rfl⟩, Nat.le_of_ble_eq_true rfl, Nat.le_of_ble_eq_true rfl⟩ rfl rfl (by have := mX5_pointsOf (g := g) V isP1 hp.kok (nI i); rw [(hp.nbq hi h4 (j := 0) (by omega)).2.2] at this; exact this) rfl (Nat.le_of_ble_eq_true rfl) rfl dX8_spellNumbers_3 (kpI ?_)
  refine x_imul dX8_spellNumbers_6 ?_
  refine x_istore_n 3 [(3, .int (2 * (nI (ptn (m (i * 7)))))), (0, .ref (g.2.1 11)), (1, .ref (g.2.1 1)), (2, .int (nI i))] dX8_spellNumbers_7 rfl (by decide) rfl ?_
  refine x_iconst (v := 0) dX8_spellNumbers_8 (by decide) ?_
  refine x_istore 4 [(4, .int 0), (3, .int (2 * (nI (ptn (m (i * 7)))))), (0, .ref (g.2.1 11)), (1, .ref (g.2.1 1)), (2, .int (nI i))] dX8_spellNumbers_9 (by decide) rfl ?_
  have lp1 : ∀ (fu : Nat) (j : Nat) (U : vM), (j ≤ 2 * ptn (m (i * 7))) → (U = wrC V n (jp (nbx m i) j)) → (2 * ptn (m (i * 7)) - j) < fu → XX g jX8_spellNumbers Q U 11 [(4, .int (nI j)), (3, .int (2 * (nI (ptn (m (i * 7)))))), (0, .ref (g.2.1 11)), (1, .ref (g.2.1 1)), (2, .int (nI i))] [] := by
    intro fu
    induction fu with
    | zero => intro _ _ _ _ hmz; exact absurd hmz (Nat.not_lt_zero _)
    | succ fu ih =>
      intro j U hj hU hmz
      have hjl := jp_len (nbx m i) j
      have hmU : U 11 1 = nI (n + (jp (nbx m i) j).length) := by rw [hU]; exact wrC_n _ V n hm
      refine x_iload dX8_spellNumbers_11 0 rfl ?_
      refine x_iload_n dX8_spellNumbers_13 1 rfl ?_
      refine x_icmp_ge 45 dX8_spellNumbers_14 (by decide) (fun c2 => ?_) (fun c2 => ?_)
      · have c2n : 2 * (ptn (m (i * 7))) ≤ j := (nl_le (a := 2 * (ptn (m (i * 7)))) (b := j) (nmul (rfl) (rfl)) (rfl) (by omega) (by omega)).mp c2
        refine x_vret dX8_spellNumbers_45 rfl ?_
        rw [hQ]
        refine ⟨?_, rfl⟩
        rw [hU, show j = 2 * ptn (m (i * 7)) by omega]
      · have c2n : j < 2 * (ptn (m (i * 7))) := Nat.not_le.mp (fun q => c2 ((nl_le (a := 2 * (ptn (m (i * 7)))) (b := j) (nmul (rfl) (rfl)) (rfl) (by omega) (by omega)).mpr q))
        refine x_iload dX8_spellNumbers_17 0 rfl ?_
        refine x_if_le 28 dX8_spellNumbers_19 (by decide) (fun c3 => ?_) (fun c3 => ?_)
        · have c3n : j ≤ 0 := (nl_le (a := j) (b := 0) (rfl) (rfl) (by omega) (by omega)).mp c3
          refine x_aload_n dX8_spellNumbers_28 2 rfl ?_
          refine x_aload_n dX8_spellNumbers_29 3 rfl ?_
          refine x_iload_n dX8_spellNumbers_30 4 rfl ?_
          refine x_iload dX8_spellNumbers_31 0 rfl ?_
          have hpU : PR U 1 12 13 N m := (hp.kept (fun z => by rw [hU, wrC_at (by decide) (by decide)]) (fun z => by rw [hU, wrC_at (by decide) (by decide)]) (fun z => by rw [hU, wrC_at (by decide) (by decide)]))
          obtain ⟨hb1, hb2, -⟩ := hpU.nbq hi h4 (j := j) (by omega)
          refine x_callV (K := jX5_numberOf) [.int (nI i), .int (nI j)] lk_X8_46 ⟨⟨rfl, rfl⟩, Nat.le_of_ble_eq_true rfl, Nat.le_of_ble_eq_true rfl⟩ rfl rfl (by have := mX5_numberOf (g := g) U isP1 hpU.kok.1 (nI i) (nI j); rw [hpU.nb hi (by omega), hb1] at this; exact this) rfl (Nat.le_of_ble_eq_true rfl) rfl dX8_spellNumbers_33 (kpI ?_)
          refine x_callV (K := jX8_spellNumber) [.int (nbx m i j)] lk_X8_50 ⟨⟨rfl, rfl⟩, Nat.le_of_ble_eq_true rfl, Nat.le_of_ble_eq_true rfl⟩ rfl rfl (mX8_spellNumber U (n + (jp (nbx m i) j).length) (by omega) hmU (nbx m i j) hb2) rfl (Nat.le_of_ble_eq_true rfl) rfl dX8_spellNumbers_36 (kdV ?_)
          obtain ⟨U4, eU4⟩ : ∃ v_v : vM, v_v = wrC U (n + (jp (nbx m i) j).length) (spN (nbx m i j)) := ⟨_, rfl⟩
          refine YY.V eU4.symm ?_
          refine x_iinc 4 (v := (nI j) + 1) 0 [(4, .int ((nI j) + 1)), (3, .int (2 * (nI (ptn (m (i * 7)))))), (0, .ref (g.2.1 11)), (1, .ref (g.2.1 1)), (2, .int (nI i))] dX8_spellNumbers_39 rfl (by rfl) (by decide) rfl ?_
          refine x_goto 11 dX8_spellNumbers_42 (by decide) ?_
          refine YY.L (lv' := [(4, .int (nI (j + 1))), (3, .int (2 * (nI (ptn (m (i * 7)))))), (0, .ref (g.2.1 11)), (1, .ref (g.2.1 1)), (2, .int (nI i))]) (by rw [nI_1]) ?_
          exact ih (j + 1) U4 (by omega) (by rw [eU4, hU, jp, if_neg (by omega), List.append_nil, wrC_app]) (by omega)
        · have c3n : 0 < j := Nat.not_le.mp (fun q => c3 ((nl_le (a := j) (b := 0) (rfl) (rfl) (by omega) (by omega)).mpr q))
          refine x_aload_n dX8_spellNumbers_22 2 rfl ?_
          refine x_bipush (v := 44) dX8_spellNumbers_23 (by decide) ?_
          refine x_callV (K := jX8_append) [.int 44] lk_X8_35 ⟨⟨rfl, rfl⟩, Nat.le_of_ble_eq_true rfl, Nat.le_of_ble_eq_true rfl⟩ rfl rfl (mX8_append U (n + (jp (nbx m i) j).length) (by omega) hmU 44 rfl) rfl (Nat.le_of_ble_eq_true rfl) rfl dX8_spellNumbers_25 (kdV ?_)
          obtain ⟨U5, eU5⟩ : ∃ v_v : vM, v_v = apC U (n + (jp (nbx m i) j).length) 44 := ⟨_, rfl⟩
          refine YY.V eU5.symm ?_
          have hmA : U5 11 1 = nI (n + (jp (nbx m i) j).length + 1) := by rw [eU5]; exact apC_n _ _ _
          refine x_aload_n dX8_spellNumbers_28 2 rfl ?_
          refine x_aload_n dX8_spellNumbers_29 3 rfl ?_
          refine x_iload_n dX8_spellNumbers_30 4 rfl ?_
          refine x_iload dX8_spellNumbers_31 0 rfl ?_
          have hpU : PR U5 1 12 13 N m := (hp.kept (fun z => by rw [eU5, apC, uM_na (by decide), uM_na (by decide), hU, wrC_at (by decide) (by decide)]) (fun z => by rw [eU5, apC, uM_na (by decide), uM_na (by decide), hU, wrC_at (by decide) (by decide)]) (fun z => by rw [eU5, apC, uM_na (by decide), uM_na (by decide), hU, wrC_at (by decide) (by decide)]))
          obtain ⟨hb1, hb2, -⟩ := hpU.nbq hi h4 (j := j) (by omega)
          refine x_callV (K := jX5_numberOf) [.int (nI i), .int (nI j)] lk_X8_46 ⟨⟨rfl, rfl⟩, Nat.le_of_ble_eq_true rfl, Nat.le_of_ble_eq_true rfl⟩ rfl rfl (by have := mX5_numberOf (g := g) U5 isP1 hpU.kok.1 (nI i) (nI j); rw [hpU.nb hi (by omega), hb1] at this; exact this) rfl (Nat.le_of_ble_eq_true rfl) rfl dX8_spellNumbers_33 (kpI ?_)
          refine x_callV (K := jX8_spellNumber) [.int (nbx m i j)] lk_X8_50 ⟨⟨rfl, rfl⟩, Nat.le_of_ble_eq_true rfl, Nat.le_of_ble_eq_true rfl⟩ rfl rfl (mX8_spellNumber U5 (n + (jp (nbx m i) j).length + 1) (by omega) hmA (nbx m i j) hb2) rfl (Nat.le_of_ble_eq_true rfl) rfl dX8_spellNumbers_36 (kdV ?_)
          obtain ⟨U6, eU6⟩ : ∃ v_v : vM, v_v = wrC U5 (n + (jp (nbx m i) j).length + 1) (spN (nbx m i j)) := ⟨_, rfl⟩
          refine YY.V eU6.symm ?_
          refine x_iinc 4 (v := (nI j) + 1) 0 [(4, .int ((nI j) + 1)), (3, .int (2 * (nI (ptn (m (i * 7)))))), (0, .ref (g.2.1 11)), (1, .ref (g.2.1 1)), (2, .int (nI i))] dX8_spellNumbers_39 rfl (by rfl) (by decide) rfl ?_
          refine x_goto 11 dX8_spellNumbers_42 (by decide) ?_
          refine YY.L (lv' := [(4, .int (nI (j + 1))), (3, .int (2 * (nI (ptn (m (i * 7)))))), (0, .ref (g.2.1 11)), (1, .ref (g.2.1 1)), (2, .int (nI i))]) (by rw [nI_1]) ?_
          exact ih (j + 1) U6 (by omega) (by rw [eU6, eU5, hU, jp, if_pos (by omega), wrC_app, wrC_app, List.length_append]; rfl) (by omega)
  refine YY.L (lv' := [(4, .int (nI 0)), (3, .int (2 * (nI (ptn (m (i * 7)))))), (0, .ref (g.2.1 11)), (1, .ref (g.2.1 1)), (2, .int (nI i))]) (by rfl) ?_
  exact lp1 _ 0 V (by omega) (by rfl) (Nat.lt_succ_self _)
