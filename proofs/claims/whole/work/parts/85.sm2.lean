/-! the simplified polygon: which vertices are kept -/
def nkL (K : Nat → Int32) : Nat → Nat → Nat
  | 0, i => i
  | r + 1, i => if K i = 0 then nkL K r (i + 1) else i
def nk (K : Nat → Int32) (f n : Nat) : Nat := nkL K (n - 1 - (f + 1)) (f + 1)
theorem nkL_b (K : Nat → Int32) : ∀ r i, i ≤ nkL K r i ∧ nkL K r i ≤ i + r
  | 0, i => ⟨Nat.le_refl _, Nat.le_refl _⟩
  | r + 1, i => by
    unfold nkL
    split
    · have := nkL_b K r (i + 1); omega
    · omega
theorem nk_b (K : Nat → Int32) {f n : Nat} (h : f < n - 1) : f < nk K f n ∧ nk K f n < n := by
  have := nkL_b K (n - 1 - (f + 1)) (f + 1)
  unfold nk
  omega
theorem nkL_hit {K : Nat → Int32} {r i : Nat} (h : ¬ K i = 0) : nkL K r i = i := by
  cases r with
  | zero => rfl
  | succ r => rw [nkL, if_neg h]
theorem nkL_miss {K : Nat → Int32} {r i : Nat} (h : K i = 0) : nkL K (r + 1) i = nkL K r (i + 1) := by
  rw [nkL, if_pos h]
theorem nkL_z (K : Nat → Int32) : ∀ r i j, i ≤ j → j < nkL K r i → K j = 0
  | 0, i, j, h, q => absurd q (by unfold nkL; omega)
  | r + 1, i, j, h, q => by
    by_cases c : K i = 0
    · rw [nkL_miss c] at q
      by_cases e : i = j
      · rw [← e]; exact c
      · exact nkL_z K r (i + 1) j (by omega) q
    · rw [nkL_hit c] at q; omega
theorem nk_z {K : Nat → Int32} {f n j : Nat} (h : f < j) (q : j < nk K f n) : K j = 0 := nkL_z K _ _ j h q
theorem nk_back {K : Nat → Int32} {f n i : Nat} (hv : (i ≤ n - 1 → nkL K (n - 1 - i) i = nk K f n) ∧ (i = n → nk K f n = n - 1)) (hi : i < n) (h0 : K i = 0) : (i + 1 ≤ n - 1 → nkL K (n - 1 - (i + 1)) (i + 1) = nk K f n) ∧ (i + 1 = n → nk K f n = n - 1) := by
  have e := hv.1 (by omega)
  refine ⟨fun q => ?_, fun q => ?_⟩
  · rw [← e, show n - 1 - i = (n - 1 - (i + 1)) + 1 by omega, nkL_miss h0]
  · rw [← e, show n - 1 - i = 0 by omega, nkL]; omega
/-- the kept vertices behind some rounds -/
def smp (S : FS) (p n : Nat) (lim : Int32) : Nat → (Nat → Int32) → Nat → (Nat → Int32)
  | 0, K, _ => K
  | r + 1, K, f => if f < n - 1 then (if f < wR S (p + f) (p + nk K f n) lim - p then smp S p n lim r (upd K (wR S (p + f) (p + nk K f n) lim - p) 1) f else smp S p n lim r K (nk K f n)) else K
theorem smp_e {S : FS} {p n : Nat} {lim : Int32} {r : Nat} {K : Nat → Int32} {f : Nat} (h : r = 0 ∨ n - 1 ≤ f) : smp S p n lim r K f = K := by
  cases r with
  | zero => rfl
  | succ r => rw [smp, if_neg (by omega)]
theorem smp_t {S : FS} {p n : Nat} {lim : Int32} {r : Nat} {K : Nat → Int32} {f : Nat} (h : f < n - 1) (h2 : f < wR S (p + f) (p + nk K f n) lim - p) : smp S p n lim (r + 1) K f = smp S p n lim r (upd K (wR S (p + f) (p + nk K f n) lim - p) 1) f := by
  rw [smp, if_pos h, if_pos h2]
theorem smp_f {S : FS} {p n : Nat} {lim : Int32} {r : Nat} {K : Nat → Int32} {f : Nat} (h : f < n - 1) (h2 : ¬ f < wR S (p + f) (p + nk K f n) lim - p) : smp S p n lim (r + 1) K f = smp S p n lim r K (nk K f n) := by
  rw [smp, if_pos h, if_neg h2]
def kz (n : Nat) : Nat → Int32 := fun i => if i = 0 ∨ i = n - 1 then 1 else 0
theorem nar_b1 : vp_nar .boolean 1 = 1 := by decide +kernel
theorem nar_b0 : vp_nar .boolean 0 = 0 := by decide +kernel
theorem kz_1 {n j : Nat} (h : j = 0 ∨ j = n - 1) : vp_nar .boolean 1 = kz n j := by
  unfold kz; rw [if_pos h, nar_b1]
theorem kz_0 {n j : Nat} (h : ¬ (j = 0 ∨ j = n - 1)) : vp_nar .boolean 0 = kz n j := by
  unfold kz; rw [if_neg h, nar_b0]
theorem kz_up {U U' : vM} {a p n j : Nat} {b : Int32} (hK : ∀ i, i < j → U a (p + i) = kz n i) (e : U' = uM U a (p + j) (vp_nar .boolean b)) (hb : vp_nar .boolean b = kz n j) : ∀ i, i < j + 1 → U' a (p + i) = kz n i := by
  intro i hi
  rw [e]
  by_cases q : i = j
  · subst q; rw [uM_hit, hb]
  · rw [uM_ni (by omega), hK i (by omega)]
theorem K_up {U U' : vM} {a p n w : Nat} {K : Nat → Int32} (hK : ∀ i, i < n → U a (p + i) = K i) (e : U' = uM U a (p + w) (vp_nar .boolean 1)) : ∀ i, i < n → U' a (p + i) = upd K w 1 i := by
  intro i hi
  rw [e]
  unfold upd
  by_cases q : i = w
  · rw [if_pos q, q, uM_hit, nar_b1]
  · rw [if_neg q, uM_ni (by omega), hK i hi]
def fr7 (V U : vM) : Prop := ∀ a i, a ≠ 7 → a ≠ 27 → U a i = V a i
theorem fr7.st {V U U' : vM} (h : fr7 V U) {a i : Nat} {x : Int32} (e : U' = uM U a i x) (ha : a = 7 ∨ a = 27) : fr7 V U' := by
  intro b j h1 h2
  rw [e, uM_na (by omega)]
  exact h b j h1 h2
theorem fr7.refl (V : vM) : fr7 V V := fun _ _ _ _ => rfl
theorem FRC.ag {V U : vM} {S : FS} (h : FRC V S) (q : ∀ a i, (a = 6 ∨ (20 ≤ a ∧ a ≤ 25)) → U a i = V a i) : FRC U S :=
  ⟨by rw [q 6 7 (by omega)]; exact h.1, by rw [q 6 8 (by omega)]; exact h.2.1, fun i hi => by rw [q 20 i (by omega), q 21 i (by omega), q 22 i (by omega), q 23 i (by omega)]; exact h.2.2.1 i hi, fun j hj => by rw [q 24 j (by omega)]; exact h.2.2.2.1 j hj, fun j hj => by rw [q 25 j (by omega)]; exact h.2.2.2.2 j hj⟩
theorem CS.ag {V U : vM} {m : Nat → Int32} {N : Nat} {t : Int32} (h : CS V m N t) (q : ∀ a i, (a ≤ 1 ∨ a = 6 ∨ a = 12 ∨ a = 13 ∨ (20 ≤ a ∧ a ≤ 25)) → U a i = V a i) : CS U m N t :=
  ⟨h.1.kept (fun i => q 1 i (by omega)) (fun i => q 12 i (by omega)) (fun i => q 13 i (by omega)), by rw [q 0 11 (by omega)]; exact h.2.1, fun z => (h.2.2 (by rw [q 0 12 (by omega)] at z; exact z)).ag (fun a i e => q a i (by omega))⟩
theorem CQ.ag {V U : vM} {m : Nat → Int32} {N : Nat} {t : Int32} {S : FS} {fb : Nat → Nat} (h : CQ V m N t S fb) (q : ∀ a i, (a ≤ 1 ∨ a = 6 ∨ a = 12 ∨ a = 13 ∨ (20 ≤ a ∧ a ≤ 25)) → U a i = V a i) : CQ U m N t S fb := ⟨h.1.ag q, h.2⟩
/-- what a question leaves alone on the class's side -/
def pk (a i : Nat) : Prop := a ≠ 2 ∧ a ≠ 6 ∧ a ≠ 7 ∧ a ≠ 11 ∧ a ≠ 14 ∧ a ≠ 15 ∧ (a < 20 ∨ 27 < a) ∧ a ≠ 29 ∧ a ≠ 30 ∧ a ≠ 34 ∧ a ≠ 35 ∧ (a < 37 ∨ 48 < a) ∧ (a = 0 → i ≠ 12) ∧ (a = 8 → i ≠ 3)
def frK (V U : vM) : Prop := ∀ a i, pk a i → U a i = V a i
theorem frK.refl (V : vM) : frK V V := fun _ _ _ => rfl
theorem frK.trans {V U W : vM} (h : frK V U) (k : frK U W) : frK V W := fun a i p => by rw [k a i p, h a i p]
theorem frQ.K {V U : vM} (h : frQ V U) : frK V U := fun a i p => by
  obtain ⟨p1, p2, p3, p4, p5, p6, p7, p8, p9, p10, p11, p12, p13, p14⟩ := p
  exact h a i p13 p2 (by omega) (by omega) (by omega)
theorem fr7.K {V U : vM} (h : fr7 V U) : frK V U := fun a i p => by
  obtain ⟨p1, p2, p3, p4, p5, p6, p7, p8, p9, p10, p11, p12, p13, p14⟩ := p
  exact h a i p3 (by omega)
/-- and on the model's -/
def frN (V U : vM) : Prop := ∀ a i, a < 58 → (a = 49 → i < 16) → U a i = V a i
theorem frN.refl (V : vM) : frN V V := fun _ _ _ _ => rfl
theorem frN.trans {V U W : vM} (h : frN V U) (k : frN U W) : frN V W := fun a i p q => by rw [k a i p q, h a i p q]
theorem frM.N {V U : vM} (h : frM V U) : frN V U := fun a i p q => h a i (fun e => by have := q e; omega) (by omega)
def fr69 (V U : vM) : Prop := ∀ a i, a ≠ 69 → U a i = V a i
theorem fr69.refl (V : vM) : fr69 V V := fun _ _ _ => rfl
theorem fr69.st {V U U' : vM} (h : fr69 V U) {i : Nat} {x : Int32} (e : U' = uM U 69 i x) : fr69 V U' := by
  intro b j h1
  rw [e, uM_na h1]
  exact h b j h1
theorem fr69.N {V U : vM} (h : fr69 V U) : frN V U := fun a i p _ => h a i (by omega)
theorem FRM.ag {V U : vM} {S : FS} {kc : Nat} (h : FRM V S kc) (q : ∀ a i, (a = 49 → i = 32 ∨ i = 34) → (a = 49 ∨ (62 ≤ a ∧ a ≤ 66)) → U a i = V a i) : FRM U S kc :=
  ⟨by rw [q 49 32 (by omega) (by omega)]; exact h.1, by rw [q 49 34 (by omega) (by omega)]; exact h.2.1, fun i hi => by rw [q 62 i (by omega) (by omega), q 63 i (by omega) (by omega), q 64 i (by omega) (by omega)]; exact h.2.2.1 i hi, fun j hj => by rw [q 65 j (by omega) (by omega)]; exact h.2.2.2.1 j hj, fun j hj => by rw [q 66 j (by omega) (by omega)]; exact h.2.2.2.2 j hj⟩
theorem MZ.ag {V U : vM} {m : Nat → Int32} {N : Nat} {t : Int32} {S : FS} {fb : Nat → Nat} (h : MZ V m N t S fb) (q : ∀ i, U 50 i = V 50 i) : MZ U m N t S fb := ⟨h.1, by funext j; rw [q j, h.2.1], h.2.2⟩
/-- how many of the first j are kept; how many aren't -/
def kc (K : Nat → Int32) : Nat → Nat
  | 0 => 0
  | j + 1 => if K j = 0 then kc K j else kc K j + 1
theorem kc_le (K : Nat → Int32) : ∀ j, kc K j ≤ j
  | 0 => Nat.le_refl _
  | j + 1 => by
    have := kc_le K j
    unfold kc
    split <;> omega
theorem kc_z {K : Nat → Int32} {j : Nat} (h : K j = 0) : kc K (j + 1) = kc K j := by rw [kc, if_pos h]
theorem kc_n {K : Nat → Int32} {j : Nat} (h : ¬ K j = 0) : kc K (j + 1) = kc K j + 1 := by rw [kc, if_neg h]
def uc (K : Nat → Int32) : Nat → Nat
  | 0 => 0
  | j + 1 => if K j = 0 then uc K j + 1 else uc K j
theorem uc_le (K : Nat → Int32) (h : ¬ K 0 = 0) : ∀ j, uc K (j + 1) ≤ j
  | 0 => by unfold uc uc; rw [if_neg h]; exact Nat.le_refl _
  | j + 1 => by
    have := uc_le K h j
    rw [uc]
    split <;> omega
theorem uc_up {K : Nat → Int32} {w : Nat} (h : K w = 0) : ∀ j, (j ≤ w → uc (upd K w 1) j = uc K j) ∧ (w < j → uc (upd K w 1) j + 1 = uc K j)
  | 0 => ⟨fun _ => rfl, fun q => absurd q (Nat.not_lt_zero _)⟩
  | j + 1 => by
    obtain ⟨i1, i2⟩ := uc_up h j
    rw [uc, uc]
    by_cases e : j = w
    · subst e
      have : ¬ upd K j 1 j = 0 := by unfold upd; rw [if_pos rfl]; decide
      rw [if_neg this, if_pos h, i1 (Nat.le_refl _)]
      exact ⟨fun q => by omega, fun _ => rfl⟩
    · have : upd K w 1 j = K j := by unfold upd; rw [if_neg e]
      rw [this]
      split
      · exact ⟨fun q => by rw [i1 (by omega)], fun q => by have := i2 (by omega); omega⟩
      · exact ⟨fun q => i1 (by omega), fun q => i2 (by omega)⟩
def kvL (K : Nat → Int32) (x : Int32) : Nat → Nat → Int32
  | 0, _ => -1000006
  | r + 1, i => if ¬ K i = 0 ∧ nI (kc K i) = x then nI i else kvL K x r (i + 1)
theorem kvL_hit {K : Nat → Int32} {x : Int32} {r i : Nat} (h : ¬ K i = 0) (e : nI (kc K i) = x) : kvL K x (r + 1) i = nI i := by
  rw [kvL, if_pos ⟨h, e⟩]
theorem kvL_miss {K : Nat → Int32} {x : Int32} {r i : Nat} (h : ¬ (¬ K i = 0 ∧ nI (kc K i) = x)) : kvL K x (r + 1) i = kvL K x r (i + 1) := by
  rw [kvL, if_neg h]
def smR (S : FS) (p n : Nat) (lim x : Int32) : Int32 := if x = -1 then nI (kc (smp S p n lim (2 * n) (kz n) 0) n) else kvL (smp S p n lim (2 * n) (kz n) 0) x n 0
def smZ (S : FS) (fb : Nat → Nat) (c lim x : Int32) : Int32 := if 0 ≤ c ∧ c < nI S.2.1 then (if 0 ≤ lim ∧ lim ≤ 1000 then smR S (fb c.toNatClampNeg) (fb (c.toNatClampNeg + 1) - fb c.toNatClampNeg) lim x else -1000002) else -1000001
theorem smZ_no {S : FS} {fb : Nat → Nat} {c lim x : Int32} (h : ¬ (0 ≤ c ∧ c < nI S.2.1)) : smZ S fb c lim x = -1000001 := if_neg h
theorem smZ_l {S : FS} {fb : Nat → Nat} {c lim x : Int32} (h : 0 ≤ c ∧ c < nI S.2.1) (h2 : ¬ (0 ≤ lim ∧ lim ≤ 1000)) : smZ S fb c lim x = -1000002 := by
  unfold smZ; rw [if_pos h, if_neg h2]
theorem smZ_k {S : FS} {fb : Nat → Nat} {c lim x : Int32} {k : Nat} (h24 : S.2.1 ≤ 24) (hk : c = nI k) (hS : k < S.2.1) (h2 : 0 ≤ lim ∧ lim ≤ 1000) : smZ S fb c lim x = smR S (fb k) (fb (k + 1) - fb k) lim x := by
  unfold smZ
  rw [hk, if_pos (nI_bt (by omega) hS), if_pos h2, nI_clamp (by omega)]
set_option maxHeartbeats 1000000 in
set_option maxRecDepth 100000 in
theorem mX7_nextKept {g : gX} (V : vM) (n : Nat) (hn : V 7 2 = nI n) (hnb : n ≤ 1536) (K : Nat → Int32) (hK : ∀ i, i < n → V 27 i = K i) (f : Nat) (hf : f < n - 1) : MM g jX7_nextKept V [.ref (g.2.1 7), .int (nI f)] (pI V (nI (nk K f n))) := by
  refine MM.of plX7_nextKept (Nat.le_of_ble_eq_true rfl) ?_
  obtain ⟨Q, hQ⟩ : ∃ Q : Option Value → vM → Prop, Q = (pI V (nI (nk K f n))) := ⟨_, rfl⟩
  rw [← hQ]
  show XX g jX7_nextKept Q V 0 [(0, .ref (g.2.1 7)), (1, .int (nI f))] []
  refine x_iload_n dX7_nextKept_0 1 rfl ?_
  refine x_iconst (v := 1) dX7_nextKept_1 (by decide) ?_
  refine x_iadd dX7_nextKept_2 ?_
  refine x_istore_n 2 [(2, .int ((nI f) + 1)), (0, .ref (g.2.1 7)), (1, .int (nI f))] dX7_nextKept_3 rfl (by decide) rfl ?_
  have lp1 : ∀ (fu : Nat) (i : Nat), (f + 1 ≤ i ∧ i ≤ n) → ((i ≤ n - 1 → nkL K (n - 1 - i) i = nk K f n) ∧ (i = n → nk K f n = n - 1)) → (n - i) < fu → XX g jX7_nextKept Q V 4 [(2, .int (nI i)), (0, .ref (g.2.1 7)), (1, .int (nI f))] [] := by
    intro fu
    induction fu with
    | zero => intro _ _ _ hmz; exact absurd hmz (Nat.not_lt_zero _)
    | succ fu ih =>
      intro i hi hv hmz
      refine x_iload_n dX7_nextKept_4 0 rfl ?_
      refine x_aload_n dX7_nextKept_5 1 rfl ?_
      refine x_getI fl_X7_19 rfl rfl dX7_nextKept_6 ?_
      refine x_topi (hn) ?_
      refine x_icmp_ge 29 dX7_nextKept_9 (by decide) (fun c2 => ?_) (fun c2 => ?_)
      · have c2n : n ≤ i := (nl_le (a := n) (b := i) (rfl) (rfl) (by omega) (by omega)).mp c2
        refine x_aload_n dX7_nextKept_29 1 rfl ?_
        refine x_getI fl_X7_19 rfl rfl dX7_nextKept_30 ?_
        refine x_topi (hn) ?_
        refine x_iconst (v := 1) dX7_nextKept_33 (by decide) ?_
        refine x_isub dX7_nextKept_34 ?_
        refine x_iret dX7_nextKept_35 rfl ?_
        rw [hQ]
        refine ⟨rfl, ?_⟩
        rw [hv.2 (by omega), nI_s1 (by omega)]
      · have c2n : i < n := Nat.not_le.mp (fun q => c2 ((nl_le (a := n) (b := i) (rfl) (rfl) (by omega) (by omega)).mpr q))
        refine x_aload_n dX7_nextKept_12 1 rfl ?_
        refine x_getR fl_X7_9 rfl rfl dX7_nextKept_13 ?_
        refine x_iload_n dX7_nextKept_16 0 rfl ?_
        have b3 : vp_in (nI i) 1536 := by exact vp_in_nI (by omega) (by decide)
        refine x_zald rfl b3 dX7_nextKept_17 ?_
        refine x_topi (y := V 27 i) (by rw [nI_clamp (by omega)]) ?_
        refine x_topi (hK i (by omega)) ?_
        refine x_if_eq 23 dX7_nextKept_18 (by decide) (fun c4 => ?_) (fun c4 => ?_)
        · refine x_iinc 2 (v := (nI i) + 1) 0 [(2, .int ((nI i) + 1)), (0, .ref (g.2.1 7)), (1, .int (nI f))] dX7_nextKept_23 rfl (by rfl) (by decide) rfl ?_
          refine x_goto 4 dX7_nextKept_26 (by decide) ?_
          refine YY.L (lv' := [(2, .int (nI (i + 1))), (0, .ref (g.2.1 7)), (1, .int (nI f))]) (by rw [nI_1] <;> rfl) ?_
          exact ih (i + 1) (by omega) (by exact nk_back hv (by omega) (by assumption)) (by omega)
        · refine x_iload_n dX7_nextKept_21 0 rfl ?_
          refine x_iret dX7_nextKept_22 rfl ?_
          rw [hQ]
          refine ⟨rfl, ?_⟩
          rw [← hv.1 (by omega), nkL_hit (by assumption)]
  refine YY.L (lv' := [(2, .int (nI (f + 1))), (0, .ref (g.2.1 7)), (1, .int (nI f))]) (by rw [nI_1]) ?_
  exact lp1 _ (f + 1) (by omega) (by exact ⟨fun _ => rfl, fun q => absurd q (by omega)⟩) (Nat.lt_succ_self _)
set_option maxHeartbeats 2000000 in
set_option maxRecDepth 100000 in
theorem mX7_simplify {g : gX} {V : vM} {S : FS} {fb : Nat → Nat} (hF : FRC V S) (hG : GI S fb) (h24 : S.2.1 ≤ 24) (h15 : S.1 ≤ 1536) (c : Nat) (hc : c < S.2.1) (lim : Int32) : MM g jX7_simplify V [.ref (g.2.1 7), .ref (g.2.1 6), .int (nI c), .int lim] (eV (fun U => fr7 V U ∧ U 7 1 = nI (fb c) ∧ U 7 2 = nI (fb (c + 1) - fb c) ∧ ∀ i, i < fb (c + 1) - fb c → U 27 i = smp S (fb c) (fb (c + 1) - fb c) lim (2 * (fb (c + 1) - fb c)) (kz (fb (c + 1) - fb c)) 0 i)) := by
  refine MM.of plX7_simplify (Nat.le_of_ble_eq_true rfl) ?_
  obtain ⟨Q, hQ⟩ : ∃ Q : Option Value → vM → Prop, Q = (eV (fun U => fr7 V U ∧ U 7 1 = nI (fb c) ∧ U 7 2 = nI (fb (c + 1) - fb c) ∧ ∀ i, i < fb (c + 1) - fb c → U 27 i = smp S (fb c) (fb (c + 1) - fb c) lim (2 * (fb (c + 1) - fb c)) (kz (fb (c + 1) - fb c)) 0 i)) := ⟨_, rfl⟩
  rw [← hQ]
  show XX g jX7_simplify Q V 0 [(0, .ref (g.2.1 7)), (1, .ref (g.2.1 6)), (2, .int (nI c)), (3, .int lim)] []
  have hFV := hF
  have hkb := hG.bd (j := c + 1) (by omega)
  have hkl := (hG.2.2.2 c hc).1
  obtain ⟨p, ep⟩ : ∃ z : Nat, z = fb c := ⟨_, rfl⟩
  obtain ⟨n, en⟩ : ∃ z : Nat, z = fb (c + 1) - fb c := ⟨_, rfl⟩
  refine x_aload_n dX7_simplify_0 0 rfl ?_
  refine x_aload_n dX7_simplify_1 1 rfl ?_
  refine x_iload_n dX7_simplify_2 2 rfl ?_
  refine x_callV (K := jX1_firstOf) [.int (nI c)] lk_X7_22 ⟨⟨rfl, rfl⟩, Nat.le_of_ble_eq_true rfl, Nat.le_of_ble_eq_true rfl⟩ rfl rfl (mX1_firstOf hF hG h24 h15 c (by omega)) rfl (Nat.le_of_ble_eq_true rfl) rfl dX7_simplify_3 (kpI ?_)
  refine x_putI fp_X7_15 rfl rfl dX7_simplify_6 ?_
  obtain ⟨U1, eU1⟩ : ∃ v_v : vM, v_v = uM V 7 1 (nI (fb c)) := ⟨_, rfl⟩
  refine YY.V eU1.symm ?_
  have hfr := (fr7.refl V).st eU1 (Or.inl rfl)
  have hF := hF.ag (fun a i q => hfr a i (by omega) (by omega))
  rw [← ep] at eU1
  refine x_aload_n dX7_simplify_9 0 rfl ?_
  refine x_aload_n dX7_simplify_10 1 rfl ?_
  refine x_iload_n dX7_simplify_11 2 rfl ?_
  refine x_iload_n dX7_simplify_12 2 rfl ?_
  refine x_iconst (v := 1) dX7_simplify_13 (by decide) ?_
  refine x_iadd dX7_simplify_14 ?_
  have q2 : ((nI c) + 1 : Int32) = nI (c + 1) := nadd (rfl) (rfl)
  refine YY.S (st' := [.int (nI (c + 1)), .int (nI c), .ref (g.2.1 6), .ref (g.2.1 7)]) (by rw [q2]) ?_
  refine x_callV (K := jX1_verticesIn) [.int (nI c), .int (nI (c + 1))] lk_X7_28 ⟨⟨rfl, rfl⟩, Nat.le_of_ble_eq_true rfl, Nat.le_of_ble_eq_true rfl⟩ rfl rfl (mX1_verticesIn hF hG h24 h15 c 1 (by omega)) rfl (Nat.le_of_ble_eq_true rfl) rfl dX7_simplify_15 (kpI ?_)
  refine x_topi (y := nI n) (by rw [en]) ?_
  refine x_putI fp_X7_19 rfl rfl dX7_simplify_18 ?_
  obtain ⟨U3, eU3⟩ : ∃ v_v : vM, v_v = uM U1 7 2 (nI n) := ⟨_, rfl⟩
  refine YY.V eU3.symm ?_
  have hfr2 := hfr.st eU3 (Or.inl rfl)
  have q1 : U3 7 1 = nI p := by rw [eU3, uM_ni (by decide), eU1, uM_hit]
  have q2 : U3 7 2 = nI n := by rw [eU3, uM_hit]
  refine x_iconst (v := 0) dX7_simplify_21 (by decide) ?_
  refine x_istore 4 [(4, .int 0), (0, .ref (g.2.1 7)), (1, .ref (g.2.1 6)), (2, .int (nI c)), (3, .int lim)] dX7_simplify_22 (by decide) rfl ?_
  have lp4 : ∀ (fu : Nat) (j : Nat) (U : vM), (j ≤ n) → (fr7 V U) → (U 7 1 = nI p) → (U 7 2 = nI n) → (∀ i, i < j → U 27 i = kz n i) → (n - j) < fu → XX g jX7_simplify Q U 24 [(4, .int (nI j)), (0, .ref (g.2.1 7)), (1, .ref (g.2.1 6)), (2, .int (nI c)), (3, .int lim)] [] := by
    intro fu
    induction fu with
    | zero => intro _ _ _ _ _ _ _ hmz; exact absurd hmz (Nat.not_lt_zero _)
    | succ fu ih =>
      intro j U hj hfU h1 h2 hK hmz
      refine x_iload dX7_simplify_24 0 rfl ?_
      refine x_aload_n dX7_simplify_26 1 rfl ?_
      refine x_getI fl_X7_19 rfl rfl dX7_simplify_27 ?_
      refine x_topi (h2) ?_
      refine x_icmp_ge 67 dX7_simplify_30 (by decide) (fun c5 => ?_) (fun c5 => ?_)
      · have c5n : n ≤ j := (nl_le (a := n) (b := j) (rfl) (rfl) (by omega) (by omega)).mp c5
        refine x_iconst (v := 0) dX7_simplify_67 (by decide) ?_
        refine x_istore 4 [(4, .int 0), (0, .ref (g.2.1 7)), (1, .ref (g.2.1 6)), (2, .int (nI c)), (3, .int lim)] dX7_simplify_68 (by decide) rfl ?_
        refine x_iconst (v := 0) dX7_simplify_70 (by decide) ?_
        refine x_istore 5 [(5, .int 0), (4, .int 0), (0, .ref (g.2.1 7)), (1, .ref (g.2.1 6)), (2, .int (nI c)), (3, .int lim)] dX7_simplify_71 (by decide) rfl ?_
        have lp6 : ∀ (fu1 : Nat) (r : Nat) (f : Nat) (K : Nat → Int32) (U : vM), (r ≤ 2 * n) → (f ≤ n - 1) → (fr7 V U) → (U 7 1 = nI p) → (U 7 2 = nI n) → (∀ i, i < n → U 27 i = K i) → (smp S p n lim (2 * n - r) K f = smp S p n lim (2 * n) (kz n) 0) → (2 * n - r) < fu1 → XX g jX7_simplify Q U 73 [(5, .int (nI r)), (4, .int (nI f)), (0, .ref (g.2.1 7)), (1, .ref (g.2.1 6)), (2, .int (nI c)), (3, .int lim)] [] := by
          intro fu1
          induction fu1 with
          | zero => intro _ _ _ _ _ _ _ _ _ _ _ hmz; exact absurd hmz (Nat.not_lt_zero _)
          | succ fu1 ih1 =>
            intro r f K U hr hf hfU h1 h2 hK hS hmz
            have hF := hFV.ag (fun a i q => hfU a i (by omega) (by omega))
            refine x_iload dX7_simplify_73 0 rfl ?_
            refine x_iconst (v := 2) dX7_simplify_75 (by decide) ?_
            refine x_aload_n dX7_simplify_76 2 rfl ?_
            refine x_getI fl_X7_19 rfl rfl dX7_simplify_77 ?_
            refine x_topi (h2) ?_
            refine x_imul dX7_simplify_80 ?_
            refine x_icmp_ge 143 dX7_simplify_81 (by decide) (fun c7 => ?_) (fun c7 => ?_)
            · have c7n : 2 * n ≤ r := (nl_le (a := 2 * n) (b := r) (nmul (rfl) (rfl)) (rfl) (by omega) (by omega)).mp c7
              refine x_vret dX7_simplify_143 rfl ?_
              rw [hQ]
              subst ep en
              exact ⟨rfl, hfU, h1, h2, fun i hi => by rw [hK i hi, ← hS, smp_e (by omega)]⟩
            · have c7n : r < 2 * n := Nat.not_le.mp (fun q => c7 ((nl_le (a := 2 * n) (b := r) (nmul (rfl) (rfl)) (rfl) (by omega) (by omega)).mpr q))
              refine x_iload dX7_simplify_84 1 rfl ?_
              refine x_aload_n dX7_simplify_86 2 rfl ?_
              refine x_getI fl_X7_19 rfl rfl dX7_simplify_87 ?_
              refine x_topi (h2) ?_
              refine x_iconst (v := 1) dX7_simplify_90 (by decide) ?_
              refine x_isub dX7_simplify_91 ?_
              refine x_icmp_ge 143 dX7_simplify_92 (by decide) (fun c8 => ?_) (fun c8 => ?_)
              · have c8n : n - 1 ≤ f := (nl_le (a := n - 1) (b := f) (nsub (by omega) (rfl) (rfl)) (rfl) (by omega) (by omega)).mp c8
                refine x_vret dX7_simplify_143 rfl ?_
                rw [hQ]
                subst ep en
                exact ⟨rfl, hfU, h1, h2, fun i hi => by rw [hK i hi, ← hS, smp_e (by omega)]⟩
              · have c8n : f < n - 1 := Nat.not_le.mp (fun q => c8 ((nl_le (a := n - 1) (b := f) (nsub (by omega) (rfl) (rfl)) (rfl) (by omega) (by omega)).mpr q))
                refine x_aload_n dX7_simplify_95 2 rfl ?_
                refine x_iload dX7_simplify_96 1 rfl ?_
                refine x_callV (K := jX7_nextKept) [.int (nI f)] lk_X7_32 ⟨⟨rfl, rfl⟩, Nat.le_of_ble_eq_true rfl, Nat.le_of_ble_eq_true rfl⟩ rfl rfl (mX7_nextKept U n h2 (by omega) K hK f (by omega)) rfl (Nat.le_of_ble_eq_true rfl) rfl dX7_simplify_98 (kpI ?_)
                have hnb := nk_b K (f := f) (n := n) (by omega)
                refine x_istore 6 [(6, .int (nI (nk K f n))), (5, .int (nI r)), (4, .int (nI f)), (0, .ref (g.2.1 7)), (1, .ref (g.2.1 6)), (2, .int (nI c)), (3, .int lim)] dX7_simplify_101 (by decide) rfl ?_
                refine x_aload_n dX7_simplify_103 3 rfl ?_
                refine x_aload_n dX7_simplify_104 4 rfl ?_
                refine x_iload dX7_simplify_105 2 rfl ?_
                refine x_iload dX7_simplify_107 0 rfl ?_
                refine x_iload_n dX7_simplify_109 6 rfl ?_
                refine x_callV (K := jX7_worstBetween) [.ref (g.2.1 6), .int (nI f), .int (nI (nk K f n)), .int lim] lk_X7_35 ⟨⟨rfl, rfl⟩, Nat.le_of_ble_eq_true rfl, Nat.le_of_ble_eq_true rfl⟩ rfl rfl (mX7_worstBetween hF hG h24 h15 p n h1 (by omega) f (nk K f n) (by omega) (by omega) lim) rfl (Nat.le_of_ble_eq_true rfl) rfl dX7_simplify_110 (kpI ?_)
                have hwb := wR_b S lim (a := p + f) (b := p + (nk K f n)) (by omega)
                refine x_istore 7 [(7, .int (nI (wR S (p + f) (p + (nk K f n)) lim - p))), (6, .int (nI (nk K f n))), (5, .int (nI r)), (4, .int (nI f)), (0, .ref (g.2.1 7)), (1, .ref (g.2.1 6)), (2, .int (nI c)), (3, .int lim)] dX7_simplify_113 (by decide) rfl ?_
                refine x_iload dX7_simplify_115 0 rfl ?_
                refine x_iload dX7_simplify_117 3 rfl ?_
                refine x_icmp_le 133 dX7_simplify_119 (by decide) (fun c9 => ?_) (fun c9 => ?_)
                · have c9n : wR S (p + f) (p + (nk K f n)) lim - p ≤ f := (nl_le (a := wR S (p + f) (p + (nk K f n)) lim - p) (b := f) (rfl) (rfl) (by omega) (by omega)).mp c9
                  refine x_iload dX7_simplify_133 1 rfl ?_
                  refine x_istore 4 [(4, .int (nI (nk K f n))), (7, .int (nI (wR S (p + f) (p + (nk K f n)) lim - p))), (6, .int (nI (nk K f n))), (5, .int (nI r)), (0, .ref (g.2.1 7)), (1, .ref (g.2.1 6)), (2, .int (nI c)), (3, .int lim)] dX7_simplify_135 (by decide) rfl ?_
                  refine x_iinc 5 (v := (nI r) + 1) 3 [(5, .int ((nI r) + 1)), (4, .int (nI (nk K f n))), (7, .int (nI (wR S (p + f) (p + (nk K f n)) lim - p))), (6, .int (nI (nk K f n))), (0, .ref (g.2.1 7)), (1, .ref (g.2.1 6)), (2, .int (nI c)), (3, .int lim)] dX7_simplify_137 rfl (by rfl) (by decide) rfl ?_
                  refine x_goto 73 dX7_simplify_140 (by decide) ?_
                  refine x_lv [0, 1, 4, 5, 6, 7] rfl ?_
                  refine YY.L (lv' := [(5, .int (nI (r + 1))), (4, .int (nI (nk K f n))), (0, .ref (g.2.1 7)), (1, .ref (g.2.1 6)), (2, .int (nI c)), (3, .int lim)]) (by rw [nI_1] <;> rfl) ?_
                  exact ih1 (r + 1) (nk K f n) K U (by omega) (by omega) (by exact hfU) (by exact h1) (by exact h2) (by exact hK) (by rw [← hS, show 2 * n - r = (2 * n - (r + 1)) + 1 by omega, smp_f (by omega) (by omega)]) (by omega)
                · have c9n : f < wR S (p + f) (p + (nk K f n)) lim - p := Nat.not_le.mp (fun q => c9 ((nl_le (a := wR S (p + f) (p + (nk K f n)) lim - p) (b := f) (rfl) (rfl) (by omega) (by omega)).mpr q))
                  refine x_aload_n dX7_simplify_122 4 rfl ?_
                  refine x_getR fl_X7_9 rfl rfl dX7_simplify_123 ?_
                  refine x_iload dX7_simplify_126 0 rfl ?_
                  refine x_iconst (v := 1) dX7_simplify_128 (by decide) ?_
                  have b10 : vp_in (nI (wR S (p + f) (p + (nk K f n)) lim - p)) 1536 := by exact vp_in_nI (by omega) (by decide)
                  refine x_zast rfl b10 dX7_simplify_129 ?_
                  refine YY.V (V' := uM U 27 (wR S (p + f) (p + (nk K f n)) lim - p) (vp_nar .boolean 1)) (by rw [nI_clamp (by omega)]) ?_
                  obtain ⟨U11, eU11⟩ : ∃ v_v : vM, v_v = uM U 27 (wR S (p + f) (p + (nk K f n)) lim - p) (vp_nar .boolean 1) := ⟨_, rfl⟩
                  refine YY.V eU11.symm ?_
                  refine x_goto 137 dX7_simplify_130 (by decide) ?_
                  refine x_iinc 5 (v := (nI r) + 1) 2 [(5, .int ((nI r) + 1)), (7, .int (nI (wR S (p + f) (p + (nk K f n)) lim - p))), (6, .int (nI (nk K f n))), (4, .int (nI f)), (0, .ref (g.2.1 7)), (1, .ref (g.2.1 6)), (2, .int (nI c)), (3, .int lim)] dX7_simplify_137 rfl (by rfl) (by decide) rfl ?_
                  refine x_goto 73 dX7_simplify_140 (by decide) ?_
                  refine x_lv [0, 3, 4, 5, 6, 7] rfl ?_
                  refine YY.L (lv' := [(5, .int (nI (r + 1))), (4, .int (nI f)), (0, .ref (g.2.1 7)), (1, .ref (g.2.1 6)), (2, .int (nI c)), (3, .int lim)]) (by rw [nI_1] <;> rfl) ?_
                  exact ih1 (r + 1) f (upd K (wR S (p + f) (p + nk K f n) lim - p) 1) U11 (by omega) (by omega) (by exact hfU.st eU11 (Or.inr rfl)) (by rw [eU11, uM_na (by decide)]; exact h1) (by rw [eU11, uM_na (by decide)]; exact h2) (by have z := K_up (a := 27) (p := 0) (n := n) (w := wR S (p + f) (p + nk K f n) lim - p) (K := K) (U := U) (U' := U11) (fun i hi => by rw [Nat.zero_add]; exact hK i hi) (by rw [Nat.zero_add]; exact eU11); intro i hi; have := z i hi; rw [Nat.zero_add] at this; exact this) (by rw [← hS, show 2 * n - r = (2 * n - (r + 1)) + 1 by omega, smp_t (by omega) (by omega)]) (by omega)
        refine YY.L (lv' := [(5, .int (nI 0)), (4, .int (nI 0)), (0, .ref (g.2.1 7)), (1, .ref (g.2.1 6)), (2, .int (nI c)), (3, .int lim)]) (by rfl) ?_
        exact lp6 _ 0 0 (kz n) U (by omega) (by omega) (by exact hfU) (by exact h1) (by exact h2) (by exact fun i hi => hK i (by omega)) (by rfl) (Nat.lt_succ_self _)
      · have c5n : j < n := Nat.not_le.mp (fun q => c5 ((nl_le (a := n) (b := j) (rfl) (rfl) (by omega) (by omega)).mpr q))
        refine x_aload_n dX7_simplify_33 1 rfl ?_
        refine x_getR fl_X7_9 rfl rfl dX7_simplify_34 ?_
        refine x_iload dX7_simplify_37 0 rfl ?_
        refine x_iload dX7_simplify_39 0 rfl ?_
        refine x_if_eq 55 dX7_simplify_41 (by decide) (fun c12 => ?_) (fun c12 => ?_)
        · have c12n : j = 0 := (nl_eq (a := j) (b := 0) (rfl) (rfl) (by omega) (by omega)).mp c12
          refine x_iconst (v := 1) dX7_simplify_55 (by decide) ?_
          refine x_goto 60 dX7_simplify_56 (by decide) ?_
          have b13 : vp_in (nI j) 1536 := by exact vp_in_nI (by omega) (by decide)
          refine x_zast rfl b13 dX7_simplify_60 ?_
          refine YY.V (V' := uM U 27 j (vp_nar .boolean 1)) (by rw [nI_clamp (by omega)]) ?_
          obtain ⟨U14, eU14⟩ : ∃ v_v : vM, v_v = uM U 27 j (vp_nar .boolean 1) := ⟨_, rfl⟩
          refine YY.V eU14.symm ?_
          refine x_iinc 4 (v := (nI j) + 1) 0 [(4, .int ((nI j) + 1)), (0, .ref (g.2.1 7)), (1, .ref (g.2.1 6)), (2, .int (nI c)), (3, .int lim)] dX7_simplify_61 rfl (by rfl) (by decide) rfl ?_
          refine x_goto 24 dX7_simplify_64 (by decide) ?_
          refine YY.L (lv' := [(4, .int (nI (j + 1))), (0, .ref (g.2.1 7)), (1, .ref (g.2.1 6)), (2, .int (nI c)), (3, .int lim)]) (by rw [nI_1] <;> rfl) ?_
          exact ih (j + 1) U14 (by omega) (by exact hfU.st eU14 (Or.inr rfl)) (by rw [eU14, uM_na (by decide)]; exact h1) (by rw [eU14, uM_na (by decide)]; exact h2) (by have z := kz_up (a := 27) (p := 0) (n := n) (j := j) (U := U) (U' := U14) (fun i hi => by rw [Nat.zero_add]; exact hK i hi) (by rw [Nat.zero_add]; exact eU14) (kz_1 (by omega)); intro i hi; have := z i hi; rw [Nat.zero_add] at this; exact this) (by omega)
        · have c12n : ¬ j = 0 := fun q => c12 ((nl_eq (a := j) (b := 0) (rfl) (rfl) (by omega) (by omega)).mpr q)
          refine x_iload dX7_simplify_44 0 rfl ?_
          refine x_aload_n dX7_simplify_46 1 rfl ?_
          refine x_getI fl_X7_19 rfl rfl dX7_simplify_47 ?_
          refine x_topi (h2) ?_
          refine x_iconst (v := 1) dX7_simplify_50 (by decide) ?_
          refine x_isub dX7_simplify_51 ?_
          refine x_icmp_ne 59 dX7_simplify_52 (by decide) (fun c15 => ?_) (fun c15 => ?_)
          · have c15n : ¬ j = n - 1 := fun q => c15 ((nl_eq (a := j) (b := n - 1) (rfl) (nsub (by omega) (rfl) (rfl)) (by omega) (by omega)).mpr q)
            refine x_iconst (v := 0) dX7_simplify_59 (by decide) ?_
            have b16 : vp_in (nI j) 1536 := by exact vp_in_nI (by omega) (by decide)
            refine x_zast rfl b16 dX7_simplify_60 ?_
            refine YY.V (V' := uM U 27 j (vp_nar .boolean 0)) (by rw [nI_clamp (by omega)]) ?_
            obtain ⟨U17, eU17⟩ : ∃ v_v : vM, v_v = uM U 27 j (vp_nar .boolean 0) := ⟨_, rfl⟩
            refine YY.V eU17.symm ?_
            refine x_iinc 4 (v := (nI j) + 1) 0 [(4, .int ((nI j) + 1)), (0, .ref (g.2.1 7)), (1, .ref (g.2.1 6)), (2, .int (nI c)), (3, .int lim)] dX7_simplify_61 rfl (by rfl) (by decide) rfl ?_
            refine x_goto 24 dX7_simplify_64 (by decide) ?_
            refine YY.L (lv' := [(4, .int (nI (j + 1))), (0, .ref (g.2.1 7)), (1, .ref (g.2.1 6)), (2, .int (nI c)), (3, .int lim)]) (by rw [nI_1] <;> rfl) ?_
            exact ih (j + 1) U17 (by omega) (by exact hfU.st eU17 (Or.inr rfl)) (by rw [eU17, uM_na (by decide)]; exact h1) (by rw [eU17, uM_na (by decide)]; exact h2) (by have z := kz_up (a := 27) (p := 0) (n := n) (j := j) (U := U) (U' := U17) (fun i hi => by rw [Nat.zero_add]; exact hK i hi) (by rw [Nat.zero_add]; exact eU17) (kz_0 (by omega)); intro i hi; have := z i hi; rw [Nat.zero_add] at this; exact this) (by omega)
          · have c15n : j = n - 1 := (nl_eq (a := j) (b := n - 1) (rfl) (nsub (by omega) (rfl) (rfl)) (by omega) (by omega)).mp c15
            refine x_iconst (v := 1) dX7_simplify_55 (by decide) ?_
            refine x_goto 60 dX7_simplify_56 (by decide) ?_
            have b18 : vp_in (nI j) 1536 := by exact vp_in_nI (by omega) (by decide)
            refine x_zast rfl b18 dX7_simplify_60 ?_
            refine YY.V (V' := uM U 27 j (vp_nar .boolean 1)) (by rw [nI_clamp (by omega)]) ?_
            obtain ⟨U19, eU19⟩ : ∃ v_v : vM, v_v = uM U 27 j (vp_nar .boolean 1) := ⟨_, rfl⟩
            refine YY.V eU19.symm ?_
            refine x_iinc 4 (v := (nI j) + 1) 0 [(4, .int ((nI j) + 1)), (0, .ref (g.2.1 7)), (1, .ref (g.2.1 6)), (2, .int (nI c)), (3, .int lim)] dX7_simplify_61 rfl (by rfl) (by decide) rfl ?_
            refine x_goto 24 dX7_simplify_64 (by decide) ?_
            refine YY.L (lv' := [(4, .int (nI (j + 1))), (0, .ref (g.2.1 7)), (1, .ref (g.2.1 6)), (2, .int (nI c)), (3, .int lim)]) (by rw [nI_1] <;> rfl) ?_
            exact ih (j + 1) U19 (by omega) (by exact hfU.st eU19 (Or.inr rfl)) (by rw [eU19, uM_na (by decide)]; exact h1) (by rw [eU19, uM_na (by decide)]; exact h2) (by have z := kz_up (a := 27) (p := 0) (n := n) (j := j) (U := U) (U' := U19) (fun i hi => by rw [Nat.zero_add]; exact hK i hi) (by rw [Nat.zero_add]; exact eU19) (kz_1 (by omega)); intro i hi; have := z i hi; rw [Nat.zero_add] at this; exact this) (by omega)
  refine YY.L (lv' := [(4, .int (nI 0)), (0, .ref (g.2.1 7)), (1, .ref (g.2.1 6)), (2, .int (nI c)), (3, .int lim)]) (by rfl) ?_
  exact lp4 _ 0 U3 (by omega) (by exact hfr2) (by exact q1) (by exact q2) (by exact fun i hi => absurd hi (Nat.not_lt_zero _)) (Nat.lt_succ_self _)
set_option maxHeartbeats 1000000 in
set_option maxRecDepth 100000 in
theorem mX7_kept {g : gX} (V : vM) (n : Nat) (hn : V 7 2 = nI n) (hnb : n ≤ 1536) (K : Nat → Int32) (hK : ∀ i, i < n → V 27 i = K i) : MM g jX7_kept V [.ref (g.2.1 7)] (pI V (nI (kc K n))) := by
  refine MM.of plX7_kept (Nat.le_of_ble_eq_true rfl) ?_
  obtain ⟨Q, hQ⟩ : ∃ Q : Option Value → vM → Prop, Q = (pI V (nI (kc K n))) := ⟨_, rfl⟩
  rw [← hQ]
  show XX g jX7_kept Q V 0 [(0, .ref (g.2.1 7))] []
  have hkl := kc_le K
  refine x_iconst (v := 0) dX7_kept_0 (by decide) ?_
  refine x_istore_n 1 [(1, .int 0), (0, .ref (g.2.1 7))] dX7_kept_1 rfl (by decide) rfl ?_
  refine x_iconst (v := 0) dX7_kept_2 (by decide) ?_
  refine x_istore_n 2 [(2, .int 0), (1, .int 0), (0, .ref (g.2.1 7))] dX7_kept_3 rfl (by decide) rfl ?_
  have lp1 : ∀ (fu : Nat) (i : Nat), (i ≤ n) → (n - i) < fu → XX g jX7_kept Q V 4 [(2, .int (nI i)), (1, .int (nI (kc K i))), (0, .ref (g.2.1 7))] [] := by
    intro fu
    induction fu with
    | zero => intro _ _ hmz; exact absurd hmz (Nat.not_lt_zero _)
    | succ fu ih =>
      intro i hi hmz
      refine x_iload_n dX7_kept_4 0 rfl ?_
      refine x_aload_n dX7_kept_5 2 rfl ?_
      refine x_getI fl_X7_19 rfl rfl dX7_kept_6 ?_
      refine x_topi (hn) ?_
      refine x_icmp_ge 30 dX7_kept_9 (by decide) (fun c2 => ?_) (fun c2 => ?_)
      · have c2n : n ≤ i := (nl_le (a := n) (b := i) (rfl) (rfl) (by omega) (by omega)).mp c2
        refine x_iload_n dX7_kept_30 1 rfl ?_
        refine x_iret dX7_kept_31 rfl ?_
        rw [hQ]
        refine ⟨rfl, ?_⟩
        rw [show i = n by omega]
      · have c2n : i < n := Nat.not_le.mp (fun q => c2 ((nl_le (a := n) (b := i) (rfl) (rfl) (by omega) (by omega)).mpr q))
        refine x_aload_n dX7_kept_12 2 rfl ?_
        refine x_getR fl_X7_9 rfl rfl dX7_kept_13 ?_
        refine x_iload_n dX7_kept_16 0 rfl ?_
        have b3 : vp_in (nI i) 1536 := by exact vp_in_nI (by omega) (by decide)
        refine x_zald rfl b3 dX7_kept_17 ?_
        refine x_topi (y := V 27 i) (by rw [nI_clamp (by omega)]) ?_
        refine x_topi (hK i (by omega)) ?_
        refine x_if_eq 24 dX7_kept_18 (by decide) (fun c4 => ?_) (fun c4 => ?_)
        · refine x_iinc 2 (v := (nI i) + 1) 0 [(2, .int ((nI i) + 1)), (1, .int (nI (kc K i))), (0, .ref (g.2.1 7))] dX7_kept_24 rfl (by rfl) (by decide) rfl ?_
          refine x_goto 4 dX7_kept_27 (by decide) ?_
          refine YY.L (lv' := [(2, .int (nI (i + 1))), (1, .int (nI (kc K (i + 1)))), (0, .ref (g.2.1 7))]) (by first | (rw [kc_z (by assumption), nI_1] <;> rfl) | (rw [kc_n (by assumption), nI_1, nI_1] <;> rfl)) ?_
          exact ih (i + 1) (by omega) (by omega)
        · refine x_iinc 1 (v := (nI (kc K i)) + 1) 1 [(1, .int ((nI (kc K i)) + 1)), (2, .int (nI i)), (0, .ref (g.2.1 7))] dX7_kept_21 rfl (by rfl) (by decide) rfl ?_
          refine x_iinc 2 (v := (nI i) + 1) 1 [(2, .int ((nI i) + 1)), (1, .int ((nI (kc K i)) + 1)), (0, .ref (g.2.1 7))] dX7_kept_24 rfl (by rfl) (by decide) rfl ?_
          refine x_goto 4 dX7_kept_27 (by decide) ?_
          refine YY.L (lv' := [(2, .int (nI (i + 1))), (1, .int (nI (kc K (i + 1)))), (0, .ref (g.2.1 7))]) (by first | (rw [kc_z (by assumption), nI_1] <;> rfl) | (rw [kc_n (by assumption), nI_1, nI_1] <;> rfl)) ?_
          exact ih (i + 1) (by omega) (by omega)
  refine YY.L (lv' := [(2, .int (nI 0)), (1, .int (nI (kc K 0))), (0, .ref (g.2.1 7))]) (by rfl) ?_
  exact lp1 _ 0 (by omega) (Nat.lt_succ_self _)
set_option maxHeartbeats 1000000 in
set_option maxRecDepth 100000 in
theorem mX7_keptVertex {g : gX} (V : vM) (n : Nat) (hn : V 7 2 = nI n) (hnb : n ≤ 1536) (K : Nat → Int32) (hK : ∀ i, i < n → V 27 i = K i) (x : Int32) : MM g jX7_keptVertex V [.ref (g.2.1 7), .int x] (pI V (kvL K x n 0)) := by
  refine MM.of plX7_keptVertex (Nat.le_of_ble_eq_true rfl) ?_
  obtain ⟨Q, hQ⟩ : ∃ Q : Option Value → vM → Prop, Q = (pI V (kvL K x n 0)) := ⟨_, rfl⟩
  rw [← hQ]
  show XX g jX7_keptVertex Q V 0 [(0, .ref (g.2.1 7)), (1, .int x)] []
  refine x_iconst (v := 0) dX7_keptVertex_0 (by decide) ?_
  refine x_istore_n 2 [(2, .int 0), (0, .ref (g.2.1 7)), (1, .int x)] dX7_keptVertex_1 rfl (by decide) rfl ?_
  refine x_iconst (v := 0) dX7_keptVertex_2 (by decide) ?_
  refine x_istore_n 3 [(3, .int 0), (2, .int 0), (0, .ref (g.2.1 7)), (1, .int x)] dX7_keptVertex_3 rfl (by decide) rfl ?_
  have lp1 : ∀ (fu : Nat) (i : Nat), (i ≤ n) → (kvL K x (n - i) i = kvL K x n 0) → (n - i) < fu → XX g jX7_keptVertex Q V 4 [(3, .int (nI i)), (2, .int (nI (kc K i))), (0, .ref (g.2.1 7)), (1, .int x)] [] := by
    intro fu
    induction fu with
    | zero => intro _ _ _ hmz; exact absurd hmz (Nat.not_lt_zero _)
    | succ fu ih =>
      intro i hi hv hmz
      refine x_iload_n dX7_keptVertex_4 0 rfl ?_
      refine x_aload_n dX7_keptVertex_5 2 rfl ?_
      refine x_getI fl_X7_19 rfl rfl dX7_keptVertex_6 ?_
      refine x_topi (hn) ?_
      refine x_icmp_ge 37 dX7_keptVertex_9 (by decide) (fun c2 => ?_) (fun c2 => ?_)
      · have c2n : n ≤ i := (nl_le (a := n) (b := i) (rfl) (rfl) (by omega) (by omega)).mp c2
        refine x_ldc ct_X7_47 dX7_keptVertex_37 ?_
        refine x_iret dX7_keptVertex_39 rfl ?_
        rw [hQ]
        refine ⟨rfl, ?_⟩
        rw [← hv, show n - i = 0 by omega]
        rfl
      · have c2n : i < n := Nat.not_le.mp (fun q => c2 ((nl_le (a := n) (b := i) (rfl) (rfl) (by omega) (by omega)).mpr q))
        refine x_aload_n dX7_keptVertex_12 2 rfl ?_
        refine x_getR fl_X7_9 rfl rfl dX7_keptVertex_13 ?_
        refine x_iload_n dX7_keptVertex_16 0 rfl ?_
        have b3 : vp_in (nI i) 1536 := by exact vp_in_nI (by omega) (by decide)
        refine x_zald rfl b3 dX7_keptVertex_17 ?_
        refine x_topi (y := V 27 i) (by rw [nI_clamp (by omega)]) ?_
        refine x_topi (hK i (by omega)) ?_
        refine x_if_eq 31 dX7_keptVertex_18 (by decide) (fun c4 => ?_) (fun c4 => ?_)
        · refine x_iinc 3 (v := (nI i) + 1) 0 [(3, .int ((nI i) + 1)), (2, .int (nI (kc K i))), (0, .ref (g.2.1 7)), (1, .int x)] dX7_keptVertex_31 rfl (by rfl) (by decide) rfl ?_
          refine x_goto 4 dX7_keptVertex_34 (by decide) ?_
          refine YY.L (lv' := [(3, .int (nI (i + 1))), (2, .int (nI (kc K (i + 1)))), (0, .ref (g.2.1 7)), (1, .int x)]) (by first | (rw [kc_z (by assumption), nI_1] <;> rfl) | (rw [kc_n (by assumption), nI_1, nI_1] <;> rfl)) ?_
          exact ih (i + 1) (by omega) (by rw [← hv, show n - i = (n - (i + 1)) + 1 by omega, kvL_miss (fun q => by first | exact absurd (by assumption) q.1 | exact absurd q.2 (by assumption))]) (by omega)
        · refine x_iload_n dX7_keptVertex_21 1 rfl ?_
          refine x_iload_n dX7_keptVertex_22 3 rfl ?_
          refine x_icmp_ne 28 dX7_keptVertex_23 (by decide) (fun c5 => ?_) (fun c5 => ?_)
          · refine x_iinc 2 (v := (nI (kc K i)) + 1) 1 [(2, .int ((nI (kc K i)) + 1)), (3, .int (nI i)), (0, .ref (g.2.1 7)), (1, .int x)] dX7_keptVertex_28 rfl (by rfl) (by decide) rfl ?_
            refine x_iinc 3 (v := (nI i) + 1) 1 [(3, .int ((nI i) + 1)), (2, .int ((nI (kc K i)) + 1)), (0, .ref (g.2.1 7)), (1, .int x)] dX7_keptVertex_31 rfl (by rfl) (by decide) rfl ?_
            refine x_goto 4 dX7_keptVertex_34 (by decide) ?_
            refine YY.L (lv' := [(3, .int (nI (i + 1))), (2, .int (nI (kc K (i + 1)))), (0, .ref (g.2.1 7)), (1, .int x)]) (by first | (rw [kc_z (by assumption), nI_1] <;> rfl) | (rw [kc_n (by assumption), nI_1, nI_1] <;> rfl)) ?_
            exact ih (i + 1) (by omega) (by rw [← hv, show n - i = (n - (i + 1)) + 1 by omega, kvL_miss (fun q => by first | exact absurd (by assumption) q.1 | exact absurd q.2 (by assumption))]) (by omega)
          · refine x_iload_n dX7_keptVertex_26 0 rfl ?_
            refine x_iret dX7_keptVertex_27 rfl ?_
            rw [hQ]
            refine ⟨rfl, ?_⟩
            rw [← hv, show n - i = (n - (i + 1)) + 1 by omega, kvL_hit (by assumption) (by assumption)]
  refine YY.L (lv' := [(3, .int (nI 0)), (2, .int (nI (kc K 0))), (0, .ref (g.2.1 7)), (1, .int x)]) (by rfl) ?_
  exact lp1 _ 0 (by omega) (by rfl) (Nat.lt_succ_self _)
set_option maxHeartbeats 1000000 in
set_option maxRecDepth 100000 in
theorem mX9_simplified {g : gX} {V : vM} {m : Nat → Int32} {N : Nat} {t : Int32} {S : FS} {fb : Nat → Nat} (hCQ : CQ V m N t S fb) (c lim x : Int32) : MM g jX9_simplified V [.ref (g.2.1 0), .int c, .int lim, .int x] (eI (fun z U => z = smZ S fb c lim x ∧ CQ U m N t S fb ∧ frK V U)) := by
  refine MM.of plX9_simplified (Nat.le_of_ble_eq_true rfl) ?_
  obtain ⟨Q, hQ⟩ : ∃ Q : Option Value → vM → Prop, Q = (eI (fun z U => z = smZ S fb c lim x ∧ CQ U m N t S fb ∧ frK V U)) := ⟨_, rfl⟩
  rw [← hQ]
  show XX g jX9_simplified Q V 0 [(0, .ref (g.2.1 0)), (1, .int c), (2, .int lim), (3, .int x)] []
  obtain ⟨hC, hS, hG, h24, h15, hcn, hL⟩ := id hCQ
  have hP0 := hC.1
  have hV13 : V 1 3 = nI S.2.1 := by rw [hP0.2.1, hcn]
  have hN24 := hP0.2.2.1.1
  have hcl := cntM_le (kd7 m) N
  refine x_aload_n dX9_simplified_0 0 rfl ?_
  refine x_iload_n dX9_simplified_1 1 rfl ?_
  refine x_callV (K := jX9_isContour) [.int c] lk_X9_133 ⟨⟨rfl, rfl⟩, Nat.le_of_ble_eq_true rfl, Nat.le_of_ble_eq_true rfl⟩ rfl rfl (by have := mX9_isContour (g := g) V c; rw [hV13] at this; exact this) rfl (Nat.le_of_ble_eq_true rfl) rfl dX9_simplified_2 (kpI ?_)
  refine x_if_ne 11 dX9_simplified_5 (by decide) (fun c1 => ?_) (fun c1 => ?_)
  · have c1n : (0 ≤ c ∧ c < nI S.2.1) := Classical.not_not.mp (fun q => c1 (iB_0.mpr q))
    refine x_iload_n dX9_simplified_11 2 rfl ?_
    refine x_iconst (v := 0) dX9_simplified_12 (by decide) ?_
    refine x_sipush (v := 1000) dX9_simplified_13 (by decide) ?_
    refine x_callS (K := jX9_between) [.int lim, .int 0, .int 1000] lk_X9_129 ⟨⟨rfl, rfl⟩, Nat.le_of_ble_eq_true rfl, Nat.le_of_ble_eq_true rfl⟩ (mX9_between V lim 0 1000) rfl (Nat.le_of_ble_eq_true rfl) rfl dX9_simplified_16 (kpI ?_)
    refine x_if_ne 25 dX9_simplified_19 (by decide) (fun c2 => ?_) (fun c2 => ?_)
    · have c2n : (0 ≤ lim ∧ lim ≤ 1000) := Classical.not_not.mp (fun q => c2 (iB_0.mpr q))
      obtain ⟨k, hk0, hkS⟩ := nI_ex (c := c) (n := S.2.1) (by omega) (by assumption)
      refine YY.L (lv' := [(0, .ref (g.2.1 0)), (1, .int (nI k)), (2, .int lim), (3, .int x)]) (by rw [hk0]) ?_
      have hkb := hG.bd (j := k + 1) (by omega)
      have hkl := (hG.2.2.2 k hkS).1
      refine x_aload_n dX9_simplified_25 0 rfl ?_
      refine x_getR fl_X9_39 rfl rfl dX9_simplified_26 ?_
      refine x_aload_n dX9_simplified_29 0 rfl ?_
      refine x_callV (K := jX9_flattened) [] lk_X9_118 ⟨⟨rfl, rfl⟩, Nat.le_of_ble_eq_true rfl, Nat.le_of_ble_eq_true rfl⟩ rfl rfl (mX9_flattened hC) rfl (Nat.le_of_ble_eq_true rfl) rfl dX9_simplified_30 (keR fun U3 hU4 => ?_)
      have hCQ2 := hCQ.aft hU4
      have hFr := hU4.2.2
      have hF : FRC U3 S := by rw [← hS]; exact hU4.1
      have hPU := hCQ2.1.1
      have hU13 : U3 1 3 = nI (S.2.1) := by rw [hPU.2.1, hcn]
      refine x_iload_n dX9_simplified_33 1 rfl ?_
      refine x_iload_n dX9_simplified_34 2 rfl ?_
      refine x_callV (K := jX7_simplify) [.ref (g.2.1 6), .int (nI k), .int lim] lk_X9_219 ⟨⟨rfl, rfl⟩, Nat.le_of_ble_eq_true rfl, Nat.le_of_ble_eq_true rfl⟩ rfl rfl (mX7_simplify hF hG h24 h15 k (by omega) lim) rfl (Nat.le_of_ble_eq_true rfl) rfl dX9_simplified_35 (keV fun U5 hU6 => ?_)
      obtain ⟨hs7, hs1, hs2, hsK⟩ := hU6
      have hCQ3 := hCQ2.ag (fun a i q => hs7 a i (by omega) (by omega))
      have hFr3 := hFr.K.trans hs7.K
      refine x_iload_n dX9_simplified_38 3 rfl ?_
      refine x_iconst (v := -1) dX9_simplified_39 (by decide) ?_
      refine x_icmp_ne 53 dX9_simplified_40 (by decide) (fun c7 => ?_) (fun c7 => ?_)
      · refine x_aload_n dX9_simplified_53 0 rfl ?_
        refine x_getR fl_X9_39 rfl rfl dX9_simplified_54 ?_
        refine x_iload_n dX9_simplified_57 3 rfl ?_
        refine x_callV (K := jX7_keptVertex) [.int x] lk_X9_226 ⟨⟨rfl, rfl⟩, Nat.le_of_ble_eq_true rfl, Nat.le_of_ble_eq_true rfl⟩ rfl rfl (mX7_keptVertex U5 _ hs2 (by omega) _ hsK x) rfl (Nat.le_of_ble_eq_true rfl) rfl dX9_simplified_58 (kpI ?_)
        refine x_iret dX9_simplified_61 rfl ?_
        rw [hQ]
        first
          | exact ⟨_, rfl, (smZ_no (by assumption)).symm, hCQ, frK.refl V⟩
          | exact ⟨_, rfl, (smZ_l (by assumption) (by assumption)).symm, hCQ, frK.refl V⟩
          | exact ⟨_, rfl, by rw [smZ_k h24 hk0 hkS (by assumption), smR, if_pos (by assumption)], hCQ3, hFr3⟩
          | exact ⟨_, rfl, by rw [smZ_k h24 hk0 hkS (by assumption), smR, if_neg (by assumption)], hCQ3, hFr3⟩
      · refine x_aload_n dX9_simplified_43 0 rfl ?_
        refine x_getR fl_X9_39 rfl rfl dX9_simplified_44 ?_
        refine x_callV (K := jX7_kept) [] lk_X9_223 ⟨⟨rfl, rfl⟩, Nat.le_of_ble_eq_true rfl, Nat.le_of_ble_eq_true rfl⟩ rfl rfl (mX7_kept U5 _ hs2 (by omega) _ hsK) rfl (Nat.le_of_ble_eq_true rfl) rfl dX9_simplified_47 (kpI ?_)
        refine x_goto 61 dX9_simplified_50 (by decide) ?_
        refine x_iret dX9_simplified_61 rfl ?_
        rw [hQ]
        first
          | exact ⟨_, rfl, (smZ_no (by assumption)).symm, hCQ, frK.refl V⟩
          | exact ⟨_, rfl, (smZ_l (by assumption) (by assumption)).symm, hCQ, frK.refl V⟩
          | exact ⟨_, rfl, by rw [smZ_k h24 hk0 hkS (by assumption), smR, if_pos (by assumption)], hCQ3, hFr3⟩
          | exact ⟨_, rfl, by rw [smZ_k h24 hk0 hkS (by assumption), smR, if_neg (by assumption)], hCQ3, hFr3⟩
    · have c2n : ¬ (0 ≤ lim ∧ lim ≤ 1000) := iB_0.mp c2
      refine x_ldc ct_X9_83 dX9_simplified_22 ?_
      refine x_iret dX9_simplified_24 rfl ?_
      rw [hQ]
      first
        | exact ⟨_, rfl, (smZ_no (by assumption)).symm, hCQ, frK.refl V⟩
        | exact ⟨_, rfl, (smZ_l (by assumption) (by assumption)).symm, hCQ, frK.refl V⟩
        | exact ⟨_, rfl, by rw [smZ_k h24 hk0 hkS (by assumption), smR, if_pos (by assumption)], hCQ3, hFr3⟩
        | exact ⟨_, rfl, by rw [smZ_k h24 hk0 hkS (by assumption), smR, if_neg (by assumption)], hCQ3, hFr3⟩
  · have c1n : ¬ (0 ≤ c ∧ c < nI S.2.1) := iB_0.mp c1
    refine x_ldc ct_X9_111 dX9_simplified_8 ?_
    refine x_iret dX9_simplified_10 rfl ?_
    rw [hQ]
    first
      | exact ⟨_, rfl, (smZ_no (by assumption)).symm, hCQ, frK.refl V⟩
      | exact ⟨_, rfl, (smZ_l (by assumption) (by assumption)).symm, hCQ, frK.refl V⟩
      | exact ⟨_, rfl, by rw [smZ_k h24 hk0 hkS (by assumption), smR, if_pos (by assumption)], hCQ3, hFr3⟩
      | exact ⟨_, rfl, by rw [smZ_k h24 hk0 hkS (by assumption), smR, if_neg (by assumption)], hCQ3, hFr3⟩
