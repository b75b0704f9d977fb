/-! dashes: the bounds of the intervals, and the dashes of the first k of them -/
theorem nI_mod {a b : Nat} (ha : a < 2 ^ 31) (hb : b < 2 ^ 31) (h0 : 0 < b) : nI a - nI a / nI b * nI b = nI (a % b) := by
  have h1 : a / b * b ≤ a := Nat.div_mul_le_self a b
  have h2 := Nat.div_add_mod a b
  rw [Nat.mul_comm] at h2
  rw [nI_div ha hb h0, nmul rfl rfl, nsub (a := a) (b := a / b * b) h1 rfl rfl]
  congr 1
  omega
def dsP (d : Nat → Nat) : Nat → Nat
  | 0 => 0
  | i + 1 => dsP d i + d i
def dsT (d : Nat → Nat) (n : Nat) : Nat → Nat
  | 0 => 0
  | k + 1 => dsT d n k + d (k % n)
def dsE (ph : Nat) (d : Nat → Nat) (n k : Nat) : Int := (dsT d n k : Int) - (ph : Int)
theorem dsE_s (ph : Nat) (d : Nat → Nat) (n k : Nat) : dsE ph d n (k + 1) = dsE ph d n k + (d (k % n) : Int) := by
  unfold dsE; rw [dsT]; omega
theorem dsE_0 (ph : Nat) (d : Nat → Nat) (n : Nat) : dsE ph d n 0 = - (ph : Int) := by
  unfold dsE; rw [dsT]; omega
theorem dsT_i (d : Nat → Nat) (n j : Nat) : ∀ i, i ≤ n → dsT d n (n * j + i) = dsT d n (n * j) + dsP d i
  | 0, _ => rfl
  | i + 1, h => by
    show dsT d n (n * j + i) + d ((n * j + i) % n) = _
    rw [dsT_i d n j i (by omega), dsP, Nat.mul_add_mod, Nat.mod_eq_of_lt (by omega)]
    omega
theorem dsT_p (d : Nat → Nat) (n : Nat) : ∀ j, dsT d n (n * j) = j * dsP d n
  | 0 => by simp [dsT]
  | j + 1 => by
    rw [Nat.mul_succ, dsT_i d n j n (Nat.le_refl _), dsT_p d n j, Nat.succ_mul]
theorem dsE_i (ph : Nat) (d : Nat → Nat) (n j i : Nat) (h : i ≤ n) : dsE ph d n (n * j + i) = dsE ph d n (n * j) + (dsP d i : Int) := by
  unfold dsE; rw [dsT_i d n j i h]; omega
theorem dsE_n (ph : Nat) (d : Nat → Nat) (n j : Nat) : dsE ph d n (n * (j + 1)) = dsE ph d n (n * j) + (dsP d n : Int) := by
  rw [Nat.mul_succ]; exact dsE_i ph d n j n (Nat.le_refl _)
theorem dsP_b {d : Nat → Nat} {n : Nat} (hd : ∀ i, i < n → 1 ≤ d i ∧ d i ≤ 100000) : ∀ i, i ≤ n → i ≤ dsP d i ∧ dsP d i ≤ 100000 * i
  | 0, _ => ⟨Nat.le_refl _, Nat.le_refl _⟩
  | i + 1, h => by
    have := dsP_b hd i (by omega)
    have := hd i (by omega)
    rw [dsP]
    omega
theorem dsP_m (d : Nat → Nat) : ∀ r i, dsP d i ≤ dsP d (i + r)
  | 0, _ => Nat.le_refl _
  | r + 1, i => by
    have := dsP_m d r i
    rw [show i + (r + 1) = i + r + 1 by omega, dsP]
    omega
theorem dsT_b {d : Nat → Nat} {n : Nat} (h0 : 0 < n) (hd : ∀ i, i < n → 1 ≤ d i ∧ d i ≤ 100000) : ∀ r k, dsT d n k + r ≤ dsT d n (k + r)
  | 0, _ => Nat.le_refl _
  | r + 1, k => by
    have := dsT_b h0 hd r k
    have := hd ((k + r) % n) (Nat.mod_lt _ h0)
    rw [show k + (r + 1) = k + r + 1 by omega, dsT]
    omega
def mxZ (a : Int) : Int := if a < 0 then 0 else a
def mnZ (L a : Int) : Int := if L < a then L else a
def ivZ (L a b : Int) : List (Int × Int) := if mxZ a < mnZ L b then [(mxZ a, mnZ L b)] else []
def dsL (ph : Nat) (d : Nat → Nat) (n : Nat) (L : Int) : Nat → List (Int × Int)
  | 0 => []
  | k + 1 => dsL ph d n L k ++ (if k % 2 = 0 then ivZ L (dsE ph d n k) (dsE ph d n (k + 1)) else [])
theorem iv_len (L a b : Int) : (ivZ L a b).length ≤ 1 := by
  unfold ivZ; split <;> simp
theorem iv_none {L a b : Int} (h : L ≤ a ∨ (b ≤ 0)) (hab : a ≤ b) : ivZ L a b = [] := by
  unfold ivZ mxZ mnZ
  rw [if_neg]
  split <;> split <;> omega
theorem iv_some {L a b : Int} (h0 : 0 ≤ a) (h1 : a < L) (h2 : a < b) : (ivZ L a b).length = 1 := by
  unfold ivZ mxZ mnZ
  rw [if_pos]
  · rfl
  · split <;> split <;> omega
theorem dsL_m (ph : Nat) (d : Nat → Nat) (n : Nat) (L : Int) : ∀ r k, ∃ R, dsL ph d n L (k + r) = dsL ph d n L k ++ R
  | 0, k => ⟨[], by simp⟩
  | r + 1, k => by
    obtain ⟨R, e⟩ := dsL_m ph d n L r k
    refine ⟨R ++ (if (k + r) % 2 = 0 then ivZ L (dsE ph d n (k + r)) (dsE ph d n (k + r + 1)) else []), ?_⟩
    rw [show k + (r + 1) = k + r + 1 by omega, dsL, e, List.append_assoc]
theorem dsL_end {ph : Nat} {d : Nat → Nat} {n : Nat} {L : Int} (h0 : 0 < n) (hd : ∀ i, i < n → 1 ≤ d i ∧ d i ≤ 100000) {k : Nat} (h : L ≤ dsE ph d n k) : ∀ r, dsL ph d n L (k + r) = dsL ph d n L k
  | 0 => rfl
  | r + 1 => by
    have b := dsT_b h0 hd r k
    have b1 := dsE_s ph d n (k + r)
    unfold dsE at h
    rw [show k + (r + 1) = k + r + 1 by omega, dsL, dsL_end h0 hd h r]
    split
    · rw [iv_none (Or.inl (by unfold dsE; omega)) (by omega), List.append_nil]
    · rw [List.append_nil]
/-- the interval that begins at or before 0 makes no dash -/
theorem dsL_pre {ph : Nat} {d : Nat → Nat} {n : Nat} {L : Int} (h0 : 0 < n) (hd : ∀ i, i < n → 1 ≤ d i ∧ d i ≤ 100000) : ∀ k, dsE ph d n k ≤ 0 → dsL ph d n L k = []
  | 0, _ => rfl
  | k + 1, h => by
    have b := dsE_s ph d n k
    rw [dsL, dsL_pre h0 hd k (by omega), List.nil_append]
    split
    · exact iv_none (Or.inr h) (by omega)
    · rfl
def dsF (ph : Nat) (d : Nat → Nat) (n : Nat) (L : Int) (k : Nat) : Prop := L ≤ dsE ph d n k ∨ 1001 ≤ (dsL ph d n L k).length
def dsA (ph : Nat) (d : Nat → Nat) (n : Nat) (L : Int) : List (Int × Int) := dsL ph d n L (L + ph).toNat
def eqL (A B : List (Int × Int)) : Prop := min A.length 1001 = min B.length 1001 ∧ ∀ i, i < B.length → i < 1001 → A.getD i (0, 0) = B.getD i (0, 0)
theorem eqL_app {A R : List (Int × Int)} (h : 1001 ≤ A.length) : eqL A (A ++ R) ∧ eqL (A ++ R) A := by
  refine ⟨⟨by rw [List.length_append]; omega, fun i h1 h2 => ?_⟩, by rw [List.length_append]; omega, fun i h1 h2 => ?_⟩ <;> simp only [List.getD_eq_getElem?_getD, List.getElem?_append_left (show i < A.length by omega)]
theorem dsF_A {ph : Nat} {d : Nat → Nat} {n : Nat} {L : Int} (h0 : 0 < n) (hd : ∀ i, i < n → 1 ≤ d i ∧ d i ≤ 100000) {k : Nat} (h : dsF ph d n L k) : eqL (dsL ph d n L k) (dsA ph d n L) := by
  have bt := dsT_b h0 hd (L + ph).toNat 0
  rw [Nat.zero_add, dsT, Nat.zero_add] at bt
  have hl : L ≤ dsE ph d n (L + ph).toNat := by unfold dsE; omega
  unfold dsA
  rcases Nat.le_total k (L + ph).toNat with q | q
  · obtain ⟨R, e⟩ := dsL_m ph d n L ((L + ph).toNat - k) k
    rw [show k + ((L + ph).toNat - k) = (L + ph).toNat by omega] at e
    rcases h with h | h
    · have := dsL_end h0 hd h ((L + ph).toNat - k)
      rw [show k + ((L + ph).toNat - k) = (L + ph).toNat by omega] at this
      rw [this]
      exact ⟨rfl, fun _ _ _ => rfl⟩
    · rw [e]; exact (eqL_app h).1
  · have := dsL_end h0 hd hl (k - (L + ph).toNat)
    rw [show (L + ph).toNat + (k - (L + ph).toNat) = k by omega] at this
    rw [this]
    exact ⟨rfl, fun _ _ _ => rfl⟩
/-- the class's rows of dashes -/
def DRr (V : vM) (D : List (Int × Int)) : Prop := V 8 3 = nI (min D.length 1001) ∧ ∀ i, i < D.length → i < 1000 → (V 29 i).toInt = (D.getD i (0, 0)).1 ∧ (V 30 i).toInt = (D.getD i (0, 0)).2
theorem DRr.eqL {V : vM} {A B : List (Int × Int)} (h : DRr V A) (e : eqL A B) : DRr V B :=
  ⟨by rw [h.1, e.1], fun i h1 h2 => by have := e.1; rw [← e.2 i h1 (by omega)]; exact h.2 i (by omega) h2⟩
theorem getD_last (D : List (Int × Int)) (a : Int × Int) : (D ++ [a]).getD D.length (0, 0) = a := by simp [List.getD_eq_getElem?_getD]
theorem getD_old {D : List (Int × Int)} {a : Int × Int} {i : Nat} (h : i < D.length) : (D ++ [a]).getD i (0, 0) = D.getD i (0, 0) := by
  simp only [List.getD_eq_getElem?_getD, List.getElem?_append_left h]
theorem DRr.kp {V : vM} {D : List (Int × Int)} (h : DRr V D) {x y : Int32} {a b : Int} (hx : x.toInt = a) (hy : y.toInt = b) : DRr (kpV V (min D.length 1001) x y) (D ++ if a < b then [(a, b)] else []) := by
  have hxy : x < y ↔ a < b := by rw [Int32.lt_iff_toInt_lt, hx, hy]
  obtain ⟨h1, h2⟩ := h
  unfold kpV
  by_cases c : a < b
  · rw [if_pos c]
    by_cases c2 : min D.length 1001 ≤ 1000
    · rw [if_pos ⟨hxy.mpr c, c2⟩]
      refine ⟨by rw [uM_hit, List.length_append, List.length_singleton, show min D.length 1001 + 1 = min (D.length + 1) 1001 by omega], fun i i1 i2 => ?_⟩
      rw [List.length_append, List.length_singleton] at i1
      rw [uM_na (by decide), uM_na (by decide)]
      by_cases e : i = D.length
      · subst e
        rw [if_pos (by omega), getD_last, show min D.length 1001 = D.length by omega, uM_na (by decide), uM_hit, uM_hit]
        exact ⟨hx, hy⟩
      · rw [getD_old (by omega)]
        split
        · rw [uM_na (by decide), uM_ni (by omega), uM_ni (by omega), uM_na (by decide)]
          exact h2 i (by omega) i2
        · exact h2 i (by omega) i2
    · rw [if_neg (fun q => c2 q.2)]
      refine ⟨by rw [h1, List.length_append, List.length_singleton]; congr 1; omega, fun i i1 i2 => ?_⟩
      rw [getD_old (by omega)]
      exact h2 i (by omega) i2
  · rw [if_neg c, if_neg (fun q => c (hxy.mp q.1)), List.append_nil]
    exact ⟨h1, h2⟩
def fr8 (V U : vM) : Prop := ∀ a i, a ≠ 29 → a ≠ 30 → (a = 8 → i ≠ 3) → U a i = V a i
theorem fr8.refl (V : vM) : fr8 V V := fun _ _ _ _ _ => rfl
theorem fr8.trans {V U W : vM} (h : fr8 V U) (k : fr8 U W) : fr8 V W := fun a i p q r => by rw [k a i p q r, h a i p q r]
theorem fr8.K {V U : vM} (h : fr8 V U) : frK V U := fun a i p => by
  obtain ⟨p1, p2, p3, p4, p5, p6, p7, p8, p9, p10, p11, p12, p13, p14⟩ := p
  exact h a i p8 p9 p14
theorem fr8.kp {V U : vM} (h : fr8 V U) (f : Nat) (x y : Int32) : fr8 V (kpV U f x y) := by
  intro a i h1 h2 h3
  rw [← h a i h1 h2 h3]
  unfold kpV
  split
  · rw [uM_at, if_neg (fun q => h3 q.1 q.2)]
    split
    · rw [uM_na h2, uM_na h1]
    · rfl
  · rfl
/-- the pattern on the class's side -/
def DCc (V : vM) (n ph : Nat) (d : Nat → Nat) : Prop := V 8 4 = nI n ∧ n ≤ 6 ∧ V 8 5 = nI ph ∧ ph ≤ 100000 ∧ (∀ i, i < n → V 28 i = nI (d i)) ∧ ∀ i, i < n → 1 ≤ d i ∧ d i ≤ 100000
theorem DCc.ag {V U : vM} {n ph : Nat} {d : Nat → Nat} (h : DCc V n ph d) (q : ∀ a i, ((a = 8 ∧ 4 ≤ i) ∨ a = 28) → U a i = V a i) : DCc U n ph d :=
  ⟨by rw [q 8 4 (by omega)]; exact h.1, h.2.1, by rw [q 8 5 (by omega)]; exact h.2.2.1, h.2.2.2.1, fun i hi => by rw [q 28 i (by omega)]; exact h.2.2.2.2.1 i hi, h.2.2.2.2.2⟩
theorem mx_i {x : Int32} {a : Int} (h : x.toInt = a) : (if x < 0 then 0 else x).toInt = mxZ a := by
  have z : (0 : Int32).toInt = 0 := rfl
  unfold mxZ
  by_cases c : x < 0
  · rw [if_pos c]; rw [Int32.lt_iff_toInt_lt, z, h] at c; rw [if_pos c]; exact z
  · rw [if_neg c]; rw [Int32.lt_iff_toInt_lt, z, h] at c; rw [if_neg c]; exact h
theorem mn_i {x l : Int32} {a L : Int} (h : x.toInt = a) (hl : l.toInt = L) : (if l < x then l else x).toInt = mnZ L a := by
  unfold mnZ
  by_cases c : l < x
  · rw [if_pos c]; rw [Int32.lt_iff_toInt_lt, hl, h] at c; rw [if_pos c]; exact hl
  · rw [if_neg c]; rw [Int32.lt_iff_toInt_lt, hl, h] at c; rw [if_neg c]; exact h
theorem add_i {x : Int32} {a : Int} {k : Nat} (h : x.toInt = a) (hk : k ≤ 600000) (h1 : -1000000 ≤ a) (h2 : a ≤ 400000000) : (x + nI k).toInt = a + (k : Int) := by
  rw [fb_addI] <;> rw [h, nI_toInt (by omega)] <;> omega
theorem dsL_ev {ph : Nat} {d : Nat → Nat} {n : Nat} {L : Int} {k : Nat} (h : k % 2 = 0) : dsL ph d n L (k + 1) = dsL ph d n L k ++ (if mxZ (dsE ph d n k) < mnZ L (dsE ph d n (k + 1)) then [(mxZ (dsE ph d n k), mnZ L (dsE ph d n (k + 1)))] else []) := by
  rw [dsL, if_pos h]; rfl
theorem dsL_od {ph : Nat} {d : Nat → Nat} {n : Nat} {L : Int} {k : Nat} (h : ¬ k % 2 = 0) : dsL ph d n L (k + 1) = dsL ph d n L k := by
  rw [dsL, if_neg h, List.append_nil]
set_option maxHeartbeats 1000000 in
set_option maxRecDepth 100000 in
theorem mX0_layPattern {g : gX} (V : vM) (n ph : Nat) (d : Nat → Nat) (hD : DCc V n ph d) (hn2 : n % 2 = 0) (h0 : 0 < n) (L : Int) (len : Int32) (hL : len.toInt = L) (hLb : L ≤ 300000000) (j : Nat) (x : Int32) (hx : x.toInt = dsE ph d n (n * j)) (hxl : dsE ph d n (n * j) < L) (hxg : -100000 ≤ dsE ph d n (n * j)) (hDR0 : DRr V (dsL ph d n L (n * j))) : MM g jX0_layPattern V [.ref (g.2.1 8), .int x, .int len] (eV (fun U => DRr U (dsL ph d n L (n * (j + 1))) ∧ fr8 V U)) := by
  refine MM.of plX0_layPattern (Nat.le_of_ble_eq_true rfl) ?_
  obtain ⟨Q, hQ⟩ : ∃ Q : Option Value → vM → Prop, Q = (eV (fun U => DRr U (dsL ph d n L (n * (j + 1))) ∧ fr8 V U)) := ⟨_, rfl⟩
  rw [← hQ]
  show XX g jX0_layPattern Q V 0 [(0, .ref (g.2.1 8)), (1, .int x), (2, .int len)] []
  have hd := hD.2.2.2.2.2
  have hn6 := hD.2.1
  refine x_iload_n dX0_layPattern_0 1 rfl ?_
  refine x_istore_n 3 [(3, .int x), (0, .ref (g.2.1 8)), (1, .int x), (2, .int len)] dX0_layPattern_1 rfl (by decide) rfl ?_
  refine x_iconst (v := 0) dX0_layPattern_2 (by decide) ?_
  refine x_istore 4 [(4, .int 0), (3, .int x), (0, .ref (g.2.1 8)), (1, .int x), (2, .int len)] dX0_layPattern_3 (by decide) rfl ?_
  have lp1 : ∀ (fu : Nat) (i : Nat) (b : Int32) (U : vM), (i ≤ n ∧ i % 2 = 0) → (b.toInt = dsE ph d n (n * j + i)) → (DRr U (dsL ph d n L (n * j + i))) → (fr8 V U) → (n - i) < fu → XX g jX0_layPattern Q U 5 [(4, .int (nI i)), (3, .int b), (0, .ref (g.2.1 8)), (1, .int x), (2, .int len)] [] := by
    intro fu
    induction fu with
    | zero => intro _ _ _ _ _ _ _ hmz; exact absurd hmz (Nat.not_lt_zero _)
    | succ fu ih =>
      intro i b U hi hb hDR hfU hmz
      refine x_iload dX0_layPattern_5 0 rfl ?_
      refine x_iconst (v := 1) dX0_layPattern_7 (by decide) ?_
      refine x_iadd dX0_layPattern_8 ?_
      refine x_aload_n dX0_layPattern_9 2 rfl ?_
      refine x_getI fl_X0_25 rfl rfl dX0_layPattern_10 ?_
      refine x_topi ((hfU 8 4 (by decide) (by decide) (by decide)).trans hD.1) ?_
      refine x_icmp_ge 61 dX0_layPattern_13 (by decide) (fun c2 => ?_) (fun c2 => ?_)
      · have c2n : n ≤ i + 1 := (nl_le (a := n) (b := i + 1) (rfl) (nadd (rfl) (rfl)) (by omega) (by omega)).mp c2
        refine x_vret dX0_layPattern_61 rfl ?_
        rw [hQ]
        have ei : i = n := by omega
        subst ei
        exact ⟨rfl, by rw [Nat.mul_succ]; exact hDR, hfU⟩
      · have c2n : i + 1 < n := Nat.not_le.mp (fun q => c2 ((nl_le (a := n) (b := i + 1) (rfl) (nadd (rfl) (rfl)) (by omega) (by omega)).mpr q))
        refine x_iload_n dX0_layPattern_16 1 rfl ?_
        refine x_aload_n dX0_layPattern_17 2 rfl ?_
        refine x_getR fl_X0_9 rfl rfl dX0_layPattern_18 ?_
        refine x_iload dX0_layPattern_21 0 rfl ?_
        have b3 : vp_in (nI i) 6 := by exact vp_in_nI (by omega) (by decide)
        refine x_iald rfl b3 dX0_layPattern_23 ?_
        refine x_topi (y := U 28 i) (by rw [nI_clamp (by omega)]) ?_
        refine x_topi ((hfU 28 i (by decide) (by decide) (by omega)).trans (hD.2.2.2.2.1 i (by omega))) ?_
        refine x_iadd dX0_layPattern_24 ?_
        obtain ⟨x1, ex1⟩ : ∃ z : Int32, z = b + nI (d i) := ⟨_, rfl⟩
        have hpi := dsP_m d (n - i) i
        rw [show i + (n - i) = n by omega] at hpi
        have hpn := dsP_b hd n (Nat.le_refl _)
        have hdi := hd i (by omega)
        have hEi := dsE_i ph d n j i (by omega)
        have hx1 : x1.toInt = dsE ph d n (n * j + i + 1) := by rw [ex1, add_i hb (by omega) (by omega) (by omega), dsE_s, Nat.mul_add_mod, Nat.mod_eq_of_lt (by omega)]
        refine x_topi (y := x1) ex1.symm ?_
        refine x_istore 5 [(5, .int x1), (4, .int (nI i)), (3, .int b), (0, .ref (g.2.1 8)), (1, .int x), (2, .int len)] dX0_layPattern_25 (by decide) rfl ?_
        refine x_aload_n dX0_layPattern_27 3 rfl ?_
        refine x_iload_n dX0_layPattern_28 2 rfl ?_
        refine x_iconst (v := 0) dX0_layPattern_29 (by decide) ?_
        refine x_mmax pr_mmax_X0_35 pr_mmax_st pr_math pr_mmax_code (by decide) (Nat.le_of_ble_eq_true rfl) dX0_layPattern_30 ?_
        refine x_iload dX0_layPattern_33 0 rfl ?_
        refine x_iload_n dX0_layPattern_35 5 rfl ?_
        refine x_mmin pr_mmin_X0_41 pr_mmin_st pr_math pr_mmin_code (by decide) (Nat.le_of_ble_eq_true rfl) dX0_layPattern_36 ?_
        refine x_callV (K := jX0_keep) [.int (if b < 0 then 0 else b), .int (if len < x1 then len else x1)] lk_X0_44 ⟨⟨rfl, rfl⟩, Nat.le_of_ble_eq_true rfl, Nat.le_of_ble_eq_true rfl⟩ rfl rfl (mX0_keep U (min (dsL ph d n L (n * j + i)).length 1001) hDR.1 (by omega) (if b < 0 then 0 else b) (if len < x1 then len else x1)) rfl (Nat.le_of_ble_eq_true rfl) rfl dX0_layPattern_39 (kdV ?_)
        obtain ⟨U4, eU4⟩ : ∃ v_v : vM, v_v = kpV U (min (dsL ph d n L (n * j + i)).length 1001) (if b < 0 then 0 else b) (if len < x1 then len else x1) := ⟨_, rfl⟩
        refine YY.V eU4.symm ?_
        have hDR1 := hDR.kp (mx_i hb) (mn_i hx1 hL)
        rw [← dsL_ev (by rw [show n * j = n / 2 * 2 * j by rw [show n / 2 * 2 = n by omega], Nat.mul_right_comm]; omega), ← eU4] at hDR1
        have hf1 := hfU.kp (min (dsL ph d n L (n * j + i)).length 1001) (if b < 0 then 0 else b) (if len < x1 then len else x1)
        rw [← eU4] at hf1
        refine x_iload dX0_layPattern_42 0 rfl ?_
        refine x_aload_n dX0_layPattern_44 3 rfl ?_
        refine x_getR fl_X0_9 rfl rfl dX0_layPattern_45 ?_
        refine x_iload dX0_layPattern_48 1 rfl ?_
        refine x_iconst (v := 1) dX0_layPattern_50 (by decide) ?_
        refine x_iadd dX0_layPattern_51 ?_
        have q5 : ((nI i) + 1 : Int32) = nI (i + 1) := nadd (rfl) (rfl)
        refine YY.S (st' := [.int (nI (i + 1)), .ref (g.2.1 28), .int x1]) (by rw [q5]) ?_
        have b6 : vp_in (nI (i + 1)) 6 := by exact vp_in_nI (by omega) (by decide)
        refine x_iald rfl b6 dX0_layPattern_52 ?_
        refine x_topi (y := U4 28 (i + 1)) (by rw [nI_clamp (by omega)]) ?_
        refine x_topi ((hf1 28 (i + 1) (by decide) (by decide) (by omega)).trans (hD.2.2.2.2.1 (i + 1) (by omega))) ?_
        refine x_iadd dX0_layPattern_53 ?_
        obtain ⟨x2, ex2⟩ : ∃ z : Int32, z = x1 + nI (d (i + 1)) := ⟨_, rfl⟩
        have hdi2 := hd (i + 1) (by omega)
        have hpi2 := dsP_m d (n - (i + 1)) (i + 1)
        rw [show i + 1 + (n - (i + 1)) = n by omega] at hpi2
        have hEi2 := dsE_i ph d n j (i + 1) (by omega)
        rw [← Nat.add_assoc] at hEi2
        have hE2 := dsE_s ph d n (n * j + i + 1)
        rw [show (n * j + i + 1) % n = i + 1 by rw [Nat.add_assoc, Nat.mul_add_mod, Nat.mod_eq_of_lt (by omega)]] at hE2
        have hx2 : x2.toInt = dsE ph d n (n * j + (i + 2)) := by rw [ex2, add_i hx1 (by omega) (by omega) (by omega)]; exact hE2.symm
        refine x_topi (y := x2) ex2.symm ?_
        have hDR2 : DRr U4 (dsL ph d n L (n * j + (i + 2))) := by rw [show n * j + (i + 2) = n * j + i + 1 + 1 by omega, dsL_od (by rw [show n * j = n / 2 * 2 * j by rw [show n / 2 * 2 = n by omega], Nat.mul_right_comm]; omega)]; exact hDR1
        refine x_istore_n 3 [(3, .int x2), (5, .int x1), (4, .int (nI i)), (0, .ref (g.2.1 8)), (1, .int x), (2, .int len)] dX0_layPattern_54 rfl (by decide) rfl ?_
        refine x_iinc 4 (v := (nI i) + 2) 2 [(4, .int ((nI i) + 2)), (3, .int x2), (5, .int x1), (0, .ref (g.2.1 8)), (1, .int x), (2, .int len)] dX0_layPattern_55 rfl (by rfl) (by decide) rfl ?_
        refine x_goto 5 dX0_layPattern_58 (by decide) ?_
        refine x_lv [0, 1, 3, 4, 5] rfl ?_
        refine YY.L (lv' := [(4, .int (nI (i + 2))), (3, .int x2), (0, .ref (g.2.1 8)), (1, .int x), (2, .int len)]) (by rw [show nI i + 2 = nI (i + 2) from nadd rfl rfl] <;> rfl) ?_
        exact ih (i + 2) x2 U4 (by omega) (by exact hx2) (by exact hDR2) (by exact hf1) (by omega)
  refine YY.L (lv' := [(4, .int (nI 0)), (3, .int x), (0, .ref (g.2.1 8)), (1, .int x), (2, .int len)]) (by rfl) ?_
  exact lp1 _ 0 x V (by omega) (by exact hx) (by exact hDR0) (by exact fr8.refl V) (Nat.lt_succ_self _)
