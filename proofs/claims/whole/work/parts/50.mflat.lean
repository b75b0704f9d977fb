theorem iabs_sz (x : Int32) : (if x < 0 then -x else x) = iabs x := by
  unfold iabs
  grind
def mpush (V : vM) (m : Nat) (h x0 x1 x2 x3 x4 x5 x6 x7 : Int32) : vM := uM (uM (uM (uM (uM (uM (uM (uM (uM (uM V 67 (8 * m) x0) 67 (8 * m + 1) x1) 67 (8 * m + 2) x2) 67 (8 * m + 3) x3) 67 (8 * m + 4) x4) 67 (8 * m + 5) x5) 67 (8 * m + 6) x6) 67 (8 * m + 7) x7) 68 m h) 49 38 (nI (m + 1))
/-- the model's flat cells hold the pure state; the lengths of the first kc commands -/
def FRM (V : vM) (S : FS) (kc : Nat) : Prop := V 49 32 = nI S.1 ∧ V 49 34 = nI S.2.1 ∧ (∀ i, i < S.1 → V 62 i = S.2.2 0 i ∧ V 63 i = S.2.2 1 i ∧ V 64 i = S.2.2 2 i) ∧ (∀ j, j < S.2.1 → V 65 j = S.2.2 4 j) ∧ ∀ c, c < kc → V 66 c = S.2.2 5 c
def SB (S : FS) : Prop := (∃ b, S.2.2 4 (S.2.1 - 1) = nI b ∧ b < S.1) ∧ S.2.2 4 S.2.1 = nI S.1
def frM (V U : vM) : Prop := ∀ a i, (a = 49 → i ≠ 32 ∧ i ≠ 34 ∧ i ≠ 38) → (a < 62 ∨ 68 < a) → U a i = V a i
theorem FRM.kept {V U : vM} {S : FS} {kc : Nat} (h : FRM V S kc) (h1 : U 49 32 = V 49 32) (h2 : U 49 34 = V 49 34) (hk : ∀ a i, (62 ≤ a ∧ a ≤ 66) → U a i = V a i) : FRM U S kc := by
  obtain ⟨a1, a2, a3, a4, a5⟩ := h
  refine ⟨by rw [h1]; exact a1, by rw [h2]; exact a2, fun i hi => ?_, fun j hj => by rw [hk 65 j (by omega)]; exact a4 j hj, fun c hc => by rw [hk 66 c (by omega)]; exact a5 c hc⟩
  rw [hk 62 i (by omega), hk 63 i (by omega), hk 64 i (by omega)]
  exact a3 i hi
/-- addVertex on the model's cells, behind a contour's first vertex -/
def mavV (V : vM) (S : FS) (c : Nat) (x y : Int32) : vM := if x - V 62 (S.1 - 1) = 0 ∧ y - V 63 (S.1 - 1) = 0 then V else mcap (uM V 66 c (V 66 c + lenI (x - V 62 (S.1 - 1)) (y - V 63 (S.1 - 1)))) S.1 x y (V 64 (S.1 - 1) + lenI (x - V 62 (S.1 - 1)) (y - V 63 (S.1 - 1)))
theorem FRM_add {V : vM} {S : FS} {kc : Nat} (h : FRM V S kc) (c : Nat) (hc : c < kc) (x y : Int32) (h0 : 0 < S.1) : FRM (mavV V S c x y) (fadd S c x y) kc := by
  obtain ⟨h1, h2, h3, h4, h5⟩ := h
  obtain ⟨e0, e1, e2⟩ := h3 (S.1 - 1) (by omega)
  unfold mavV fadd
  rw [e0, e1, e2]
  by_cases q : x - S.2.2 0 (S.1 - 1) = 0 ∧ y - S.2.2 1 (S.1 - 1) = 0
  · rw [if_pos q, if_pos q]
    exact ⟨h1, h2, h3, h4, h5⟩
  · rw [if_neg q, if_neg q]
    unfold mcap fpsh flenS
    refine ⟨?_, ?_, fun i hi => ?_, fun j hj => ?_, fun d hd => ?_⟩
    · simp [uM_at]
    · simp [uM_at, h2]
    · have hi : i < S.1 + 1 := hi
      by_cases e : i = S.1
      · subst e; simp [uM_at]
      · have := h3 i (by omega)
        simp [uM_at, e, this]
    · have hj : j < S.2.1 := hj
      simp [uM_at, h4 j hj, show ¬ j = S.2.1 by omega]
    · by_cases e : d = c
      · subst e; simp [uM_at, h5 d hd]
      · simp [uM_at, e, h5 d hd]
theorem SB_add {S : FS} (h : SB S) (h0 : 0 < S.2.1) (c : Nat) (x y : Int32) : SB (fadd S c x y) := by
  unfold fadd
  split
  · exact h
  · obtain ⟨⟨b, h1, h2⟩, h3⟩ := h
    refine ⟨⟨b, ?_, ?_⟩, ?_⟩
    · show uM _ 4 S.2.1 _ 4 (S.2.1 - 1) = nI b
      rw [uM_ni (by omega), uM_na (by decide), uM_na (by decide), uM_na (by decide), uM_na (by decide)]
      simp only [uM_at]
      rw [if_neg (fun q => absurd q.1 (by decide))]
      exact h1
    · show b < S.1 + 1
      omega
    · show uM _ 4 S.2.1 _ 4 S.2.1 = nI (S.1 + 1)
      rw [uM_hit]
/-- the pile holds the pieces -/
def MRl (V : vM) (l : Nat) : STK → Prop
  | [] => True
  | (h, p) :: r => V 68 r.length = nI h ∧ (∀ i, i < 2 * l + 2 → V 67 (8 * r.length + i) = p i) ∧ MRl V l r
theorem MRl.kept {V U : vM} {l : Nat} (hl : l = 2 ∨ l = 3) : ∀ {r : STK}, MRl V l r → (∀ j, j < r.length → U 68 j = V 68 j ∧ ∀ i, i < 8 → U 67 (8 * j + i) = V 67 (8 * j + i)) → MRl U l r
  | [], _, _ => trivial
  | (h, p) :: r, hs, hk => by
    obtain ⟨h1, h2, h3⟩ := hs
    refine ⟨by rw [(hk r.length (by simp)).1]; exact h1, fun i hi => by rw [(hk r.length (by simp)).2 i (by omega)]; exact h2 i hi, MRl.kept hl h3 (fun j hj => hk j (by simp; omega))⟩
def snd7 : STK → Nat
  | [] => 0
  | (h, _) :: r => (2 ^ (7 - h) - 1) + snd7 r
def AM (l : Nat) (t : Int32) (c : Nat) (B : Nat) (R : FS) (V0 U : vM) (st : STK) (S : FS) : Prop :=
  U 49 38 = nI st.length ∧ MRl U l st ∧ okL st ∧ rgS l st ∧ FRM U S (c + 1) ∧ SOK S ∧ SB S ∧ fstk l t c st S = R ∧ S.1 + slv st ≤ B ∧ frM V0 U
theorem AM_leaf {l : Nat} (hl : l = 2 ∨ l = 3) {t : Int32} {c B : Nat} {R : FS} {V0 U U2 : vM} {S : FS} {h : Nat} {p : Nat → Int32} {r : STK} (H : AM l t c B R V0 U ((h, p) :: r) S) (hf : h = 6 ∨ flt l (fun k => U 67 (8 * r.length + k)) t)
    (e : U2 = mavV (uM U 49 38 (nI r.length)) S c (U 67 (8 * r.length + 2 * l)) (U 67 (8 * r.length + (2 * l + 1)))) : AM l t c B R V0 U2 r (fadd S c (U 67 (8 * r.length + 2 * l)) (U 67 (8 * r.length + (2 * l + 1)))) := by
  obtain ⟨a1, ⟨s1, s2, s3⟩, a3, ⟨g1, g2⟩, a5, a6, a7, a8, a9, a10⟩ := H
  have hx : inR (U 67 (8 * r.length + 2 * l)) := by rw [s2 _ (by omega)]; exact g1 _ (by omega)
  have hy : inR (U 67 (8 * r.length + (2 * l + 1))) := by rw [s2 _ (by omega)]; exact g1 _ (by omega)
  have hF0 : FRM (uM U 49 38 (nI r.length)) S (c + 1) := a5.kept (uM_ni (by decide)) (uM_ni (by decide)) (fun a i q => uM_na (by omega))
  have hfr : ∀ a i, (a = 49 → i ≠ 32 ∧ i ≠ 38) → (a < 62 ∨ 66 < a) → U2 a i = U a i := by
    intro a i n1 n2
    have b1 : uM U 49 38 (nI r.length) a i = U a i := by
      rw [uM_at, if_neg (fun q => (n1 q.1).2 q.2)]
    rw [e]
    unfold mavV
    split
    · exact b1
    · unfold mcap
      rw [uM_at, if_neg (fun q => (n1 q.1).1 q.2), uM_na (by omega), uM_na (by omega), uM_na (by omega), uM_na (by omega)]
      exact b1
  have h38 : U2 49 38 = nI r.length := by
    rw [e]
    unfold mavV
    split
    · rw [uM_hit]
    · unfold mcap
      rw [uM_ni (by decide), uM_na (by decide), uM_na (by decide), uM_na (by decide), uM_na (by decide), uM_hit]
  refine ⟨h38, s3.kept hl (fun j hj => ⟨hfr 68 j (by omega) (by omega), fun i _ => hfr 67 _ (by omega) (by omega)⟩), okL_tail a3, g2, by rw [e]; exact FRM_add hF0 c (by omega) _ _ a6.1, fadd_ok a6 c hx hy, SB_add a7 a6.2.1 c _ _, ?_, ?_, fun a i n1 n2 => ?_⟩
  · rw [← a8]
    show fstk l t c r _ = fstk l t c r (fsub l t c (6 - h) p S)
    have e1 := fsub_leaf (c := c) (t := t) hl s2 hf S
    rw [e1]
  · have := fadd_sz S c (U 67 (8 * r.length + 2 * l)) (U 67 (8 * r.length + (2 * l + 1)))
    have := slv_pos h p r
    omega
  · rw [hfr a i (fun q => ⟨(n1 q).1, (n1 q).2.2⟩) (by omega)]
    exact a10 a i n1 n2
theorem mpush_at {V : vM} {m : Nat} {h x0 x1 x2 x3 x4 x5 x6 x7 : Int32} {a i : Nat} (h1 : a = 49 → i ≠ 38) (h2 : a = 68 → i ≠ m) (h3 : a = 67 → i < 8 * m ∨ 8 * m + 7 < i) : mpush V m h x0 x1 x2 x3 x4 x5 x6 x7 a i = V a i := by
  unfold mpush
  simp only [uM_at]
  rw [if_neg (fun q => h1 q.1 q.2), if_neg (fun q => h2 q.1 q.2)]
  rw [if_neg (fun q => by have := h3 q.1; omega), if_neg (fun q => by have := h3 q.1; omega), if_neg (fun q => by have := h3 q.1; omega), if_neg (fun q => by have := h3 q.1; omega), if_neg (fun q => by have := h3 q.1; omega), if_neg (fun q => by have := h3 q.1; omega), if_neg (fun q => by have := h3 q.1; omega), if_neg (fun q => by have := h3 q.1; omega)]
theorem mpush_p {V : vM} {m : Nat} {h x0 x1 x2 x3 x4 x5 x6 x7 : Int32} : mpush V m h x0 x1 x2 x3 x4 x5 x6 x7 67 (8 * m) = x0 ∧ mpush V m h x0 x1 x2 x3 x4 x5 x6 x7 67 (8 * m + 1) = x1 ∧ mpush V m h x0 x1 x2 x3 x4 x5 x6 x7 67 (8 * m + 2) = x2 ∧ mpush V m h x0 x1 x2 x3 x4 x5 x6 x7 67 (8 * m + 3) = x3 ∧ mpush V m h x0 x1 x2 x3 x4 x5 x6 x7 67 (8 * m + 4) = x4 ∧ mpush V m h x0 x1 x2 x3 x4 x5 x6 x7 67 (8 * m + 5) = x5 ∧ mpush V m h x0 x1 x2 x3 x4 x5 x6 x7 67 (8 * m + 6) = x6 ∧ mpush V m h x0 x1 x2 x3 x4 x5 x6 x7 67 (8 * m + 7) = x7 ∧ mpush V m h x0 x1 x2 x3 x4 x5 x6 x7 68 m = h ∧ mpush V m h x0 x1 x2 x3 x4 x5 x6 x7 49 38 = nI (m + 1) := by
  unfold mpush
  refine ⟨?_, ?_, ?_, ?_, ?_, ?_, ?_, ?_, ?_, ?_⟩ <;> simp [uM_at]
theorem mpush_q {V : vM} {m : Nat} {h : Int32} {f : Nat → Int32} {l : Nat} (hl : l = 2 ∨ l = 3) {y6 y7 : Int32} (h6 : l = 3 → y6 = f 6 ∧ y7 = f 7) : ∀ i, i < 2 * l + 2 → mpush V m h (f 0) (f 1) (f 2) (f 3) (f 4) (f 5) y6 y7 67 (8 * m + i) = f i := by
  intro i hi
  obtain ⟨q0, q1, q2, q3, q4, q5, q6, q7, -, -⟩ := mpush_p (V := V) (m := m) (h := h) (x0 := f 0) (x1 := f 1) (x2 := f 2) (x3 := f 3) (x4 := f 4) (x5 := f 5) (x6 := y6) (x7 := y7)
  have : i = 0 ∨ i = 1 ∨ i = 2 ∨ i = 3 ∨ i = 4 ∨ i = 5 ∨ (l = 3 ∧ i = 6) ∨ (l = 3 ∧ i = 7) := by omega
  rcases this with rfl | rfl | rfl | rfl | rfl | rfl | ⟨e, rfl⟩ | ⟨e, rfl⟩
  · exact q0
  · exact q1
  · exact q2
  · exact q3
  · exact q4
  · exact q5
  · rw [q6]; exact (h6 e).1
  · rw [q7]; exact (h6 e).2
theorem AM_split {l : Nat} (hl : l = 2 ∨ l = 3) {t : Int32} {c B : Nat} {R : FS} {V0 U U2 : vM} {S : FS} {h : Nat} {p q : Nat → Int32} {r : STK} (H : AM l t c B R V0 U ((h, p) :: r) S) (h6 : h < 6) (eq : q = fun k => U 67 (8 * r.length + k)) (hf : ¬ flt l q t) {y6 y7 z6 z7 : Int32} (hy : l = 3 → y6 = hB l q 6 ∧ y7 = hB l q 7) (hz : l = 3 → z6 = hA l q 6 ∧ z7 = hA l q 7)
    (e : U2 = mpush (mpush (uM U 49 38 (nI r.length)) r.length (nI (h + 1)) (hB l q 0) (hB l q 1) (hB l q 2) (hB l q 3) (hB l q 4) (hB l q 5) y6 y7) (r.length + 1) (nI (h + 1)) (hA l q 0) (hA l q 1) (hA l q 2) (hA l q 3) (hA l q 4) (hA l q 5) z6 z7) :
    AM l t c B R V0 U2 ((h + 1, hA l p) :: (h + 1, hB l p) :: r) S := by
  obtain ⟨a1, ⟨s1, s2, s3⟩, ⟨o1, o2, o3⟩, ⟨g1, g2⟩, a5, a6, a7, a8, a9, a10⟩ := H
  have hq : ∀ i, i < 2 * l + 2 → q i = p i := fun i hi => by rw [eq]; exact s2 i hi
  have hfr : ∀ a i, (a = 49 → i ≠ 38) → (a = 68 → i < r.length) → (a = 67 → i < 8 * r.length) → U2 a i = U a i := by
    intro a i n1 n2 n3
    rw [e, mpush_at n1 (fun z => by have := n2 z; omega) (fun z => by have := n3 z; omega), mpush_at n1 (fun z => by have := n2 z; omega) (fun z => by have := n3 z; omega), uM_at, if_neg (fun z => n1 z.1 z.2)]
  refine ⟨by rw [e]; exact mpush_p.2.2.2.2.2.2.2.2.2, ⟨?_, fun i hi => ?_, ?_, fun i hi => ?_, ?_⟩, ⟨by simp; omega, by omega, by omega, by omega, o3⟩, ⟨hA_r hl g1, hB_r hl g1, g2⟩, a5.kept (hfr _ _ (by omega) (by omega) (by omega)) (hfr _ _ (by omega) (by omega) (by omega)) (fun a i z => hfr a i (by omega) (by omega) (by omega)), a6, a7, ?_, ?_, fun a i n1 n2 => ?_⟩
  · rw [e]; exact mpush_p.2.2.2.2.2.2.2.2.1
  · rw [e]
    show mpush _ (r.length + 1) _ _ _ _ _ _ _ _ _ 67 (8 * (r.length + 1) + i) = _
    rw [mpush_q hl hz i hi]
    exact hA_cong hl hq i hi
  · rw [e, mpush_at (by omega) (by omega) (by omega)]; exact mpush_p.2.2.2.2.2.2.2.2.1
  · rw [e, mpush_at (by omega) (by omega) (by omega), mpush_q hl hy i hi]
    exact hB_cong hl hq i hi
  · exact s3.kept hl (fun j hj => ⟨hfr 68 j (by omega) (fun _ => hj) (by omega), fun i hi => hfr 67 _ (by omega) (by omega) (by omega)⟩)
  · rw [fstk_step h6 (fun z => hf ((flt_cong hl hq t).mpr z)) S]; exact a8
  · rw [show slv ((h + 1, hA l p) :: (h + 1, hB l p) :: r) = slv ((h, p) :: r) from ?_]
    · exact a9
    · simp only [slv]
      obtain ⟨k, hk⟩ : ∃ k, 6 - h = k + 1 := ⟨5 - h, by omega⟩
      rw [hk, show 6 - (h + 1) = k by omega, Nat.pow_succ]
      omega
  · rw [hfr a i (fun z => (n1 z).2.2) (by omega) (by omega)]
    exact a10 a i n1 n2
theorem snd7_leaf (h : Nat) (p : Nat → Int32) (r : STK) (h6 : h ≤ 6) : snd7 r < snd7 ((h, p) :: r) := by
  show snd7 r < (2 ^ (7 - h) - 1) + snd7 r
  obtain ⟨k, hk⟩ : ∃ k, 7 - h = k + 1 := ⟨6 - h, by omega⟩
  rw [hk, Nat.pow_succ]
  have := Nat.two_pow_pos k
  omega
theorem snd7_split (h : Nat) (p q s : Nat → Int32) (r : STK) (h6 : h < 6) : snd7 ((h + 1, q) :: (h + 1, s) :: r) < snd7 ((h, p) :: r) := by
  show (2 ^ (7 - (h + 1)) - 1) + ((2 ^ (7 - (h + 1)) - 1) + snd7 r) < (2 ^ (7 - h) - 1) + snd7 r
  obtain ⟨k, hk⟩ : ∃ k, 7 - h = k + 1 := ⟨6 - h, by omega⟩
  rw [hk, show 7 - (h + 1) = k by omega, Nat.pow_succ]
  have := Nat.two_pow_pos k
  omega
set_option maxHeartbeats 1000000 in
set_option maxRecDepth 100000 in
theorem mX10_bend {g : gX} (V : vM) (a b c : Int32) : MM g jX10_bend V [.int a, .int b, .int c] (pI V (bnd a b c)) := by
  refine MM.of plX10_bend (Nat.le_of_ble_eq_true rfl) ?_
  obtain ⟨Q, hQ⟩ : ∃ Q : Option Value → vM → Prop, Q = (pI V (bnd a b c)) := ⟨_, rfl⟩
  rw [← hQ]
  show XX g jX10_bend Q V 0 [(0, .int a), (1, .int b), (2, .int c)] []
  refine x_iload_n dX10_bend_0 0 rfl ?_
  refine x_iconst (v := 2) dX10_bend_1 (by decide) ?_
  refine x_iload_n dX10_bend_2 1 rfl ?_
  refine x_imul dX10_bend_3 ?_
  refine x_isub dX10_bend_4 ?_
  refine x_iload_n dX10_bend_5 2 rfl ?_
  refine x_iadd dX10_bend_6 ?_
  refine x_callS (K := jX10_size) [.int ((a - (2 * b)) + c)] lk_X10_195 ⟨⟨rfl, rfl⟩, Nat.le_of_ble_eq_true rfl, Nat.le_of_ble_eq_true rfl⟩ (mX10_size V ((a - (2 * b)) + c)) rfl (Nat.le_of_ble_eq_true rfl) rfl dX10_bend_7 (kpI ?_)
  refine x_iret dX10_bend_10 rfl ?_
  rw [hQ]
  refine ⟨rfl, ?_⟩
  rw [iabs_sz]
  rfl
set_option maxHeartbeats 1000000 in
set_option maxRecDepth 100000 in
theorem mX10_push {g : gX} (V : vM) {m : Nat} (hm : V 49 38 = nI m) (h8 : m < 10) (h x0 x1 x2 x3 x4 x5 x6 x7 : Int32) : MM g jX10_push V [.ref (g.2.1 49), .int h, .int x0, .int x1, .int x2, .int x3, .int x4, .int x5, .int x6, .int x7] (dV (mpush V m h x0 x1 x2 x3 x4 x5 x6 x7)) := by
  refine MM.of plX10_push (Nat.le_of_ble_eq_true rfl) ?_
  obtain ⟨Q, hQ⟩ : ∃ Q : Option Value → vM → Prop, Q = (dV (mpush V m h x0 x1 x2 x3 x4 x5 x6 x7)) := ⟨_, rfl⟩
  rw [← hQ]
  show XX g jX10_push Q V 0 [(0, .ref (g.2.1 49)), (1, .int h), (2, .int x0), (3, .int x1), (4, .int x2), (5, .int x3), (6, .int x4), (7, .int x5), (8, .int x6), (9, .int x7)] []
  refine x_bipush (v := 8) dX10_push_0 (by decide) ?_
  refine x_aload_n dX10_push_2 0 rfl ?_
  refine x_getI fl_X10_220 rfl rfl dX10_push_3 ?_
  refine x_topi (hm) ?_
  refine x_imul dX10_push_6 ?_
  refine x_istore 10 [(10, .int (8 * (nI m))), (0, .ref (g.2.1 49)), (1, .int h), (2, .int x0), (3, .int x1), (4, .int x2), (5, .int x3), (6, .int x4), (7, .int x5), (8, .int x6), (9, .int x7)] dX10_push_7 (by decide) rfl ?_
  refine x_aload_n dX10_push_9 1 rfl ?_
  refine x_getR fl_X10_62 rfl rfl dX10_push_10 ?_
  refine x_iload dX10_push_13 0 rfl ?_
  refine x_iload_n dX10_push_15 3 rfl ?_
  have q1 : (8 * (nI m) : Int32) = nI (8 * m) := nmul (rfl) (rfl)
  refine YY.S (st' := [.int x0, .int (nI (8 * m)), .ref (g.2.1 67)]) (by rw [q1]) ?_
  have b2 : vp_in (nI (8 * m)) 80 := by exact vp_in_nI (by omega) (by decide)
  refine x_iast rfl b2 dX10_push_16 ?_
  refine YY.V (V' := uM V 67 (8 * m) x0) (by rw [nI_clamp (by omega)]) ?_
  obtain ⟨U3, eU3⟩ : ∃ v_v : vM, v_v = uM V 67 (8 * m) x0 := ⟨_, rfl⟩
  refine YY.V eU3.symm ?_
  refine x_aload_n dX10_push_17 1 rfl ?_
  refine x_getR fl_X10_62 rfl rfl dX10_push_18 ?_
  refine x_iload dX10_push_21 0 rfl ?_
  refine x_iconst (v := 1) dX10_push_23 (by decide) ?_
  refine x_iadd dX10_push_24 ?_
  refine x_iload_n dX10_push_25 4 rfl ?_
  have q4 : ((8 * (nI m)) + 1 : Int32) = nI ((8 * m) + 1) := nadd (nmul (rfl) (rfl)) (rfl)
  refine YY.S (st' := [.int x1, .int (nI ((8 * m) + 1)), .ref (g.2.1 67)]) (by rw [q4]) ?_
  have b5 : vp_in (nI ((8 * m) + 1)) 80 := by exact vp_in_nI (by omega) (by decide)
  refine x_iast rfl b5 dX10_push_26 ?_
  refine YY.V (V' := uM U3 67 ((8 * m) + 1) x1) (by rw [nI_clamp (by omega)]) ?_
  obtain ⟨U6, eU6⟩ : ∃ v_v : vM, v_v = uM U3 67 ((8 * m) + 1) x1 := ⟨_, rfl⟩
  refine YY.V eU6.symm ?_
  refine x_aload_n dX10_push_27 1 rfl ?_
  refine x_getR fl_X10_62 rfl rfl dX10_push_28 ?_
  refine x_iload dX10_push_31 0 rfl ?_
  refine x_iconst (v := 2) dX10_push_33 (by decide) ?_
  refine x_iadd dX10_push_34 ?_
  refine x_iload dX10_push_35 5 rfl ?_
  have q7 : ((8 * (nI m)) + 2 : Int32) = nI ((8 * m) + 2) := nadd (nmul (rfl) (rfl)) (rfl)
  refine YY.S (st' := [.int x2, .int (nI ((8 * m) + 2)), .ref (g.2.1 67)]) (by rw [q7]) ?_
  have b8 : vp_in (nI ((8 * m) + 2)) 80 := by exact vp_in_nI (by omega) (by decide)
  refine x_iast rfl b8 dX10_push_37 ?_
  refine YY.V (V' := uM U6 67 ((8 * m) + 2) x2) (by rw [nI_clamp (by omega)]) ?_
  obtain ⟨U9, eU9⟩ : ∃ v_v : vM, v_v = uM U6 67 ((8 * m) + 2) x2 := ⟨_, rfl⟩
  refine YY.V eU9.symm ?_
  refine x_aload_n dX10_push_38 1 rfl ?_
  refine x_getR fl_X10_62 rfl rfl dX10_push_39 ?_
  refine x_iload dX10_push_42 0 rfl ?_
  refine x_iconst (v := 3) dX10_push_44 (by decide) ?_
  refine x_iadd dX10_push_45 ?_
  refine x_iload dX10_push_46 6 rfl ?_
  have q10 : ((8 * (nI m)) + 3 : Int32) = nI ((8 * m) + 3) := nadd (nmul (rfl) (rfl)) (rfl)
  refine YY.S (st' := [.int x3, .int (nI ((8 * m) + 3)), .ref (g.2.1 67)]) (by rw [q10]) ?_
  have b11 : vp_in (nI ((8 * m) + 3)) 80 := by exact vp_in_nI (by omega) (by decide)
  refine x_iast rfl b11 dX10_push_48 ?_
  refine YY.V (V' := uM U9 67 ((8 * m) + 3) x3) (by rw [nI_clamp (by omega)]) ?_
  obtain ⟨U12, eU12⟩ : ∃ v_v : vM, v_v = uM U9 67 ((8 * m) + 3) x3 := ⟨_, rfl⟩
  refine YY.V eU12.symm ?_
  refine x_aload_n dX10_push_49 1 rfl ?_
  refine x_getR fl_X10_62 rfl rfl dX10_push_50 ?_
  refine x_iload dX10_push_53 0 rfl ?_
  refine x_iconst (v := 4) dX10_push_55 (by decide) ?_
  refine x_iadd dX10_push_56 ?_
  refine x_iload dX10_push_57 7 rfl ?_
  have q13 : ((8 * (nI m)) + 4 : Int32) = nI ((8 * m) + 4) := nadd (nmul (rfl) (rfl)) (rfl)
  refine YY.S (st' := [.int x4, .int (nI ((8 * m) + 4)), .ref (g.2.1 67)]) (by rw [q13]) ?_
  have b14 : vp_in (nI ((8 * m) + 4)) 80 := by exact vp_in_nI (by omega) (by decide)
  refine x_iast rfl b14 dX10_push_59 ?_
  refine YY.V (V' := uM U12 67 ((8 * m) + 4) x4) (by rw [nI_clamp (by omega)]) ?_
  obtain ⟨U15, eU15⟩ : ∃ v_v : vM, v_v = uM U12 67 ((8 * m) + 4) x4 := ⟨_, rfl⟩
  refine YY.V eU15.symm ?_
  refine x_aload_n dX10_push_60 1 rfl ?_
  refine x_getR fl_X10_62 rfl rfl dX10_push_61 ?_
  refine x_iload dX10_push_64 0 rfl ?_
  refine x_iconst (v := 5) dX10_push_66 (by decide) ?_
  refine x_iadd dX10_push_67 ?_
  refine x_iload dX10_push_68 8 rfl ?_
  have q16 : ((8 * (nI m)) + 5 : Int32) = nI ((8 * m) + 5) := nadd (nmul (rfl) (rfl)) (rfl)
  refine YY.S (st' := [.int x5, .int (nI ((8 * m) + 5)), .ref (g.2.1 67)]) (by rw [q16]) ?_
  have b17 : vp_in (nI ((8 * m) + 5)) 80 := by exact vp_in_nI (by omega) (by decide)
  refine x_iast rfl b17 dX10_push_70 ?_
  refine YY.V (V' := uM U15 67 ((8 * m) + 5) x5) (by rw [nI_clamp (by omega)]) ?_
  obtain ⟨U18, eU18⟩ : ∃ v_v : vM, v_v = uM U15 67 ((8 * m) + 5) x5 := ⟨_, rfl⟩
  refine YY.V eU18.symm ?_
  refine x_aload_n dX10_push_71 1 rfl ?_
  refine x_getR fl_X10_62 rfl rfl dX10_push_72 ?_
  refine x_iload dX10_push_75 0 rfl ?_
  refine x_bipush (v := 6) dX10_push_77 (by decide) ?_
  refine x_iadd dX10_push_79 ?_
  refine x_iload dX10_push_80 9 rfl ?_
  have q19 : ((8 * (nI m)) + 6 : Int32) = nI ((8 * m) + 6) := nadd (nmul (rfl) (rfl)) (rfl)
  refine YY.S (st' := [.int x6, .int (nI ((8 * m) + 6)), .ref (g.2.1 67)]) (by rw [q19]) ?_
  have b20 : vp_in (nI ((8 * m) + 6)) 80 := by exact vp_in_nI (by omega) (by decide)
  refine x_iast rfl b20 dX10_push_82 ?_
  refine YY.V (V' := uM U18 67 ((8 * m) + 6) x6) (by rw [nI_clamp (by omega)]) ?_
  obtain ⟨U21, eU21⟩ : ∃ v_v : vM, v_v = uM U18 67 ((8 * m) + 6) x6 := ⟨_, rfl⟩
  refine YY.V eU21.symm ?_
  refine x_aload_n dX10_push_83 1 rfl ?_
  refine x_getR fl_X10_62 rfl rfl dX10_push_84 ?_
  refine x_iload dX10_push_87 0 rfl ?_
  refine x_bipush (v := 7) dX10_push_89 (by decide) ?_
  refine x_iadd dX10_push_91 ?_
  refine x_iload dX10_push_92 10 rfl ?_
  have q22 : ((8 * (nI m)) + 7 : Int32) = nI ((8 * m) + 7) := nadd (nmul (rfl) (rfl)) (rfl)
  refine YY.S (st' := [.int x7, .int (nI ((8 * m) + 7)), .ref (g.2.1 67)]) (by rw [q22]) ?_
  have b23 : vp_in (nI ((8 * m) + 7)) 80 := by exact vp_in_nI (by omega) (by decide)
  refine x_iast rfl b23 dX10_push_94 ?_
  refine YY.V (V' := uM U21 67 ((8 * m) + 7) x7) (by rw [nI_clamp (by omega)]) ?_
  obtain ⟨U24, eU24⟩ : ∃ v_v : vM, v_v = uM U21 67 ((8 * m) + 7) x7 := ⟨_, rfl⟩
  refine YY.V eU24.symm ?_
  refine x_aload_n dX10_push_95 1 rfl ?_
  refine x_getR fl_X10_65 rfl rfl dX10_push_96 ?_
  refine x_aload_n dX10_push_99 1 rfl ?_
  refine x_getI fl_X10_220 rfl rfl dX10_push_100 ?_
  refine x_topi (y := V 49 38) (by rw [eU24, uM_na (by decide), eU21, uM_na (by decide), eU18, uM_na (by decide), eU15, uM_na (by decide), eU12, uM_na (by decide), eU9, uM_na (by decide), eU6, uM_na (by decide), eU3, uM_na (by decide)]) ?_
  refine x_topi (hm) ?_
  refine x_iload_n dX10_push_103 2 rfl ?_
  have b25 : vp_in (nI m) 10 := by exact vp_in_nI (by omega) (by decide)
  refine x_iast rfl b25 dX10_push_104 ?_
  refine YY.V (V' := uM U24 68 m h) (by rw [nI_clamp (by omega)]) ?_
  obtain ⟨U26, eU26⟩ : ∃ v_v : vM, v_v = uM U24 68 m h := ⟨_, rfl⟩
  refine YY.V eU26.symm ?_
  refine x_aload_n dX10_push_105 1 rfl ?_
  refine x_dup dX10_push_106 rfl ?_
  refine x_getI fl_X10_220 rfl rfl dX10_push_107 ?_
  refine x_topi (y := V 49 38) (by rw [eU26, uM_na (by decide), eU24, uM_na (by decide), eU21, uM_na (by decide), eU18, uM_na (by decide), eU15, uM_na (by decide), eU12, uM_na (by decide), eU9, uM_na (by decide), eU6, uM_na (by decide), eU3, uM_na (by decide)]) ?_
  refine x_topi (hm) ?_
  refine x_iconst (v := 1) dX10_push_110 (by decide) ?_
  refine x_iadd dX10_push_111 ?_
  refine x_putI fp_X10_220 rfl rfl dX10_push_112 ?_
  obtain ⟨U27, eU27⟩ : ∃ v_v : vM, v_v = uM U26 49 38 ((nI m) + 1) := ⟨_, rfl⟩
  refine YY.V eU27.symm ?_
  refine x_vret dX10_push_115 rfl ?_
  rw [hQ]
  refine ⟨?_, rfl⟩
  subst_vars
  rw [nI_1]
  rfl
