theorem q_a {S : FS} {i : Nat} {x y : Int32} (hs : sgm S i) (h : ¬ 0 ≤ pt64 S i x y) : 0 = q64 S i x y := by
  have h1 := (wh_i hs).2.1
  have n1 : ¬ 0 < pt64 S i x y := fun q => h (Int64.le_of_lt q)
  unfold q64
  rw [if_neg n1, if_neg]
  intro q
  rw [Int64.lt_iff_toInt_lt, show (0 : Int64).toInt = 0 from rfl] at q
  omega
theorem q_bc {S : FS} {i : Nat} {x y : Int32} (hs : sgm S i) (h : 0 ≤ pt64 S i x y) : (pt64 S i x y ≤ wh64 S i → pt64 S i x y = q64 S i x y) ∧ (¬ pt64 S i x y ≤ wh64 S i → wh64 S i = q64 S i x y) := by
  have h1 := (wh_i hs).2.1
  have z : (0 : Int64).toInt = 0 := rfl
  have hm : (if 0 < pt64 S i x y then pt64 S i x y else 0) = pt64 S i x y := by
    by_cases q : 0 < pt64 S i x y
    · rw [if_pos q]
    · rw [if_neg q]
      apply Int64.toInt_inj.mp
      rw [Int64.lt_iff_toInt_lt] at q
      rw [Int64.le_iff_toInt_le] at h
      omega
  unfold q64
  rw [hm]
  exact ⟨fun q => by rw [if_neg (Int64.not_lt.mpr q)], fun q => by rw [if_pos (Int64.not_le.mp q)]⟩
def NM (S : FS) (x y : Int32) (T : Nat × Nat × Int32) (b bx b2 : Int64) (sn : Int32) : Prop := (T = (0, 0, 2147483647) ∧ b = -1) ∨ (nsV S x y T ∧ b = T.2.2.toInt64 ∧ bx = (npt S 0 T.1 x y).toInt64 ∧ b2 = (npt S 1 T.1 x y).toInt64 ∧ sn = nI T.1 - 1 - nI T.2.1)
theorem NM_up {S : FS} {x y : Int32} (hx : inR x) (hy : inR y) {z : Nat × Nat × Int32} {c p j : Nat} (hc : c < 24) {b bx b2 : Int64} {sn : Int32} (h : NM S x y (nsI S x y z c p j) b bx b2 sn) (hs : sgm S (p + j + 1)) (hi : p + j + 1 < S.1) (hlt : b < 0 ∨ nsq64 S (p + j + 1) x y < b) : NM S x y (nsI S x y z c p (j + 1)) (nsq64 S (p + j + 1) x y) (np64 S 0 (p + j + 1) x y) (np64 S 1 (p + j + 1) x y) (nI (p + j) - nI c) := by
  obtain ⟨e, n0, n1⟩ := nsq_i hs hx hy
  have ei : p + 1 + j = p + j + 1 := by omega
  have lt : nsqr S (p + 1 + j) x y < (nsI S x y z c p j).2.2 := by
    rw [ei]
    rcases h with ⟨h1, -⟩ | ⟨hv, h2, -⟩
    · rw [h1, Int32.lt_iff_toInt_lt, show ((0, 0, 2147483647) : Nat × Nat × Int32).2.2.toInt = 2147483647 from rfl]
      omega
    · rcases hlt with q | q
      · exfalso
        have hv2 := hv.2.2.2.2
        obtain ⟨-, m0, -⟩ := nsq_i hv.2.2.1 hx hy
        rw [h2, hv2, Int64.lt_iff_toInt_lt, Int32.toInt_toInt64, show (0 : Int64).toInt = 0 from rfl] at q
        omega
      · rw [e, h2] at q
        exact i64lt.mp q
  rw [ns_t lt, ei]
  refine Or.inr ⟨⟨by show 1 ≤ p + j + 1; omega, hi, hs, hc, rfl⟩, e, (npt_i hs (Or.inl rfl) x y).1, (npt_i hs (Or.inr rfl) x y).1, ?_⟩
  show nI (p + j) - nI c = nI (p + j + 1) - 1 - nI c
  rw [nI_s1 (by omega), Nat.add_sub_cancel]
theorem NM_no {S : FS} {x y : Int32} (hx : inR x) (hy : inR y) {z : Nat × Nat × Int32} {c p j : Nat} {b bx b2 : Int64} {sn : Int32} (h : NM S x y (nsI S x y z c p j) b bx b2 sn) (hs : sgm S (p + j + 1)) (h0 : ¬ b < 0) (hlt : ¬ nsq64 S (p + j + 1) x y < b) : NM S x y (nsI S x y z c p (j + 1)) b bx b2 sn := by
  obtain ⟨e, n0, n1⟩ := nsq_i hs hx hy
  have ei : p + 1 + j = p + j + 1 := by omega
  have hv := h
  rcases h with ⟨-, h1⟩ | ⟨-, h2, -⟩
  · rw [h1] at h0
    exact absurd (by decide) h0
  · rw [ns_f]
    · exact hv
    · rw [ei]
      intro q
      rw [e, h2] at hlt
      exact hlt (i64lt.mpr q)
theorem nsO_0 {S : FS} {fb : Nat → Nat} {x y : Int32} (hG : GI S fb) : ∀ k, k ≤ S.2.1 → fb k = k → nsO S fb x y k = (0, 0, 2147483647)
  | 0, _, _ => rfl
  | k + 1, hk, e => by
    have hl := (hG.2.2.2 k (by omega)).1
    have hge := hG.ge k 0 (by omega)
    rw [hG.1, Nat.zero_add] at hge
    show nsI S x y (nsO S fb x y k) k (fb k) (fb (k + 1) - fb k - 1) = _
    rw [show fb (k + 1) - fb k - 1 = 0 by omega]
    exact nsO_0 hG k (by omega) (by omega)
theorem NM_end {S : FS} {fb : Nat → Nat} {x y what : Int32} (hG : GI S fb) (h24 : S.2.1 ≤ 24) (hR : ∀ i, i < S.1 → inR (S.2.2 0 i) ∧ inR (S.2.2 1 i)) (hx : inR x) (hy : inR y) {b bx b2 : Int64} {sn : Int32} (h : NM S x y (nsO S fb x y S.2.1) b bx b2 sn) : (b < 0 → S.1 - S.2.1 = 0) ∧ (¬ b < 0 → ¬ S.1 - S.2.1 = 0 ∧ (what = 0 → bx.toInt32 = nrR S fb x y what) ∧ (what = 1 → b2.toInt32 = nrR S fb x y what) ∧ (what = 2 → sn.toInt64.toInt32 = nrR S fb x y what) ∧ (¬ what = 0 → ¬ what = 1 → ¬ what = 2 → b.toInt32 = nrR S fb x y what)) := by
  have hV := (nsO_V hG h24 hR hx hy S.2.1 (Nat.le_refl _)).2
  have h0 := nsO_0 (x := x) (y := y) hG S.2.1 (Nat.le_refl _)
  rw [hG.2.1] at hV h0
  have hge := hG.ge S.2.1 0 (by omega)
  rw [hG.1, Nat.zero_add, hG.2.1] at hge
  rcases h with ⟨h1, h2⟩ | ⟨h1, h2, h3, h4, h5⟩
  · refine ⟨fun _ => ?_, fun q => absurd (by rw [h2]; decide) q⟩
    by_cases c : S.2.1 < S.1
    · have := (hV c).1
      rw [h1] at this
      exact absurd this (by decide)
    · omega
  · have hb : ¬ b < 0 := by
      obtain ⟨-, m0, -⟩ := nsq_i h1.2.2.1 hx hy
      rw [h2, h1.2.2.2.2, Int64.lt_iff_toInt_lt, Int32.toInt_toInt64, show (0 : Int64).toInt = 0 from rfl]
      omega
    refine ⟨fun q => absurd q hb, fun _ => ⟨fun q => ?_, fun q => ?_, fun q => ?_, fun q => ?_, fun q1 q2 q3 => ?_⟩⟩
    · have := h1.1
      rw [h0 (by omega)] at this
      exact absurd this (by decide)
    · rw [h3, i32_64]; unfold nrR; rw [if_pos q]
    · rw [h4, i32_64]; unfold nrR; rw [if_neg (by rw [q]; decide), if_pos q]
    · rw [h5, i32_64]; unfold nrR; rw [if_neg (by rw [q]; decide), if_neg (by rw [q]; decide), if_pos q]
    · rw [h2, i32_64]; unfold nrR; rw [if_neg q1, if_neg q2, if_neg q3]
