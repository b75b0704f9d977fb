/-! the nearest point of a segment: its numbers in int and in long -/
def dZz (S : FS) (p i : Nat) : Int := (S.2.2 p i).toInt - (S.2.2 p (i - 1)).toInt
def d64 (S : FS) (p i : Nat) : Int64 := (S.2.2 p i - S.2.2 p (i - 1)).toInt64
def wh64 (S : FS) (i : Nat) : Int64 := d64 S 0 i * d64 S 0 i + d64 S 1 i * d64 S 1 i
def pt64 (S : FS) (i : Nat) (x y : Int32) : Int64 := d64 S 0 i * (x - S.2.2 0 (i - 1)).toInt64 + d64 S 1 i * (y - S.2.2 1 (i - 1)).toInt64
def q64 (S : FS) (i : Nat) (x y : Int32) : Int64 := if wh64 S i < (if 0 < pt64 S i x y then pt64 S i x y else 0) then wh64 S i else (if 0 < pt64 S i x y then pt64 S i x y else 0)
def npt (S : FS) (p i : Nat) (x y : Int32) : Int32 := S.2.2 p (i - 1) + (d64 S p i * q64 S i x y / wh64 S i).toInt32
def nsqr (S : FS) (i : Nat) (x y : Int32) : Int32 := (npt S 0 i x y - x) * (npt S 0 i x y - x) + (npt S 1 i x y - y) * (npt S 1 i x y - y)
def np64 (S : FS) (p i : Nat) (x y : Int32) : Int64 := (S.2.2 p (i - 1)).toInt64 + d64 S p i * q64 S i x y / wh64 S i
def nsq64 (S : FS) (i : Nat) (x y : Int32) : Int64 := (np64 S 0 i x y - x.toInt64) * (np64 S 0 i x y - x.toInt64) + (np64 S 1 i x y - y.toInt64) * (np64 S 1 i x y - y.toInt64)
theorem mul_bd2 {a b A B : Int} (ha : -A ≤ a ∧ a ≤ A) (hb : -B ≤ b ∧ b ≤ B) : -(A * B) ≤ a * b ∧ a * b ≤ A * B := by
  have hA : 0 ≤ A := by omega
  have hB : 0 ≤ B := by omega
  have h1 : (a * b).natAbs ≤ (A * B).natAbs := by
    rw [Int.natAbs_mul, Int.natAbs_mul]
    exact Nat.mul_le_mul (by omega) (by omega)
  have h2 : 0 ≤ A * B := Int.mul_nonneg hA hB
  omega
theorem d64_i {S : FS} {p i : Nat} (h1 : inR (S.2.2 p i)) (h0 : inR (S.2.2 p (i - 1))) : (d64 S p i).toInt = dZz S p i ∧ -8000 ≤ dZz S p i ∧ dZz S p i ≤ 8000 := by
  have a := inR_i h1
  have b := inR_i h0
  unfold d64 dZz
  rw [Int32.toInt_toInt64]
  refine ⟨fb_subI (by omega) (by omega), by omega, by omega⟩
theorem sq_pos {a b : Int} (ha : -8000 ≤ a ∧ a ≤ 8000) (hb : -8000 ≤ b ∧ b ≤ 8000) (h : ¬ (a = 0 ∧ b = 0)) : 0 < a * a + b * b ∧ a * a + b * b ≤ 128000000 := by
  have m1 := mul_bd ha ha
  have m2 := mul_bd hb hb
  have e1 : 0 ≤ a * a := by rw [← Int.natAbs_mul_self]; omega
  have e2 : 0 ≤ b * b := by rw [← Int.natAbs_mul_self]; omega
  refine ⟨?_, by omega⟩
  rcases Int.lt_or_le 0 (a * a + b * b) with q | q
  · exact q
  · have z1 : a * a = 0 := by omega
    have z2 : b * b = 0 := by omega
    exact absurd ⟨by rcases Int.mul_eq_zero.mp z1 with z | z <;> exact z, by rcases Int.mul_eq_zero.mp z2 with z | z <;> exact z⟩ h
def sgm (S : FS) (i : Nat) : Prop := (inR (S.2.2 0 i) ∧ inR (S.2.2 1 i)) ∧ (inR (S.2.2 0 (i - 1)) ∧ inR (S.2.2 1 (i - 1))) ∧ ¬ (S.2.2 0 i - S.2.2 0 (i - 1) = 0 ∧ S.2.2 1 i - S.2.2 1 (i - 1) = 0)
theorem wh_i {S : FS} {i : Nat} (h : sgm S i) : (wh64 S i).toInt = dZz S 0 i * dZz S 0 i + dZz S 1 i * dZz S 1 i ∧ 0 < (wh64 S i).toInt ∧ (wh64 S i).toInt ≤ 128000000 := by
  obtain ⟨⟨a1, b1⟩, ⟨a0, b0⟩, hne⟩ := h
  obtain ⟨e0, r0, r0'⟩ := d64_i a1 a0
  obtain ⟨e1, r1, r1'⟩ := d64_i b1 b0
  have m0 := mul_bd ⟨r0, r0'⟩ ⟨r0, r0'⟩
  have m1 := mul_bd ⟨r1, r1'⟩ ⟨r1, r1'⟩
  have hz : ¬ (dZz S 0 i = 0 ∧ dZz S 1 i = 0) := by
    rintro ⟨z0, z1⟩
    have ha1 := inR_i a1
    have ha0 := inR_i a0
    have hb1 := inR_i b1
    have hb0 := inR_i b0
    refine hne ⟨Int32.toInt_inj.mp ?_, Int32.toInt_inj.mp ?_⟩
    · rw [fb_subI (by omega) (by omega)]; exact z0
    · rw [fb_subI (by omega) (by omega)]; exact z1
  have sp := sq_pos ⟨r0, r0'⟩ ⟨r1, r1'⟩ hz
  have f0 : (d64 S 0 i * d64 S 0 i).toInt = dZz S 0 i * dZz S 0 i := by rw [fb_mulL] <;> rw [e0] <;> omega
  have f1 : (d64 S 1 i * d64 S 1 i).toInt = dZz S 1 i * dZz S 1 i := by rw [fb_mulL] <;> rw [e1] <;> omega
  have e : (wh64 S i).toInt = dZz S 0 i * dZz S 0 i + dZz S 1 i * dZz S 1 i := by
    unfold wh64
    rw [fb_addL] <;> rw [f0, f1] <;> omega
  exact ⟨e, by rw [e]; exact sp.1, by rw [e]; exact sp.2⟩
theorem q_i {S : FS} {i : Nat} (h : sgm S i) (x y : Int32) : 0 ≤ (q64 S i x y).toInt ∧ (q64 S i x y).toInt ≤ (wh64 S i).toInt := by
  obtain ⟨-, h1, -⟩ := wh_i h
  have z : (0 : Int64).toInt = 0 := rfl
  obtain ⟨mm, em⟩ : ∃ v : Int64, v = if 0 < pt64 S i x y then pt64 S i x y else 0 := ⟨_, rfl⟩
  have hm : 0 ≤ mm.toInt := by
    by_cases d : 0 < pt64 S i x y
    · rw [em, if_pos d]
      rw [Int64.lt_iff_toInt_lt, z] at d
      omega
    · rw [em, if_neg d, z]; exact Int.le_refl _
  have eq : q64 S i x y = if wh64 S i < mm then wh64 S i else mm := by rw [em]; rfl
  by_cases c : wh64 S i < mm
  · rw [eq, if_pos c]; exact ⟨Int.le_of_lt h1, Int.le_refl _⟩
  · rw [eq, if_neg c]
    rw [Int64.lt_iff_toInt_lt] at c
    exact ⟨hm, by omega⟩
theorem tdiv_bd {d q n : Int} (hq : 0 ≤ q ∧ q ≤ n) (hn : 0 < n) (hd : -8000 ≤ d ∧ d ≤ 8000) : -8000 ≤ (d * q).tdiv n ∧ (d * q).tdiv n ≤ 8000 := by
  have e : ((d * q).tdiv n).natAbs ≤ 8000 := by
    rw [Int.natAbs_tdiv, Int.natAbs_mul]
    refine Nat.div_le_of_le_mul ?_
    rw [Nat.mul_comm n.natAbs]
    exact Nat.mul_le_mul (by omega) (by omega)
  omega
theorem wq_i {S : FS} {i p : Nat} (h : sgm S i) (hp : p = 0 ∨ p = 1) (x y : Int32) : ∃ w : Int, (d64 S p i * q64 S i x y / wh64 S i).toInt = w ∧ -8000 ≤ w ∧ w ≤ 8000 := by
  obtain ⟨-, n1, n2⟩ := wh_i h
  obtain ⟨q1, q2⟩ := q_i h x y
  have hd : (d64 S p i).toInt = dZz S p i ∧ -8000 ≤ dZz S p i ∧ dZz S p i ≤ 8000 := by
    rcases hp with rfl | rfl
    · exact d64_i h.1.1 h.2.1.1
    · exact d64_i h.1.2 h.2.1.2
  obtain ⟨e, r1, r2⟩ := hd
  have mb := mul_bd2 (a := dZz S p i) (b := (q64 S i x y).toInt) (A := 8000) (B := 128000000) ⟨r1, r2⟩ ⟨by omega, by omega⟩
  have em : (d64 S p i * q64 S i x y).toInt = dZz S p i * (q64 S i x y).toInt := by
    rw [fb_mulL] <;> rw [e] <;> omega
  have tb := tdiv_bd ⟨q1, q2⟩ n1 ⟨r1, r2⟩
  refine ⟨(dZz S p i * (q64 S i x y).toInt).tdiv (wh64 S i).toInt, ?_, tb.1, tb.2⟩
  rw [Int64.toInt_div, em, fb_bmodL (by omega) (by omega)]
theorem npt_i {S : FS} {i p : Nat} (h : sgm S i) (hp : p = 0 ∨ p = 1) (x y : Int32) : (np64 S p i x y) = (npt S p i x y).toInt64 ∧ -12000 ≤ (npt S p i x y).toInt ∧ (npt S p i x y).toInt ≤ 12000 := by
  obtain ⟨w, ew, w1, w2⟩ := wq_i h hp x y
  have hr : inR (S.2.2 p (i - 1)) := by
    rcases hp with rfl | rfl
    · exact h.2.1.1
    · exact h.2.1.2
  have r := inR_i hr
  have e32 : ((d64 S p i * q64 S i x y / wh64 S i).toInt32).toInt = w := by
    rw [Int64.toInt_toInt32, ew, fb_bmod (by omega) (by omega)]
  have e1 : (npt S p i x y).toInt = (S.2.2 p (i - 1)).toInt + w := by
    unfold npt
    rw [fb_addI] <;> rw [e32] <;> omega
  refine ⟨Int64.toInt_inj.mp ?_, by omega, by omega⟩
  rw [Int32.toInt_toInt64, e1]
  unfold np64
  rw [fb_addL] <;> rw [ew, Int32.toInt_toInt64] <;> omega
theorem nsq_i {S : FS} {i : Nat} (h : sgm S i) {x y : Int32} (hx : inR x) (hy : inR y) : nsq64 S i x y = (nsqr S i x y).toInt64 ∧ 0 ≤ (nsqr S i x y).toInt ∧ (nsqr S i x y).toInt ≤ 512000000 := by
  have rx := inR_i hx
  have ry := inR_i hy
  obtain ⟨e0, a0, b0⟩ := npt_i h (p := 0) (by omega) x y
  obtain ⟨e1, a1, b1⟩ := npt_i h (p := 1) (by omega) x y
  have s0 : (npt S 0 i x y - x).toInt = (npt S 0 i x y).toInt - x.toInt := fb_subI (by omega) (by omega)
  have s1 : (npt S 1 i x y - y).toInt = (npt S 1 i x y).toInt - y.toInt := fb_subI (by omega) (by omega)
  have l0 : (np64 S 0 i x y - x.toInt64).toInt = (npt S 0 i x y).toInt - x.toInt := by
    rw [e0, fb_subL] <;> rw [Int32.toInt_toInt64, Int32.toInt_toInt64] <;> omega
  have l1 : (np64 S 1 i x y - y.toInt64).toInt = (npt S 1 i x y).toInt - y.toInt := by
    rw [e1, fb_subL] <;> rw [Int32.toInt_toInt64, Int32.toInt_toInt64] <;> omega
  have m0 := mul_bd2 (a := (npt S 0 i x y).toInt - x.toInt) (b := (npt S 0 i x y).toInt - x.toInt) (A := 16000) (B := 16000) ⟨by omega, by omega⟩ ⟨by omega, by omega⟩
  have m1 := mul_bd2 (a := (npt S 1 i x y).toInt - y.toInt) (b := (npt S 1 i x y).toInt - y.toInt) (A := 16000) (B := 16000) ⟨by omega, by omega⟩ ⟨by omega, by omega⟩
  have p0 : 0 ≤ ((npt S 0 i x y).toInt - x.toInt) * ((npt S 0 i x y).toInt - x.toInt) := by rw [← Int.natAbs_mul_self]; omega
  have p1 : 0 ≤ ((npt S 1 i x y).toInt - y.toInt) * ((npt S 1 i x y).toInt - y.toInt) := by rw [← Int.natAbs_mul_self]; omega
  have f0 : ((npt S 0 i x y - x) * (npt S 0 i x y - x)).toInt = ((npt S 0 i x y).toInt - x.toInt) * ((npt S 0 i x y).toInt - x.toInt) := by rw [fb_mulI] <;> rw [s0] <;> omega
  have f1 : ((npt S 1 i x y - y) * (npt S 1 i x y - y)).toInt = ((npt S 1 i x y).toInt - y.toInt) * ((npt S 1 i x y).toInt - y.toInt) := by rw [fb_mulI] <;> rw [s1] <;> omega
  have g0 : ((np64 S 0 i x y - x.toInt64) * (np64 S 0 i x y - x.toInt64)).toInt = ((npt S 0 i x y).toInt - x.toInt) * ((npt S 0 i x y).toInt - x.toInt) := by rw [fb_mulL] <;> rw [l0] <;> omega
  have g1 : ((np64 S 1 i x y - y.toInt64) * (np64 S 1 i x y - y.toInt64)).toInt = ((npt S 1 i x y).toInt - y.toInt) * ((npt S 1 i x y).toInt - y.toInt) := by rw [fb_mulL] <;> rw [l1] <;> omega
  have en : (nsqr S i x y).toInt = ((npt S 0 i x y).toInt - x.toInt) * ((npt S 0 i x y).toInt - x.toInt) + ((npt S 1 i x y).toInt - y.toInt) * ((npt S 1 i x y).toInt - y.toInt) := by
    unfold nsqr
    rw [fb_addI] <;> rw [f0, f1] <;> omega
  refine ⟨Int64.toInt_inj.mp ?_, by omega, by omega⟩
  rw [Int32.toInt_toInt64, en]
  unfold nsq64
  rw [fb_addL] <;> rw [g0, g1] <;> omega
