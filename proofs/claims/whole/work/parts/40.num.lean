/-! numbers of the flattening: the root; what the kit's law texts give of sums and products within range is pasted (kit/laws/COUNTS.to-paste) -/
theorem lgc_eq {x y : Int64} : lg_cmp x y = 0 ↔ x = y := by
  unfold lg_cmp
  by_cases h : x > y
  · rw [if_pos h]
    refine ⟨fun q => absurd q (by decide), fun q => ?_⟩
    subst q
    exact absurd h (Int64.lt_irrefl)
  · rw [if_neg h]
    by_cases h2 : x = y
    · simp [h2]
    · simp [h2]
theorem lgc_gt {x y : Int64} : 0 < lg_cmp x y ↔ y < x := by
  unfold lg_cmp
  by_cases h : x > y
  · rw [if_pos h]
    exact ⟨fun _ => h, fun _ => by decide⟩
  · rw [if_neg h]
    refine ⟨fun q => ?_, fun q => absurd q h⟩
    by_cases h2 : x = y
    · rw [if_pos h2] at q; exact absurd q (by decide)
    · rw [if_neg h2] at q; exact absurd q (by decide)
theorem lgc_lt {x y : Int64} : lg_cmp x y < 0 ↔ x < y := by
  unfold lg_cmp
  by_cases h : x > y
  · rw [if_pos h]
    refine ⟨fun q => absurd q (by decide), fun q => ?_⟩
    grind
  · rw [if_neg h]
    by_cases h2 : x = y
    · rw [if_pos h2]
      refine ⟨fun q => absurd q (by decide), fun q => ?_⟩
      grind
    · rw [if_neg h2]
      refine ⟨fun q => ?_, fun q => by decide⟩
      grind
theorem lgc_le {x y : Int64} : lg_cmp x y ≤ 0 ↔ x ≤ y := by
  have h1 := lgc_gt (x := x) (y := y)
  constructor
  · intro q
    by_cases c : y < x
    · exact absurd (h1.mpr c) (by grind)
    · grind
  · intro q
    by_cases c : 0 < lg_cmp x y
    · have := h1.mp c; grind
    · grind
theorem lgc_ge {x y : Int64} : 0 ≤ lg_cmp x y ↔ y ≤ x := by
  have h1 := lgc_lt (x := x) (y := y)
  constructor
  · intro q
    by_cases c : x < y
    · exact absurd (h1.mpr c) (by grind)
    · grind
  · intro q
    by_cases c : lg_cmp x y < 0
    · have := h1.mp c; grind
    · grind
/-- the greatest number whose square is no more than n -/
def isqL : Nat → Nat → Nat
  | 0, _ => 0
  | k + 1, n => if (k + 1) * (k + 1) ≤ n then k + 1 else isqL k n
def isq (n : Nat) : Nat := isqL n n
theorem isqL_at {r n : Nat} (h1 : r * r ≤ n) (h2 : n < (r + 1) * (r + 1)) : ∀ k, r ≤ k → isqL k n = r
  | 0, h => by
    have : r = 0 := by omega
    subst this
    rfl
  | k + 1, h => by
    unfold isqL
    by_cases c : r = k + 1
    · subst c
      rw [if_pos h1]
    · have : (r + 1) * (r + 1) ≤ (k + 1) * (k + 1) := Nat.mul_le_mul (by omega) (by omega)
      rw [if_neg (by omega)]
      exact isqL_at h1 h2 k (by omega)
theorem isq_at {r n : Nat} (h1 : r * r ≤ n) (h2 : n < (r + 1) * (r + 1)) : isq n = r := by
  refine isqL_at h1 h2 n ?_
  rcases Nat.eq_zero_or_pos r with q | q
  · omega
  · exact Nat.le_trans (Nat.le_mul_of_pos_left r q) h1
theorem isq_spec (n : Nat) : isq n * isq n ≤ n ∧ n < (isq n + 1) * (isq n + 1) := by
  have key : ∀ k, n < (k + 1) * (k + 1) → isqL k n * isqL k n ≤ n ∧ n < (isqL k n + 1) * (isqL k n + 1) := by
    intro k
    induction k with
    | zero => intro h; exact ⟨Nat.zero_le _, h⟩
    | succ k ih =>
      intro h
      unfold isqL
      by_cases c : (k + 1) * (k + 1) ≤ n
      · rw [if_pos c]; exact ⟨c, h⟩
      · rw [if_neg c]; exact ih (by omega)
  refine key n ?_
  calc n < n + 1 := Nat.lt_succ_self n
    _ ≤ (n + 1) * (n + 1) := Nat.le_mul_of_pos_left _ (Nat.succ_pos n)
def nsq (dx dy : Int32) : Nat := 256 * (dx.toInt.natAbs * dx.toInt.natAbs + dy.toInt.natAbs * dy.toInt.natAbs)
theorem fb_rng (x : Int32) : -2147483648 ≤ x.toInt ∧ x.toInt < 2147483648 := by
  have h1 := Int32.le_toInt x
  have h2 := Int32.toInt_lt x
  omega
theorem fb_bmod {z : Int} (h1 : -2147483648 ≤ z) (h2 : z < 2147483648) : z.bmod (2 ^ 32) = z := by
  rw [Int.bmod_eq_of_le (by omega) (by omega)]
theorem fb_addI {x y : Int32} (h1 : -2147483648 ≤ x.toInt + y.toInt) (h2 : x.toInt + y.toInt < 2147483648) : (x + y).toInt = x.toInt + y.toInt := by
  rw [Int32.toInt_add, fb_bmod h1 h2]
theorem fb_subI {x y : Int32} (h1 : -2147483648 ≤ x.toInt - y.toInt) (h2 : x.toInt - y.toInt < 2147483648) : (x - y).toInt = x.toInt - y.toInt := by
  rw [Int32.toInt_sub, fb_bmod h1 h2]
theorem fb_mulI {x y : Int32} (h1 : -2147483648 ≤ x.toInt * y.toInt) (h2 : x.toInt * y.toInt < 2147483648) : (x * y).toInt = x.toInt * y.toInt := by
  rw [Int32.toInt_mul, fb_bmod h1 h2]
theorem fb_negI {x : Int32} (h : x.toInt ≠ -2147483648) : (-x).toInt = -x.toInt := by
  have := fb_rng x
  rw [Int32.toInt_neg, fb_bmod (by omega) (by omega)]
theorem fb_rngL (x : Int64) : -9223372036854775808 ≤ x.toInt ∧ x.toInt < 9223372036854775808 := by
  have h1 := Int64.le_toInt x
  have h2 := Int64.toInt_lt x
  omega
theorem fb_bmodL {z : Int} (h1 : -9223372036854775808 ≤ z) (h2 : z < 9223372036854775808) : z.bmod (2 ^ 64) = z := by
  rw [Int.bmod_eq_of_le (by omega) (by omega)]
theorem fb_addL {x y : Int64} (h1 : -9223372036854775808 ≤ x.toInt + y.toInt) (h2 : x.toInt + y.toInt < 9223372036854775808) : (x + y).toInt = x.toInt + y.toInt := by
  rw [Int64.toInt_add, fb_bmodL h1 h2]
theorem fb_subL {x y : Int64} (h1 : -9223372036854775808 ≤ x.toInt - y.toInt) (h2 : x.toInt - y.toInt < 9223372036854775808) : (x - y).toInt = x.toInt - y.toInt := by
  rw [Int64.toInt_sub, fb_bmodL h1 h2]
theorem fb_mulL {x y : Int64} (h1 : -9223372036854775808 ≤ x.toInt * y.toInt) (h2 : x.toInt * y.toInt < 9223372036854775808) : (x * y).toInt = x.toInt * y.toInt := by
  rw [Int64.toInt_mul, fb_bmodL h1 h2]
theorem sqA (x : Int32) (h : x.toInt.natAbs ≤ 8000) : x.toInt * x.toInt = ((x.toInt.natAbs * x.toInt.natAbs : Nat) : Int) ∧ x.toInt.natAbs * x.toInt.natAbs ≤ 64000000 := by
  refine ⟨(Int.natAbs_mul_self' x.toInt).symm ▸ rfl, ?_⟩
  calc x.toInt.natAbs * x.toInt.natAbs ≤ 8000 * 8000 := Nat.mul_le_mul h h
    _ = 64000000 := rfl
theorem sq64 {dx dy : Int32} (hx : dx.toInt.natAbs ≤ 8000) (hy : dy.toInt.natAbs ≤ 8000) : (256 : Int64) * (dx.toInt64 * dx.toInt64 + dy.toInt64 * dy.toInt64) = lN (nsq dx dy) ∧ nsq dx dy ≤ 32768000000 := by
  obtain ⟨a1, a2⟩ := sqA dx hx
  obtain ⟨b1, b2⟩ := sqA dy hy
  have e1 : (dx.toInt64 * dx.toInt64).toInt = ((dx.toInt.natAbs * dx.toInt.natAbs : Nat) : Int) := by
    rw [fb_mulL] <;> rw [Int32.toInt_toInt64, a1] <;> omega
  have e2 : (dy.toInt64 * dy.toInt64).toInt = ((dy.toInt.natAbs * dy.toInt.natAbs : Nat) : Int) := by
    rw [fb_mulL] <;> rw [Int32.toInt_toInt64, b1] <;> omega
  have e3 : (dx.toInt64 * dx.toInt64 + dy.toInt64 * dy.toInt64).toInt = ((dx.toInt.natAbs * dx.toInt.natAbs + dy.toInt.natAbs * dy.toInt.natAbs : Nat) : Int) := by
    rw [fb_addL] <;> rw [e1, e2] <;> omega
  have hb : nsq dx dy ≤ 32768000000 := by unfold nsq; omega
  refine ⟨?_, hb⟩
  apply Int64.toInt_inj.mp
  rw [pk_lT (by omega), fb_mulL] <;> rw [e3, show (256 : Int64).toInt = 256 from rfl] <;> first | omega | (unfold nsq; omega)
theorem shl1 (b : Nat) (h : b < 18) : (1 : Int64) <<< ((nI b).toInt64 &&& 63) = lN (2 ^ b) := by
  have : ∀ b : Fin 18, (1 : Int64) <<< ((nI b.val).toInt64 &&& 63) = lN (2 ^ b.val) := by decide +kernel
  exact this ⟨b, h⟩
theorem zneg {z : Int32} {b : Nat} (hz : z = nI b + (-1)) (hb : b < 2 ^ 31) : z < 0 ↔ b = 0 := by
  subst hz
  cases b with
  | zero => exact ⟨fun _ => rfl, fun _ => by decide⟩
  | succ j =>
    rw [pk_m1]
    exact ⟨fun q => absurd q (nI_pos (by omega)), fun q => absurd q (by omega)⟩
theorem i64z {x : Int32} (h : x.toInt64 = 0) : x = 0 := by
  apply Int32.toInt_inj.mp
  have := congrArg Int64.toInt h
  rw [Int32.toInt_toInt64] at this
  rw [this]
  rfl
theorem i64z0 {x : Int32} (h : x = 0) : x.toInt64 = 0 := by rw [h]; rfl
