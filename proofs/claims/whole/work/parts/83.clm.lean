/-! the signs of a command: the letter, then the numbers in their order -/
def ltr (x : Int32) : Int32 := if x = 0 then 77 else if x = 1 then 76 else if x = 2 then 81 else if x = 3 then 67 else 90
theorem clM_jp {m : Nat → Int32} {k : Nat} (h : 0 ≤ m (k * 7) ∧ m (k * 7) ≤ 4) : clM m k = [ltr (m (k * 7))] ++ (if m (k * 7) = 4 then [] else jp (nbx m k) (2 * ptn (m (k * 7)))) := by
  obtain ⟨v0, v1, v2, v3, v4⟩ := clM_v (m := m) (k := k)
  rcases k5 h with e | e | e | e | e
  · have n0 : nbx m k 0 = m (7 * k + 5) := by rw [nbx_u, if_pos (Or.inl e), Nat.mul_comm 7 k]
    have n1 : nbx m k 1 = m (7 * k + 5 + 1) := by rw [nbx_u, if_pos (Or.inl e), Nat.mul_comm 7 k]
    rw [v0 e, e]
    simp [ltr, ptn, jp, prL, n0, n1]
  · have n0 : nbx m k 0 = m (7 * k + 5) := by rw [nbx_u, if_pos (Or.inr e), Nat.mul_comm 7 k]
    have n1 : nbx m k 1 = m (7 * k + 5 + 1) := by rw [nbx_u, if_pos (Or.inr e), Nat.mul_comm 7 k]
    rw [v1 e, e]
    simp [ltr, ptn, jp, prL, n0, n1]
  · have ne : ¬ (m (k * 7) = 0 ∨ m (k * 7) = 1) := by rw [e]; rintro (q | q) <;> exact absurd q (by decide)
    have n0 : nbx m k 0 = m (7 * k + 1) := by rw [nbx_u, if_neg ne, if_pos e, if_pos (by omega), Nat.mul_comm 7 k]
    have n1 : nbx m k 1 = m (7 * k + 1 + 1) := by rw [nbx_u, if_neg ne, if_pos e, if_pos (by omega), Nat.mul_comm 7 k]
    have n2 : nbx m k 2 = m (7 * k + 5) := by rw [nbx_u, if_neg ne, if_pos e, if_neg (by omega), Nat.mul_comm 7 k]
    have n3 : nbx m k 3 = m (7 * k + 5 + 1) := by rw [nbx_u, if_neg ne, if_pos e, if_neg (by omega), Nat.mul_comm 7 k]
    rw [v2 e, e]
    simp [ltr, ptn, jp, prL, n0, n1, n2, n3]
  · have ne : ¬ (m (k * 7) = 0 ∨ m (k * 7) = 1) := by rw [e]; rintro (q | q) <;> exact absurd q (by decide)
    have ne2 : ¬ m (k * 7) = 2 := by rw [e]; decide
    have nn : ∀ j, nbx m k j = m (7 * k + 1 + j) := fun j => by rw [nbx_u, if_neg ne, if_neg ne2, Nat.mul_comm 7 k]
    rw [v3 e, e]
    simp [ltr, ptn, jp, prL, nn]
  · rw [v4 e, e]
    simp [ltr]
