theorem law_16 {g : gX} {b L : Nat} {xs : Nat → Int32} {Qf : List Frame → Array Value → State → State → Prop} (hL : L ≤ 3584) (hfin : ∀ V lv, YY g (jLw g b L xs) Qf V 1342 lv [.int 1]) {V : vM} (hR : RR V) : YY g (jLw g b L xs) Qf V 16 [(2, .ref (g.2.1 49)), (1, .ref (g.2.1 0)), (0, .ref b)] [] := by
  refine x_iconst (v := 0) dL_law_16 (by decide) ?_
  refine x_istore_n 3 [(3, .int 0), (2, .ref (g.2.1 49)), (1, .ref (g.2.1 0)), (0, .ref b)] dL_law_17 rfl (show 3 < 4 by decide) rfl ?_
  refine x_lv [0, 3, 2, 1] rfl ?_
  exact law_loop hL hfin (L + 8) 0 V (by omega) (by omega) hR
/-- the state behind the constructors -/
def V0 : vM := fun a i => if a = 0 ∧ i = 11 then 4 else if (a = 32 ∨ a = 55) ∧ i < 26 then 160 else if a = 37 ∧ i = 1 then -1 else if a = 50 ∧ i = 169 then 4 else 0
theorem V0_z {a i : Nat} (h1 : a ≠ 0) (h2 : a ≠ 32) (h3 : a ≠ 55) (h4 : a ≠ 37) (h5 : a ≠ 50) : V0 a i = 0 := by
  unfold V0
  rw [if_neg (by omega), if_neg (by omega), if_neg (by omega), if_neg (by omega)]
theorem nzK_0 {K : Nat → Int32} (h : ∀ i, K i = 0) : ∀ n, nzK K n = 0
  | 0 => rfl
  | n + 1 => by unfold nzK; rw [nzK_0 h n, if_pos (h n)]
theorem RR_V0 : RR V0 := by
  have hWF : WF (V0 50) 0 := ⟨by decide, fun i hi => absurd hi (Nat.not_lt_zero _)⟩
  refine ⟨⟨V0 50, 0, 4, ⟨⟨V0_z (by decide) (by decide) (by decide) (by decide) (by decide), V0_z (by decide) (by decide) (by decide) (by decide) (by decide), hWF, fun i hi => absurd hi (Nat.not_lt_zero _)⟩, rfl, fun _ => ?_⟩, ⟨hWF, rfl, rfl, rfl⟩, by decide, by decide⟩, ⟨0, by decide, rfl, rfl, fun j hj => absurd hj (Nat.not_lt_zero _)⟩, ⟨0, 0, fun _ => 0, ⟨rfl, by decide, rfl, by decide, fun i hi => absurd hi (Nat.not_lt_zero _), fun i hi => absurd hi (Nat.not_lt_zero _)⟩, ⟨rfl, by decide, rfl, by decide, fun i hi => absurd hi (Nat.not_lt_zero _), fun i hi => absurd hi (Nat.not_lt_zero _)⟩⟩, ?_, ⟨Or.inl ⟨rfl, rfl⟩, Or.inl ⟨rfl, rfl⟩⟩⟩
  · refine ⟨rfl, rfl, fun i hi => absurd hi (Nat.not_lt_zero _), fun j hj => ?_, fun j hj => absurd hj (Nat.not_lt_zero _)⟩
    have : j = 0 := by
      have h2 : j ≤ 0 := hj
      omega
    subst this
    rfl
  · have h33 : ∀ i, V0 33 i = 0 := fun i => V0_z (by decide) (by decide) (by decide) (by decide) (by decide)
    have hw : ∀ l, l < 26 → V0 55 l = 160 ∧ V0 32 l = 160 := fun l hl => by
      unfold V0
      constructor
      · rw [if_neg (by omega), if_pos (by omega)]
      · rw [if_neg (by omega), if_pos (by omega)]
    refine ⟨⟨0, by decide, rfl, rfl, fun j hj => absurd hj (Nat.not_lt_zero _)⟩, ⟨rfl, rfl, rfl, by decide, by decide⟩, fun l hl => ?_, fun p hp => ?_, ?_, ?_, ?_⟩
    · rw [(hw l hl).1, (hw l hl).2]; decide
    · rw [h33 p, V0_z (a := 56) (by decide) (by decide) (by decide) (by decide) (by decide)]; decide
    · rw [nzK_0 h33]; rfl
    · rw [nzK_0 h33]; rfl
    · rw [nzK_0 h33]; decide
