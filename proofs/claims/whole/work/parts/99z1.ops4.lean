theorem fin_ap {V U W : vM} {m : Nat → Int32} {N : Nat} {t : Int32} {kd ax ay bx by_ x y x0 x1 x2 x3 x4 x5 : Int32} (hC : CS V m N t) (hM : MS V m N t) (ht : 1 ≤ t ∧ t ≤ 1000) (hO : RO V) (eU : U = if ¬ inR6 ax ay bx by_ x y then V else if ¬ kd = 0 ∧ ¬ opn V N then V else if N = 24 then V else uM (ad V 1 12 13 N kd x0 x1 x2 x3 x4 x5) 0 12 1) (eW : W = mapV U N kd ax ay bx by_ x y) (hk : 0 ≤ kd ∧ kd ≤ 4)
    (hz : (kd = 0 ∨ kd = 1 ∨ kd = 4 → ax = 0 ∧ ay = 0) ∧ (kd = 0 ∨ kd = 1 ∨ kd = 2 ∨ kd = 4 → bx = 0 ∧ by_ = 0) ∧ (kd = 4 → x = 0 ∧ y = 0))
    (hx : (kd = 0 ∨ kd = 1 → x0 = x ∧ x1 = y) ∧ (kd = 2 → x0 = ax ∧ x1 = ay ∧ x2 = x ∧ x3 = y) ∧ (kd = 3 → x0 = ax ∧ x1 = ay ∧ x2 = bx ∧ x3 = by_ ∧ x4 = x ∧ x5 = y) ∧ (kd = 4 → 0 < N → x0 = m (mv7 m (N - 1) * 7 + 5) ∧ x1 = m (mv7 m (N - 1) * 7 + 6))) : RR W ∧ (if ¬ inR6 ax ay bx by_ x y then -1000002 else if ¬ kd = 0 ∧ ¬ opn V N then -1000005 else if N = 24 then -1000004 else nI (N + 1)) = mapZ U N kd ax ay bx by_ x y := by
  have hRR : RR V := ⟨⟨m, N, t, hC, hM, ht⟩, hO⟩
  have hw := hM.1
  have u50 : ∀ j, U 50 j = m j := by
    intro j
    rw [← hM.2.1, eU]
    split
    · rfl
    · split
      · rfl
      · split
        · rfl
        · rw [uM_na (by decide), ad_at (by decide) (by decide) (by decide)]
  have hop : (0 < N ∧ ¬ U 50 ((N - 1) * 7) = 4) ↔ opn V N := by
    unfold opn
    constructor
    · rintro ⟨a, b⟩
      exact ⟨a, by rw [(hC.1.2.2.2 (N - 1) (by omega)).1, ← u50]; exact b⟩
    · rintro ⟨a, b⟩
      exact ⟨a, by rw [u50, ← (hC.1.2.2.2 (N - 1) (by omega)).1]; exact b⟩
  unfold mapV at eW
  unfold mapZ
  by_cases q1 : inR6 ax ay bx by_ x y
  · have n1 : ¬ ¬ inR6 ax ay bx by_ x y := fun z => z q1
    rw [if_neg n1] at eU eW
    rw [if_neg n1, if_neg n1]
    by_cases q2 : ¬ kd = 0 ∧ ¬ opn V N
    · have q3 : ¬ kd = 0 ∧ ¬ (0 < N ∧ ¬ U 50 ((N - 1) * 7) = 4) := ⟨q2.1, fun z => q2.2 (hop.mp z)⟩
      rw [if_pos q2] at eU
      rw [if_pos q3] at eW
      rw [if_pos q2, if_pos q3, eW, eU]
      exact ⟨hRR, rfl⟩
    · have q3 : ¬ (¬ kd = 0 ∧ ¬ (0 < N ∧ ¬ U 50 ((N - 1) * 7) = 4)) := fun z => q2 ⟨z.1, fun y => z.2 (hop.mpr y)⟩
      rw [if_neg q2] at eU
      rw [if_neg q3] at eW
      rw [if_neg q2, if_neg q3]
      refine ⟨?_, rfl⟩
      by_cases q4 : N = 24
      · rw [if_pos q4] at eU eW
        rw [eW, eU]; exact hRR
      · rw [if_neg q4] at eU eW
        have hN := hw.1
        have hopn : kd = 0 ∨ (0 < N ∧ ¬ m ((N - 1) * 7) = 4) := by
          by_cases z : kd = 0
          · exact Or.inl z
          · have := Classical.not_not.mp (fun y => q2 ⟨z, y⟩)
            have g := hop.mpr this
            rw [u50] at g
            exact Or.inr g
        refine fin_app hC hM ht hO (by omega) eU eW hk hopn q1 hz ⟨hx.1, hx.2.1, hx.2.2.1, fun k4 => hx.2.2.2 k4 ?_⟩
        exact (hopn.resolve_left (fun z => by rw [z] at k4; exact absurd k4 (by decide))).1
  · rw [if_pos q1] at eU eW
    rw [if_pos q1, if_pos q1, eW, eU]
    exact ⟨hRR, rfl⟩
section
variable {V U W : vM} {m : Nat → Int32} {N : Nat} {t : Int32}
theorem i0z : -4000 ≤ (0 : Int32) ∧ (0 : Int32) ≤ 4000 := by decide
theorem fin_move (hC : CS V m N t) (hM : MS V m N t) (ht : 1 ≤ t ∧ t ≤ 1000) (hO : RO V) (x y : Int32) (eU : U = if (-4000 ≤ x ∧ x ≤ 4000) ∧ (-4000 ≤ y ∧ y ≤ 4000) then apV V N 0 x y 0 0 0 0 else V) (eW : W = mapV U N 0 0 0 0 0 x y) : RR W ∧ (if (-4000 ≤ x ∧ x ≤ 4000) ∧ (-4000 ≤ y ∧ y ≤ 4000) then apZ N else -1000002) = mapZ U N 0 0 0 0 0 x y := by
  have e0 : ¬ (¬ (0 : Int32) = 0 ∧ ¬ opn V N) := fun z => z.1 rfl
  have key := fin_ap (kd := 0) (ax := 0) (ay := 0) (bx := 0) (by_ := 0) (x := x) (y := y) (x0 := x) (x1 := y) (x2 := 0) (x3 := 0) (x4 := 0) (x5 := 0) hC hM ht hO (U := U) (by
    rw [eU]; unfold apV
    by_cases q : (-4000 ≤ x ∧ x ≤ 4000) ∧ (-4000 ≤ y ∧ y ≤ 4000)
    · rw [if_pos q, if_neg (show ¬ ¬ inR6 0 0 0 0 x y from fun z => z ⟨i0z, i0z, i0z, i0z, q.1, q.2⟩), if_neg e0]
    · rw [if_neg q, if_pos (show ¬ inR6 0 0 0 0 x y from fun z => q ⟨z.2.2.2.2.1, z.2.2.2.2.2⟩)]) eW (by decide) ⟨fun _ => ⟨rfl, rfl⟩, fun _ => ⟨rfl, rfl⟩, fun z => absurd z (by decide)⟩ ⟨fun _ => ⟨rfl, rfl⟩, fun z => absurd z (by decide), fun z => absurd z (by decide), fun z => absurd z (by decide)⟩
  refine ⟨key.1, ?_⟩
  rw [← key.2]; unfold apZ
  by_cases q : (-4000 ≤ x ∧ x ≤ 4000) ∧ (-4000 ≤ y ∧ y ≤ 4000)
  · rw [if_pos q, if_neg (show ¬ ¬ inR6 0 0 0 0 x y from fun z => z ⟨i0z, i0z, i0z, i0z, q.1, q.2⟩), if_neg e0]
  · rw [if_neg q, if_pos (show ¬ inR6 0 0 0 0 x y from fun z => q ⟨z.2.2.2.2.1, z.2.2.2.2.2⟩)]
theorem goV_e {kd x0 x1 x2 x3 x4 x5 : Int32} (hk : ¬ kd = 0) : goV V N kd x0 x1 x2 x3 x4 x5 = (if ¬ kd = 0 ∧ ¬ opn V N then V else if N = 24 then V else uM (ad V 1 12 13 N kd x0 x1 x2 x3 x4 x5) 0 12 1) ∧ goZ V N = (if ¬ kd = 0 ∧ ¬ opn V N then -1000005 else if N = 24 then (-1000004 : Int32) else nI (N + 1)) := by
  unfold goV goZ apV apZ
  by_cases q : opn V N
  · have n1 : ¬ ¬ opn V N := fun z => z q
    have n2 : ¬ (¬ kd = 0 ∧ ¬ opn V N) := fun z => z.2 q
    rw [if_neg n1, if_neg n1, if_neg n2, if_neg n2]
    exact ⟨rfl, rfl⟩
  · have n2 : ¬ kd = 0 ∧ ¬ opn V N := ⟨hk, q⟩
    rw [if_pos q, if_pos q, if_pos n2, if_pos n2]
    exact ⟨rfl, rfl⟩
theorem fin_line (hC : CS V m N t) (hM : MS V m N t) (ht : 1 ≤ t ∧ t ≤ 1000) (hO : RO V) (x y : Int32) (eU : U = if (-4000 ≤ x ∧ x ≤ 4000) ∧ (-4000 ≤ y ∧ y ≤ 4000) then goV V N 1 x y 0 0 0 0 else V) (eW : W = mapV U N 1 0 0 0 0 x y) : RR W ∧ (if (-4000 ≤ x ∧ x ≤ 4000) ∧ (-4000 ≤ y ∧ y ≤ 4000) then goZ V N else -1000002) = mapZ U N 1 0 0 0 0 x y := by
  have hg := goV_e (V := V) (N := N) (kd := 1) (x0 := x) (x1 := y) (x2 := 0) (x3 := 0) (x4 := 0) (x5 := 0) (by decide)
  rw [hg.1] at eU
  rw [hg.2]
  have key := fin_ap (kd := 1) (ax := 0) (ay := 0) (bx := 0) (by_ := 0) (x := x) (y := y) (x0 := x) (x1 := y) (x2 := 0) (x3 := 0) (x4 := 0) (x5 := 0) hC hM ht hO (U := U) (by
    rw [eU]
    by_cases q : (-4000 ≤ x ∧ x ≤ 4000) ∧ (-4000 ≤ y ∧ y ≤ 4000)
    · rw [if_pos q, if_neg (show ¬ ¬ inR6 0 0 0 0 x y from fun z => z ⟨i0z, i0z, i0z, i0z, q.1, q.2⟩)]
    · rw [if_neg q, if_pos (show ¬ inR6 0 0 0 0 x y from fun z => q ⟨z.2.2.2.2.1, z.2.2.2.2.2⟩)]) eW (by decide) ⟨fun _ => ⟨rfl, rfl⟩, fun _ => ⟨rfl, rfl⟩, fun z => absurd z (by decide)⟩ ⟨fun _ => ⟨rfl, rfl⟩, fun z => absurd z (by decide), fun z => absurd z (by decide), fun z => absurd z (by decide)⟩
  refine ⟨key.1, ?_⟩
  rw [← key.2]
  by_cases q : (-4000 ≤ x ∧ x ≤ 4000) ∧ (-4000 ≤ y ∧ y ≤ 4000)
  · rw [if_pos q, if_neg (show ¬ ¬ inR6 0 0 0 0 x y from fun z => z ⟨i0z, i0z, i0z, i0z, q.1, q.2⟩)]
  · rw [if_neg q, if_pos (show ¬ inR6 0 0 0 0 x y from fun z => q ⟨z.2.2.2.2.1, z.2.2.2.2.2⟩)]
theorem fin_quad (hC : CS V m N t) (hM : MS V m N t) (ht : 1 ≤ t ∧ t ≤ 1000) (hO : RO V) (cx cy x y : Int32) (eU : U = if (-4000 ≤ cx ∧ cx ≤ 4000) ∧ (-4000 ≤ cy ∧ cy ≤ 4000) ∧ (-4000 ≤ x ∧ x ≤ 4000) ∧ (-4000 ≤ y ∧ y ≤ 4000) then goV V N 2 cx cy x y 0 0 else V) (eW : W = mapV U N 2 cx cy 0 0 x y) : RR W ∧ (if (-4000 ≤ cx ∧ cx ≤ 4000) ∧ (-4000 ≤ cy ∧ cy ≤ 4000) ∧ (-4000 ≤ x ∧ x ≤ 4000) ∧ (-4000 ≤ y ∧ y ≤ 4000) then goZ V N else -1000002) = mapZ U N 2 cx cy 0 0 x y := by
  have hg := goV_e (V := V) (N := N) (kd := 2) (x0 := cx) (x1 := cy) (x2 := x) (x3 := y) (x4 := 0) (x5 := 0) (by decide)
  rw [hg.1] at eU
  rw [hg.2]
  have key := fin_ap (kd := 2) (ax := cx) (ay := cy) (bx := 0) (by_ := 0) (x := x) (y := y) (x0 := cx) (x1 := cy) (x2 := x) (x3 := y) (x4 := 0) (x5 := 0) hC hM ht hO (U := U) (by
    rw [eU]
    by_cases q : (-4000 ≤ cx ∧ cx ≤ 4000) ∧ (-4000 ≤ cy ∧ cy ≤ 4000) ∧ (-4000 ≤ x ∧ x ≤ 4000) ∧ (-4000 ≤ y ∧ y ≤ 4000)
    · rw [if_pos q, if_neg (show ¬ ¬ inR6 cx cy 0 0 x y from fun z => z ⟨q.1, q.2.1, i0z, i0z, q.2.2.1, q.2.2.2⟩)]
    · rw [if_neg q, if_pos (show ¬ inR6 cx cy 0 0 x y from fun z => q ⟨z.1, z.2.1, z.2.2.2.2.1, z.2.2.2.2.2⟩)]) eW (by decide) ⟨fun z => absurd z (by decide), fun _ => ⟨rfl, rfl⟩, fun z => absurd z (by decide)⟩ ⟨fun z => absurd z (by decide), fun _ => ⟨rfl, rfl, rfl, rfl⟩, fun z => absurd z (by decide), fun z => absurd z (by decide)⟩
  refine ⟨key.1, ?_⟩
  rw [← key.2]
  by_cases q : (-4000 ≤ cx ∧ cx ≤ 4000) ∧ (-4000 ≤ cy ∧ cy ≤ 4000) ∧ (-4000 ≤ x ∧ x ≤ 4000) ∧ (-4000 ≤ y ∧ y ≤ 4000)
  · rw [if_pos q, if_neg (show ¬ ¬ inR6 cx cy 0 0 x y from fun z => z ⟨q.1, q.2.1, i0z, i0z, q.2.2.1, q.2.2.2⟩)]
  · rw [if_neg q, if_pos (show ¬ inR6 cx cy 0 0 x y from fun z => q ⟨z.1, z.2.1, z.2.2.2.2.1, z.2.2.2.2.2⟩)]
theorem fin_cubic (hC : CS V m N t) (hM : MS V m N t) (ht : 1 ≤ t ∧ t ≤ 1000) (hO : RO V) (ax ay bx by_ x y : Int32) (eU : U = if inR6 ax ay bx by_ x y then goV V N 3 ax ay bx by_ x y else V) (eW : W = mapV U N 3 ax ay bx by_ x y) : RR W ∧ (if inR6 ax ay bx by_ x y then goZ V N else -1000002) = mapZ U N 3 ax ay bx by_ x y := by
  have hg := goV_e (V := V) (N := N) (kd := 3) (x0 := ax) (x1 := ay) (x2 := bx) (x3 := by_) (x4 := x) (x5 := y) (by decide)
  rw [hg.1] at eU
  rw [hg.2]
  have key := fin_ap (kd := 3) (ax := ax) (ay := ay) (bx := bx) (by_ := by_) (x := x) (y := y) (x0 := ax) (x1 := ay) (x2 := bx) (x3 := by_) (x4 := x) (x5 := y) hC hM ht hO (U := U) (by
    rw [eU]
    by_cases q : inR6 ax ay bx by_ x y
    · rw [if_pos q, if_neg (show ¬ ¬ inR6 ax ay bx by_ x y from fun z => z q)]
    · rw [if_neg q, if_pos q]) eW (by decide) ⟨fun z => absurd z (by decide), fun z => absurd z (by decide), fun z => absurd z (by decide)⟩ ⟨fun z => absurd z (by decide), fun z => absurd z (by decide), fun _ => ⟨rfl, rfl, rfl, rfl, rfl, rfl⟩, fun z => absurd z (by decide)⟩
  refine ⟨key.1, ?_⟩
  rw [← key.2]
  by_cases q : inR6 ax ay bx by_ x y
  · rw [if_pos q, if_neg (show ¬ ¬ inR6 ax ay bx by_ x y from fun z => z q)]
  · rw [if_neg q, if_pos q]
theorem fin_close (hC : CS V m N t) (hM : MS V m N t) (ht : 1 ≤ t ∧ t ≤ 1000) (hO : RO V) (eU : U = goV V N 4 (nbV V 1 13 (clS V N) (2 * ptV V 1 12 (clS V N) - 2)) (nbV V 1 13 (clS V N) (2 * ptV V 1 12 (clS V N) - 1)) 0 0 0 0) (eW : W = mapV U N 4 0 0 0 0 0 0) : RR W ∧ goZ V N = mapZ U N 4 0 0 0 0 0 0 := by
  obtain ⟨x0, e0⟩ : ∃ z, z = nbV V 1 13 (clS V N) (2 * ptV V 1 12 (clS V N) - 2) := ⟨_, rfl⟩
  obtain ⟨x1, e1⟩ : ∃ z, z = nbV V 1 13 (clS V N) (2 * ptV V 1 12 (clS V N) - 1) := ⟨_, rfl⟩
  rw [← e0, ← e1] at eU
  have hg := goV_e (V := V) (N := N) (kd := 4) (x0 := x0) (x1 := x1) (x2 := 0) (x3 := 0) (x4 := 0) (x5 := 0) (by decide)
  rw [hg.1] at eU
  rw [hg.2]
  have q : ¬ ¬ inR6 0 0 0 0 0 0 := fun z => z ⟨i0z, i0z, i0z, i0z, i0z, i0z⟩
  have key := fin_ap (kd := 4) (ax := 0) (ay := 0) (bx := 0) (by_ := 0) (x := 0) (y := 0) (x0 := x0) (x1 := x1) (x2 := 0) (x3 := 0) (x4 := 0) (x5 := 0) hC hM ht hO (U := U) (by rw [eU, if_neg q]) eW (by decide) ⟨fun _ => ⟨rfl, rfl⟩, fun _ => ⟨rfl, rfl⟩, fun _ => ⟨rfl, rfl⟩⟩ ⟨fun z => absurd z (by decide), fun z => absurd z (by decide), fun z => absurd z (by decide), fun _ h0 => by rw [e0, e1]; exact clo_ends hC.1 h0⟩
  refine ⟨key.1, ?_⟩
  rw [← key.2, if_neg q]
end
