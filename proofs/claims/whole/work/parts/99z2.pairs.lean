def DK (g : gX) (Jc Jm : MD) (V : vM) (as : List Value) : Prop := ∃ Q, MM g Jc V (.ref (g.2.1 0) :: as) Q ∧ ∀ r U, Q r U → ∃ z, r = some (.int z) ∧ ∃ Q2, MM g Jm U (.ref (g.2.1 49) :: as) Q2 ∧ ∀ r2 W, Q2 r2 W → r2 = some (.int z) ∧ RR W
def DKL (g : gX) (Jc Jm : MD) (V : vM) (as : List Value) : Prop := ∃ Q, MM g Jc V (.ref (g.2.1 0) :: as) Q ∧ ∀ r U, Q r U → ∃ z, r = some (.long z) ∧ ∃ Q2, MM g Jm U (.ref (g.2.1 49) :: as) Q2 ∧ ∀ r2 W, Q2 r2 W → r2 = some (.long z) ∧ RR W
theorem frP.r {V U : vM} (h : frP V U) {a i : Nat} (q : 49 ≤ a) : U a i = V a i := h a i ⟨by omega, by omega, by omega, by omega, by omega, by omega, by omega, by omega, by omega, by omega, by omega, by omega, by omega, by omega⟩ (by omega) (by omega) (by omega)
theorem frK.r {V U : vM} (h : frK V U) {a i : Nat} (q : 49 ≤ a) : U a i = V a i := h.P.r q
section
variable {g : gX} {V : vM}
theorem pr_command (h : RR V) (c w : Int32) : DK g jX9_command jX10_command V [.int c, .int w] := by
  obtain ⟨⟨m, N, t, hC, hM, ht⟩, hO⟩ := h
  obtain ⟨S, fb, hCQ⟩ := CQ_of hC
  refine ⟨_, mX9_command hCQ c w, ?_⟩
  rintro r U ⟨z, rfl, ez, hq, hf⟩
  refine ⟨z, rfl, _, mX10_command (MZ_of (hM.P hf.K.P) hq) c w, ?_⟩
  rintro r2 W ⟨z2, rfl, ez2, hm, hf2⟩
  exact ⟨by rw [ez2, ez], RR.fin hO hq.1 hf.K.P hm.S hf2.N.NP ht⟩
theorem pr_measure (h : RR V) (c w : Int32) : DK g jX9_measure jX10_measure V [.int c, .int w] := by
  obtain ⟨⟨m, N, t, hC, hM, ht⟩, hO⟩ := h
  obtain ⟨S, fb, hCQ⟩ := CQ_of hC
  refine ⟨_, mX9_measure hCQ c w, ?_⟩
  rintro r U ⟨z, rfl, ez, hq, hf⟩
  refine ⟨z, rfl, _, mX10_measure (MZ_of (hM.P hf.K.P) hq) c w, ?_⟩
  rintro r2 W ⟨z2, rfl, ez2, hm, hf2⟩
  exact ⟨by rw [ez2, ez], RR.fin hO hq.1 hf.K.P hm.S hf2.N.NP ht⟩
theorem pr_vertex (h : RR V) (c v w : Int32) : DK g jX9_vertex jX10_vertex V [.int c, .int v, .int w] := by
  obtain ⟨⟨m, N, t, hC, hM, ht⟩, hO⟩ := h
  obtain ⟨S, fb, hCQ⟩ := CQ_of hC
  refine ⟨_, mX9_vertex hCQ c v w, ?_⟩
  rintro r U ⟨z, rfl, ez, hq, hf⟩
  refine ⟨z, rfl, _, mX10_vertex (MZ_of (hM.P hf.K.P) hq) c v w, ?_⟩
  rintro r2 W ⟨z2, rfl, ez2, hm, hf2⟩
  exact ⟨by rw [ez2, ez], RR.fin hO hq.1 hf.K.P hm.S hf2.N.NP ht⟩
theorem pr_at (h : RR V) (c d w : Int32) : DK g jX9_at jX10_at V [.int c, .int d, .int w] := by
  obtain ⟨⟨m, N, t, hC, hM, ht⟩, hO⟩ := h
  obtain ⟨S, fb, hCQ⟩ := CQ_of hC
  refine ⟨_, mX9_at hCQ c d w, ?_⟩
  rintro r U ⟨z, rfl, ez, hq, hf⟩
  refine ⟨z, rfl, _, mX10_at (MZ_of (hM.P hf.K.P) hq) c d w, ?_⟩
  rintro r2 W ⟨z2, rfl, ez2, hm, hf2⟩
  exact ⟨by rw [ez2, ez], RR.fin hO hq.1 hf.K.P hm.S hf2.N.NP ht⟩
theorem pr_nearest (h : RR V) (x y w : Int32) : DK g jX9_nearest jX10_nearest V [.int x, .int y, .int w] := by
  obtain ⟨⟨m, N, t, hC, hM, ht⟩, hO⟩ := h
  obtain ⟨S, fb, hCQ⟩ := CQ_of hC
  refine ⟨_, mX9_nearest hCQ x y w, ?_⟩
  rintro r U ⟨z, rfl, ez, hq, hf⟩
  refine ⟨z, rfl, _, mX10_nearest (MZ_of (hM.P hf.K.P) hq) x y w, ?_⟩
  rintro r2 W ⟨z2, rfl, ez2, hm, hf2⟩
  exact ⟨by rw [ez2, ez], RR.fin hO hq.1 hf.K.P hm.S hf2.N.NP ht⟩
theorem pr_winding (h : RR V) (x y : Int32) : DK g jX9_winding jX10_winding V [.int x, .int y] := by
  obtain ⟨⟨m, N, t, hC, hM, ht⟩, hO⟩ := h
  obtain ⟨S, fb, hCQ⟩ := CQ_of hC
  refine ⟨_, mX9_winding hCQ x y, ?_⟩
  rintro r U ⟨z, rfl, ez, hq, hf⟩
  refine ⟨z, rfl, _, mX10_winding (MZ_of (hM.P hf.K.P) hq) x y, ?_⟩
  rintro r2 W ⟨z2, rfl, ez2, hm, hf2⟩
  exact ⟨by rw [ez2, ez], RR.fin hO hq.1 hf.K.P hm.S hf2.N.NP ht⟩
theorem pr_area (h : RR V) (c : Int32) : DKL g jX9_area jX10_area V [.int c] := by
  obtain ⟨⟨m, N, t, hC, hM, ht⟩, hO⟩ := h
  obtain ⟨S, fb, hCQ⟩ := CQ_of hC
  refine ⟨_, mX9_area hCQ c, ?_⟩
  rintro r U ⟨z, rfl, ez, hq, hf⟩
  refine ⟨z, rfl, _, mX10_area (MZ_of (hM.P hf.K.P) hq) c, ?_⟩
  rintro r2 W ⟨z2, rfl, ez2, hm, hf2⟩
  exact ⟨by rw [ez2, ez], RR.fin hO hq.1 hf.K.P hm.S hf2.N.NP ht⟩
theorem pr_bound (h : RR V) (c w : Int32) : DK g jX9_bound jX10_bound V [.int c, .int w] := by
  obtain ⟨⟨m, N, t, hC, hM, ht⟩, hO⟩ := h
  obtain ⟨S, fb, hCQ⟩ := CQ_of hC
  refine ⟨_, mX9_bound hCQ c w, ?_⟩
  rintro r U ⟨z, rfl, ez, hq, hf⟩
  refine ⟨z, rfl, _, mX10_bound (MZ_of (hM.P hf.K.P) hq) c w, ?_⟩
  rintro r2 W ⟨z2, rfl, ez2, hm, hf2⟩
  exact ⟨by rw [ez2, ez], RR.fin hO hq.1 hf.K.P hm.S hf2.N.NP ht⟩
theorem pr_simplified (h : RR V) (c l x : Int32) : DK g jX9_simplified jX10_simplified V [.int c, .int l, .int x] := by
  obtain ⟨⟨m, N, t, hC, hM, ht⟩, hO⟩ := h
  obtain ⟨S, fb, hCQ⟩ := CQ_of hC
  refine ⟨_, mX9_simplified hCQ c l x, ?_⟩
  rintro r U ⟨z, rfl, ez, hq, hf⟩
  refine ⟨z, rfl, _, mX10_simplified (MZ_of (hM.P hf.P) hq) c l x, ?_⟩
  rintro r2 W ⟨z2, rfl, ez2, hm, hf2⟩
  exact ⟨by rw [ez2, ez], RR.fin hO hq.1 hf.P hm.S hf2.NP ht⟩
theorem pr_dash (h : RR V) (c x w : Int32) : DK g jX9_dash jX10_dash V [.int c, .int x, .int w] := by
  obtain ⟨⟨m, N, t, hC, hM, ht⟩, hO⟩ := h
  obtain ⟨S, fb, hCQ⟩ := CQ_of hC
  obtain ⟨n, ph, d, hDc, hDm⟩ := hO.2.1
  refine ⟨_, mX9_dash hCQ n ph d hDc c x w, ?_⟩
  rintro r U ⟨z, rfl, ez, hq, hf⟩
  refine ⟨z, rfl, _, mX10_dash (MZ_of (hM.P hf.P) hq) n ph d (hDm.ag2 (fun a i p => hf.r (by omega))) c x w, ?_⟩
  rintro r2 W ⟨z2, rfl, ez2, hm, hf2⟩
  exact ⟨by rw [ez2, ez], RR.fin hO hq.1 hf.P hm.S hf2.NP ht⟩
theorem pr_letter (h : RR V) (c x w : Int32) : DK g jX9_letter jX10_letter V [.int c, .int x, .int w] := by
  obtain ⟨⟨m, N, t, hC, hM, ht⟩, hO⟩ := h
  obtain ⟨S, fb, hCQ⟩ := CQ_of hC
  obtain ⟨n, Wd, T, o, md, hLc, hLm⟩ := RLt_L hO.2.2.1
  refine ⟨_, mX9_letter hCQ n Wd T o md hLc c x w, ?_⟩
  rintro r U ⟨z, rfl, ez, hq, hf⟩
  refine ⟨z, rfl, _, mX10_letter (MZ_of (hM.P hf.P) hq) n Wd T o md (hLm.ag2 (fun a i p => hf.r (by omega))) c x w, ?_⟩
  rintro r2 W ⟨z2, rfl, ez2, hm, hf2⟩
  exact ⟨by rw [ez2, ez], RR.fin hO hq.1 hf.P hm.S hf2.NP ht⟩
theorem pr_placed (h : RR V) (c w : Int32) : DK g jX9_placed jX10_placed V [.int c, .int w] := by
  obtain ⟨⟨m, N, t, hC, hM, ht⟩, hO⟩ := h
  obtain ⟨S, fb, hCQ⟩ := CQ_of hC
  obtain ⟨n, Wd, T, o, md, hLc, hLm⟩ := RLt_L hO.2.2.1
  refine ⟨_, mX9_placed hCQ n Wd T o md hLc c w, ?_⟩
  rintro r U ⟨z, rfl, ez, hq, hf⟩
  refine ⟨z, rfl, _, mX10_placed (MZ_of (hM.P hf.P) hq) n Wd T o md (hLm.ag2 (fun a i p => hf.r (by omega))) c w, ?_⟩
  rintro r2 W ⟨z2, rfl, ez2, hm, hf2⟩
  exact ⟨by rw [ez2, ez], RR.fin hO hq.1 hf.P hm.S hf2.NP ht⟩
theorem pr_reverse (h : RR V) (c : Int32) : DK g jX9_reverse jX10_reverse V [.int c] := by
  obtain ⟨⟨m, N, t, hC, hM, ht⟩, hO⟩ := h
  refine ⟨_, mX9_reverse hC c, ?_⟩
  rintro r U ⟨z, rfl, ez, hq, hf⟩
  refine ⟨z, rfl, _, mX10_reverse (hM.P hf) c, ?_⟩
  rintro r2 W ⟨z2, rfl, ez2, hm, hf2⟩
  exact ⟨by rw [ez2, ez], RR.fin hO hq hf hm hf2 ht⟩
theorem pr_transform (h : RR V) (a b c d e f : Int32) : DK g jX9_transform jX10_transform V [.int a, .int b, .int c, .int d, .int e, .int f] := by
  obtain ⟨⟨m, N, t, hC, hM, ht⟩, hO⟩ := h
  refine ⟨_, mX9_transform hC a b c d e f, ?_⟩
  rintro r U ⟨z, rfl, ez, hq, hf⟩
  refine ⟨z, rfl, _, mX10_transform (hM.P hf) a b c d e f, ?_⟩
  rintro r2 W ⟨z2, rfl, ez2, hm, hf2⟩
  exact ⟨by rw [ez2, ez], RR.fin hO hq hf hm hf2 ht⟩
theorem apV50 {N : Nat} {kd x0 x1 x2 x3 x4 x5 : Int32} {i : Nat} : apV V N kd x0 x1 x2 x3 x4 x5 50 i = V 50 i := by
  unfold apV
  split
  · rfl
  · rw [uM_na (by decide), ad_at (by decide) (by decide) (by decide)]
theorem goV50 {N : Nat} {kd x0 x1 x2 x3 x4 x5 : Int32} {i : Nat} : goV V N kd x0 x1 x2 x3 x4 x5 50 i = V 50 i := by
  unfold goV
  split
  · rfl
  · exact apV50
theorem pr_move (h : RR V) (x y : Int32) : DK g jX9_move jX10_move V [.int x, .int y] := by
  obtain ⟨⟨m, N, t, hC, hM, ht⟩, hO⟩ := h
  have hw := hM.1
  have hN := hw.1
  refine ⟨_, mX9_move V hN hC.1.1 x y, ?_⟩
  rintro r U ⟨eU, rfl⟩
  have u168 : U 50 168 = nI N := by
    rw [← hM.2.2.1, ← hM.2.1, eU]
    split
    · exact apV50
    · rfl
  refine ⟨_, rfl, _, mX10_move U N hN u168 x y, ?_⟩
  rintro r2 W ⟨eW, rfl⟩
  obtain ⟨f1, f2⟩ := fin_move hC hM ht hO x y eU eW
  exact ⟨by rw [← f2], f1⟩
theorem pr_line (h : RR V) (x y : Int32) : DK g jX9_line jX10_line V [.int x, .int y] := by
  obtain ⟨⟨m, N, t, hC, hM, ht⟩, hO⟩ := h
  have hw := hM.1
  have hN := hw.1
  refine ⟨_, mX9_line V hN hC.1.1 x y, ?_⟩
  rintro r U ⟨eU, rfl⟩
  have u168 : U 50 168 = nI N := by
    rw [← hM.2.2.1, ← hM.2.1, eU]
    split
    · exact goV50
    · rfl
  refine ⟨_, rfl, _, mX10_line U N hN u168 x y, ?_⟩
  rintro r2 W ⟨eW, rfl⟩
  obtain ⟨f1, f2⟩ := fin_line hC hM ht hO x y eU eW
  exact ⟨by rw [← f2], f1⟩
theorem pr_quad (h : RR V) (cx cy x y : Int32) : DK g jX9_quad jX10_quad V [.int cx, .int cy, .int x, .int y] := by
  obtain ⟨⟨m, N, t, hC, hM, ht⟩, hO⟩ := h
  have hw := hM.1
  have hN := hw.1
  refine ⟨_, mX9_quad V hN hC.1.1 cx cy x y, ?_⟩
  rintro r U ⟨eU, rfl⟩
  have u168 : U 50 168 = nI N := by
    rw [← hM.2.2.1, ← hM.2.1, eU]
    split
    · exact goV50
    · rfl
  refine ⟨_, rfl, _, mX10_quad U N hN u168 cx cy x y, ?_⟩
  rintro r2 W ⟨eW, rfl⟩
  obtain ⟨f1, f2⟩ := fin_quad hC hM ht hO cx cy x y eU eW
  exact ⟨by rw [← f2], f1⟩
theorem pr_cubic (h : RR V) (ax ay bx by_ x y : Int32) : DK g jX9_cubic jX10_cubic V [.int ax, .int ay, .int bx, .int by_, .int x, .int y] := by
  obtain ⟨⟨m, N, t, hC, hM, ht⟩, hO⟩ := h
  have hw := hM.1
  have hN := hw.1
  refine ⟨_, mX9_cubic V hN hC.1.1 ax ay bx by_ x y, ?_⟩
  rintro r U ⟨eU, rfl⟩
  have u168 : U 50 168 = nI N := by
    rw [← hM.2.2.1, ← hM.2.1, eU]
    split
    · exact goV50
    · rfl
  refine ⟨_, rfl, _, mX10_cubic U N hN u168 ax ay bx by_ x y, ?_⟩
  rintro r2 W ⟨eW, rfl⟩
  obtain ⟨f1, f2⟩ := fin_cubic hC hM ht hO ax ay bx by_ x y eU eW
  exact ⟨by rw [← f2], f1⟩
theorem pr_say (h : RR V) (c : Int32) : DK g jX9_say jX10_say V [.int c] := by
  have h0 := h
  obtain ⟨⟨m, N, t, hC, hM, ht⟩, ⟨k, k1, k2, k3, k4⟩, ⟨dn, ph, d, hDc, hDm⟩, ⟨⟨ln, l1, l2, l3, l4⟩, lr⟩, hS⟩ := h
  refine ⟨_, mX9_say V c ⟨by rw [k2]; exact nI_pos' (by omega), by rw [k2]; exact (nI_leI (by omega) (b := 120) (by omega)).mpr (by omega)⟩, ?_⟩
  rintro r U ⟨eU, rfl⟩
  refine ⟨_, rfl, _, mX10_say U c ⟨by rw [show U 49 4 = nI k by rw [← k3, eU]; split <;> simp [uM_at]]; exact nI_pos' (by omega), by rw [show U 49 4 = nI k by rw [← k3, eU]; split <;> simp [uM_at]]; exact (nI_leI (by omega) (b := 120) (by omega)).mpr (by omega)⟩, ?_⟩
  rintro r2 W ⟨eW, rfl⟩
  obtain ⟨f1, f2⟩ := fin_say h0 c eU eW
  exact ⟨by rw [f2], f1⟩
theorem pr_wipe (h : RR V) : DK g jX9_wipe jX10_wipe V [] := by
  have h0 := h
  obtain ⟨⟨m, N, t, hC, hM, ht⟩, ⟨k, k1, k2, k3, k4⟩, ⟨dn, ph, d, hDc, hDm⟩, ⟨⟨ln, l1, l2, l3, l4⟩, lr⟩, hS⟩ := h
  refine ⟨_, mX9_wipe V  , ?_⟩
  rintro r U ⟨eU, rfl⟩
  refine ⟨_, rfl, _, mX10_wipe U  , ?_⟩
  rintro r2 W ⟨eW, rfl⟩
  obtain ⟨f1, f2⟩ := fin_wipe h0  eU eW
  exact ⟨by rw [f2], f1⟩
theorem pr_addDash (h : RR V) (dd : Int32) : DK g jX9_addDash jX10_addDash V [.int dd] := by
  have h0 := h
  obtain ⟨⟨m, N, t, hC, hM, ht⟩, ⟨k, k1, k2, k3, k4⟩, ⟨dn, ph, d, hDc, hDm⟩, ⟨⟨ln, l1, l2, l3, l4⟩, lr⟩, hS⟩ := h
  refine ⟨_, mX9_addDash V dd ⟨by rw [hDc.1]; exact nI_pos' (by have := hDc.2.1; omega), by rw [hDc.1]; exact (nI_leI (by have := hDc.2.1; omega) (b := 6) (by have := hDc.2.1; omega)).mpr (by have := hDc.2.1; omega)⟩, ?_⟩
  rintro r U ⟨eU, rfl⟩
  refine ⟨_, rfl, _, mX10_addDash U dd ⟨by rw [show U 49 6 = nI dn by rw [← hDm.1, eU]; split <;> simp [uM_at]]; exact nI_pos' (by have := hDc.2.1; omega), by rw [show U 49 6 = nI dn by rw [← hDm.1, eU]; split <;> simp [uM_at]]; exact (nI_leI (by have := hDc.2.1; omega) (b := 6) (by omega)).mpr (by have := hDc.2.1; omega)⟩, ?_⟩
  rintro r2 W ⟨eW, rfl⟩
  obtain ⟨f1, f2⟩ := fin_addDash h0 dd eU eW
  exact ⟨by rw [f2], f1⟩
theorem pr_clearDashes (h : RR V) (dd : Int32) : DK g jX9_clearDashes jX10_clearDashes V [.int dd] := by
  have h0 := h
  obtain ⟨⟨m, N, t, hC, hM, ht⟩, ⟨k, k1, k2, k3, k4⟩, ⟨dn, ph, d, hDc, hDm⟩, ⟨⟨ln, l1, l2, l3, l4⟩, lr⟩, hS⟩ := h
  refine ⟨_, mX9_clearDashes V dd , ?_⟩
  rintro r U ⟨eU, rfl⟩
  refine ⟨_, rfl, _, mX10_clearDashes U dd , ?_⟩
  rintro r2 W ⟨eW, rfl⟩
  obtain ⟨f1, f2⟩ := fin_clearDashes h0 dd eU eW
  exact ⟨by rw [f2], f1⟩
theorem pr_setWidth (h : RR V) (l w : Int32) : DK g jX9_setWidth jX10_setWidth V [.int l, .int w] := by
  have h0 := h
  obtain ⟨⟨m, N, t, hC, hM, ht⟩, ⟨k, k1, k2, k3, k4⟩, ⟨dn, ph, d, hDc, hDm⟩, ⟨⟨ln, l1, l2, l3, l4⟩, lr⟩, hS⟩ := h
  refine ⟨_, mX9_setWidth V l w , ?_⟩
  rintro r U ⟨eU, rfl⟩
  refine ⟨_, rfl, _, mX10_setWidth U l w , ?_⟩
  rintro r2 W ⟨eW, rfl⟩
  obtain ⟨f1, f2⟩ := fin_setWidth h0 l w eU eW
  exact ⟨by rw [f2], f1⟩
theorem pr_setKerning (h : RR V) (l r a : Int32) : DK g jX9_setKerning jX10_setKerning V [.int l, .int r, .int a] := by
  have h0 := h
  obtain ⟨⟨m, N, t, hC, hM, ht⟩, ⟨k, k1, k2, k3, k4⟩, ⟨dn, ph, d, hDc, hDm⟩, ⟨⟨ln, l1, l2, l3, l4⟩, lr⟩, hS⟩ := h
  refine ⟨_, mX9_setKerning V l r a , ?_⟩
  rintro r U ⟨eU, rfl⟩
  refine ⟨_, rfl, _, mX10_setKerning U l r a , ?_⟩
  rintro r2 W ⟨eW, rfl⟩
  obtain ⟨f1, f2⟩ := fin_setKerning h0 l r a eU eW
  exact ⟨by rw [f2], f1⟩
theorem pr_write (h : RR V) (l : Int32) : DK g jX9_write jX10_write V [.int l] := by
  have h0 := h
  obtain ⟨⟨m, N, t, hC, hM, ht⟩, ⟨k, k1, k2, k3, k4⟩, ⟨dn, ph, d, hDc, hDm⟩, ⟨⟨ln, l1, l2, l3, l4⟩, lr⟩, hS⟩ := h
  refine ⟨_, mX9_write V l ⟨by rw [l2]; exact nI_pos' (by omega), by rw [l2]; exact (nI_leI (by omega) (b := 24) (by omega)).mpr (by omega)⟩, ?_⟩
  rintro r U ⟨eU, rfl⟩
  refine ⟨_, rfl, _, mX10_write U l ⟨by rw [show U 49 12 = nI ln by rw [← l3, eU]; split <;> simp [uM_at]]; exact nI_pos' (by omega), by rw [show U 49 12 = nI ln by rw [← l3, eU]; split <;> simp [uM_at]]; exact (nI_leI (by omega) (b := 24) (by omega)).mpr (by omega)⟩, ?_⟩
  rintro r2 W ⟨eW, rfl⟩
  obtain ⟨f1, f2⟩ := fin_write h0 l eU eW
  exact ⟨by rw [f2], f1⟩
theorem pr_erase (h : RR V) : DK g jX9_erase jX10_erase V [] := by
  have h0 := h
  obtain ⟨⟨m, N, t, hC, hM, ht⟩, ⟨k, k1, k2, k3, k4⟩, ⟨dn, ph, d, hDc, hDm⟩, ⟨⟨ln, l1, l2, l3, l4⟩, lr⟩, hS⟩ := h
  refine ⟨_, mX9_erase V  , ?_⟩
  rintro r U ⟨eU, rfl⟩
  refine ⟨_, rfl, _, mX10_erase U  , ?_⟩
  rintro r2 W ⟨eW, rfl⟩
  obtain ⟨f1, f2⟩ := fin_erase h0  eU eW
  exact ⟨by rw [f2], f1⟩
theorem pr_arrange (h : RR V) (o s md : Int32) : DK g jX9_arrange jX10_arrange V [.int o, .int s, .int md] := by
  have h0 := h
  obtain ⟨⟨m, N, t, hC, hM, ht⟩, ⟨k, k1, k2, k3, k4⟩, ⟨dn, ph, d, hDc, hDm⟩, ⟨⟨ln, l1, l2, l3, l4⟩, lr⟩, hS⟩ := h
  refine ⟨_, mX9_arrange V o s md , ?_⟩
  rintro r U ⟨eU, rfl⟩
  refine ⟨_, rfl, _, mX10_arrange U o s md , ?_⟩
  rintro r2 W ⟨eW, rfl⟩
  obtain ⟨f1, f2⟩ := fin_arrange h0 o s md eU eW
  exact ⟨by rw [f2], f1⟩
theorem pr_setTolerance (h : RR V) (tt : Int32) : DK g jX9_setTolerance jX10_setTolerance V [.int tt] := by
  have h0 := h
  obtain ⟨⟨m, N, t, hC, hM, ht⟩, ⟨k, k1, k2, k3, k4⟩, ⟨dn, ph, d, hDc, hDm⟩, ⟨⟨ln, l1, l2, l3, l4⟩, lr⟩, hS⟩ := h
  refine ⟨_, mX9_setTolerance V tt , ?_⟩
  rintro r U ⟨eU, rfl⟩
  refine ⟨_, rfl, _, mX10_setTolerance U tt , ?_⟩
  rintro r2 W ⟨eW, rfl⟩
  obtain ⟨f1, f2⟩ := fin_tol h0 tt eU eW
  exact ⟨by rw [f2], f1⟩
end
