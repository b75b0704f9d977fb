/-! the JDK's own String, over the two constants -/
theorem x_ldcS {g : gX} {J : MD} {Qf : List Frame → Array Value → State → State → Prop} {V : vM} {pc : Nat} {lv : List (Nat × Value)} {st : List Value} {own tx : String} {idx i : Nat} (hw : ∀ U : State, wrd g U → vk_R J.1 idx tx (g.2.2.2.2.1 i) U) (hd : decode J.2.2.1 pc = .ok (.ldc idx, 2)) (k : YY g J Qf V (pc + 2) lv (.ref (g.2.2.2.2.1 i) :: st)) : YY g J Qf V pc lv st :=
  fun p e s m args below meth c H locs ls E hP hS hl => va_ldcS E.1 E.2.1 E.2.2.2.2.2.1 (hw s E.2.2.2.2.2.2.2.1.2) hd (k p e s m args below meth c H locs ls E hP hS hl)
theorem x_getSv {g : gX} {J : MD} {Qf : List Frame → Array Value → State → State → Prop} {V : vM} {pc : Nat} {lv : List (Nat × Value)} {st : List Value} {idx i : Nat} (hi : i < 2) (hw : Cond.fieldLink J.1 idx "java/lang/String" "value" "[B" ∈ wA) (hd : decode J.2.2.1 pc = .ok (.getfield idx, 3)) (k : YY g J Qf V (pc + 3) lv (.ref (g.2.2.2.2.2.1 i) :: st)) : YY g J Qf V pc lv (.ref (g.2.2.2.2.1 i) :: st) :=
  fun p e s m args below meth c H locs ls E hP hS hl => vk_getf E.1 E.2.1 (E.2.2.2.2.2.2.2.2.1.2.2.1.1 i hi).2.2.1 hS E.2.2.2.2.2.1 (E.2.2.2.2.2.2.1 _ hw) (fun _ h => h) hd (k p e s m args below meth c H locs ls E hP hS hl)
theorem x_getSc {g : gX} {J : MD} {Qf : List Frame → Array Value → State → State → Prop} {V : vM} {pc : Nat} {lv : List (Nat × Value)} {st : List Value} {idx i : Nat} (hi : i < 2) (hw : Cond.fieldLink J.1 idx "java/lang/String" "coder" "B" ∈ wA) (hd : decode J.2.2.1 pc = .ok (.getfield idx, 3)) (k : YY g J Qf V (pc + 3) lv (.int 0 :: st)) : YY g J Qf V pc lv (.ref (g.2.2.2.2.1 i) :: st) :=
  fun p e s m args below meth c H locs ls E hP hS hl => vk_getf E.1 E.2.1 (E.2.2.2.2.2.2.2.2.1.2.2.1.1 i hi).2.1 hS E.2.2.2.2.2.1 (E.2.2.2.2.2.2.1 _ hw) (fun _ h => h) hd (k p e s m args below meth c H locs ls E hP hS hl)
theorem x_gCS {g : gX} {J : MD} {Qf : List Frame → Array Value → State → State → Prop} {V : vM} {pc : Nat} {lv : List (Nat × Value)} {st : List Value} {idx : Nat} (hw : Cond.fieldLink J.1 idx "java/lang/String" "COMPACT_STRINGS" "Z" ∈ wA) (hd : decode J.2.2.1 pc = .ok (.getstatic idx, 3)) (k : YY g J Qf V (pc + 3) lv (.int 1 :: st)) : YY g J Qf V pc lv st :=
  fun p e s m args below meth c H locs ls E hP hS hl => va_gets E.1 E.2.1 E.2.2.2.2.2.2.2.2.1.2.2.2.1 hS E.2.2.2.2.2.1 (E.2.2.2.2.2.2.1 _ hw) (fun _ h => h) hd (k p e s m args below meth c H locs ls E hP hS hl)
theorem x_gSI {g : gX} {J : MD} {Qf : List Frame → Array Value → State → State → Prop} {V : vM} {pc : Nat} {lv : List (Nat × Value)} {st : List Value} {idx : Nat} (hw : Cond.fieldLink J.1 idx "jdk/internal/util/Preconditions" "SIOOBE_FORMATTER" "Ljava/util/function/BiFunction;" ∈ wA) (hd : decode J.2.2.1 pc = .ok (.getstatic idx, 3)) (k1 : YY g J Qf V (pc + 3) lv (.null :: st)) (k2 : ∀ t : Nat, YY g J Qf V (pc + 3) lv (.ref t :: st)) : YY g J Qf V pc lv st := by
  intro p e s m args below meth c H locs ls E hP hS hl
  rcases E.2.2.2.2.2.2.2.2.1.2.2.2.2 with h | ⟨t, h⟩
  · exact va_gets E.1 E.2.1 h hS E.2.2.2.2.2.1 (E.2.2.2.2.2.2.1 _ hw) (fun _ h => h) hd (k1 p e s m args below meth c H locs ls E hP hS hl)
  · exact va_gets E.1 E.2.1 h hS E.2.2.2.2.2.1 (E.2.2.2.2.2.2.1 _ hw) (fun _ h => h) hd (k2 t p e s m args below meth c H locs ls E hP hS hl)
theorem x_blenS {g : gX} {J : MD} {Qf : List Frame → Array Value → State → State → Prop} {V : vM} {pc : Nat} {lv : List (Nat × Value)} {st : List Value} {i : Nat} (hi : i < 2) (hd : decode J.2.2.1 pc = .ok (.arraylength, 1)) (k : YY g J Qf V (pc + 1) lv (.int (nI (lenS.getD i 0)) :: st)) : YY g J Qf V pc lv (.ref (g.2.2.2.2.2.1 i) :: st) :=
  fun p e s m args below meth c H locs ls E hP hS hl => va_tlen E.1 E.2.1 (E.2.2.2.2.2.2.2.2.1.2.2.1.1 i hi).2.2.2 hS rfl hd (k p e s m args below meth c H locs ls E hP hS hl)
theorem x_bldS {g : gX} {J : MD} {Qf : List Frame → Array Value → State → State → Prop} {V : vM} {pc : Nat} {lv : List (Nat × Value)} {st : List Value} {i : Nat} {x : Int32} (hi : i < 2) (hin : vp_in x (lenS.getD i 0)) (hd : decode J.2.2.1 pc = .ok (.baload, 1)) (k : YY g J Qf V (pc + 1) lv (.int ((bytS.getD i []).getD x.toNatClampNeg 0) :: st)) : YY g J Qf V pc lv (.int x :: .ref (g.2.2.2.2.2.1 i) :: st) :=
  fun p e s m args below meth c H locs ls E hP hS hl => va_tb E.1 E.2.1 (E.2.2.2.2.2.2.2.2.1.2.2.1.1 i hi).2.2.2 hS hin rfl hd (k p e s m args below meth c H locs ls E hP hS hl)
theorem x_i2b {g : gX} {J : MD} {Qf : List Frame → Array Value → State → State → Prop} {V : vM} {pc : Nat} {lv : List (Nat × Value)} {st : List Value} {x v : Int32} (hd : decode J.2.2.1 pc = .ok (.i2b, 1)) (hv : x.toInt8.toInt32 = v) (k : YY g J Qf V (pc + 1) lv (.int v :: st)) : YY g J Qf V pc lv (.int x :: st) :=
  fun p e s m args below meth c H locs ls E hP hS hl => lv_i2b E.1 E.2.1 hd hv (k p e s m args below meth c H locs ls E hP hS hl)
set_option maxHeartbeats 1000000 in
theorem x_callVS {g : gX} {J : MD} {Qf : List Frame → Array Value → State → State → Prop} {V : vM} {pc : Nat} {lv : List (Nat × Value)} {st : List Value} {K : MD} {idx n i : Nat} {Q1 : Option Value → vM → Prop} {stk : List Value} (as : List Value) (L : LV J.1 idx K n) (hRM : RM J K) (hi : i < 2) (hc : K.1 = "java/lang/String") (hM : MM g K V (.ref (g.2.2.2.2.1 i) :: as) Q1) (hlen : as.length = n) (hst : (st.map fun v => v.category).sum ≤ 8) (hstk : stk = as.reverse ++ .ref (g.2.2.2.2.1 i) :: st) (hd : decode J.2.2.1 pc = .ok (.invokevirtual idx, 3))
    (k : ∀ (r : Option Value) (V1 : vM), Q1 r V1 → YY g J Qf V1 (pc + 3) lv (r.toList ++ st)) : YY g J Qf V pc lv stk := by
  subst hstk
  intro p e s m args below meth c H locs ls E hP hS hl
  obtain ⟨hKB, h2, h3, h4, h5⟩ := L
  have hts := E.2.2.2.2.2.2.1
  have hG : GoodIn wA (wsV J.1 idx K.1 K.2.1 (wsJ K)) := by
    intro w hw
    unfold wsV at hw
    rcases List.mem_append.mp hw with hw | hw
    · simp only [List.mem_cons, List.not_mem_nil, or_false] at hw
      rcases hw with rfl | rfl | rfl | rfl
      · exact wA_good _ h3
      · exact wA_good _ h4
      · exact wA_good _ h5
      · rw [← h2]; exact wA_good _ hKB.2.1
    · exact hKB.good w hw
  have hrec := vk_recv (locs := locs) (H := H) E.2.2.2.2.2.2.2.2.1.2.2.1 hi hS
  rw [← hc] at hrec
  have hrun := va_runV (p := p) (l := gl g) (e := e) (R := rmO J) (s := s) (m := m) (args := args) (below := below) (meth := meth) (c := c) (H := H) (locs := locs) (cells := (rmO J).cells) (slots := (rmO J).slots) (g := F0 m pc ls (as.reverse ++ .ref (g.2.2.2.2.1 i) :: st)) (As := as) (rest := st) (b := g.2.2.2.2.1 i) (C := K.1) ⟨E.1, E.2.1, E.2.2.1, E.2.2.2.2.2.1, hts⟩ hM (cwV n hts hG rfl hRM.1.1 hRM.1.2 ⟨h2, hKB.2.2⟩ hRM.2) ⟨bEnv_blind g V _, hrec, ENV.call E hP hS _⟩ rfl hlen hl.1 rfl (lv_room hst) hd ⟨Nat.le_refl _, Nat.le_refl _⟩
  exact va_callQ hrun hS (fun r V1 H1 locs1 hq hP1 hS1 => k r V1 hq p e s m args below meth c H1 locs1 ls E hP1 hS1 hl)
theorem sr_X8_27 {g : gX} (U : State) (h : wrd g U) : vk_R RX8 27 "MLQCZ" (g.2.2.2.2.1 0) U := h.2.2.2.2.2.2
theorem sr_X6_77 {g : gX} (U : State) (h : wrd g U) : vk_R RX6 77 "MLQCZ" (g.2.2.2.2.1 0) U := h.2.2.2.2.1
theorem sr_X6_85 {g : gX} (U : State) (h : wrd g U) : vk_R RX6 85 "mlqc" (g.2.2.2.2.1 1) U := h.2.2.2.2.2.1
set_option maxRecDepth 100000 in
theorem fs_J0_9 : Cond.fieldLink RJ0 9 "java/lang/String" "value" "[B" ∈ wA := List.mem_filter.mpr ⟨List.mem_of_getElem? (i := 1688) (by decide +kernel), by decide +kernel⟩
set_option maxRecDepth 100000 in
theorem fs_J0_15 : Cond.fieldLink RJ0 15 "java/lang/String" "coder" "B" ∈ wA := List.mem_filter.mpr ⟨List.mem_of_getElem? (i := 1687) (by decide +kernel), by decide +kernel⟩
set_option maxRecDepth 100000 in
theorem fs_J0_38 : Cond.fieldLink RJ0 38 "java/lang/String" "COMPACT_STRINGS" "Z" ∈ wA := List.mem_filter.mpr ⟨List.mem_of_getElem? (i := 695) (by decide +kernel), by decide +kernel⟩
set_option maxRecDepth 100000 in
theorem fs_J0_1053 : Cond.fieldLink RJ0 1053 "jdk/internal/util/Preconditions" "SIOOBE_FORMATTER" "Ljava/util/function/BiFunction;" ∈ wA := List.mem_filter.mpr ⟨List.mem_of_getElem? (i := 738) (by decide +kernel), by decide +kernel⟩
theorem pr_max_J1_92 : Cond.methodLink RJ1 92 Lib.Math.max.name ∈ wA := lk_J1_92.2.1
theorem pr_min_J1_38 : Cond.methodLink RJ1 38 Lib.Math.min.name ∈ wA := lk_J1_38.2.1
set_option maxHeartbeats 1000000 in
set_option maxRecDepth 100000 in
theorem mJ0_isLatin1_aae02 {g : gX} (V : vM) (i : Nat) (hi : i < 2) : MM g jJ0_isLatin1_aae02 V [.ref (g.2.2.2.2.1 i)] (pI V 1) := by
  refine MM.of plJ0_isLatin1_aae02 (Nat.le_of_ble_eq_true rfl) ?_
  obtain ⟨Q, hQ⟩ : ∃ Q : Option Value → vM → Prop, Q = (pI V 1) := ⟨_, rfl⟩
  rw [← hQ]
  show XX g jJ0_isLatin1_aae02 Q V 0 [(0, .ref (g.2.2.2.2.1 i))] []
  refine x_gCS fs_J0_38 dJ0_isLatin1_aae02_0 ?_
  refine x_if_eq 17 dJ0_isLatin1_aae02_3 (by decide) (fun c1 => by exfalso; revert c1; decide) (fun c1 => ?_)
  refine x_aload_n dJ0_isLatin1_aae02_6 0 rfl ?_
  refine x_getSc hi fs_J0_15 dJ0_isLatin1_aae02_7 ?_
  refine x_if_ne 17 dJ0_isLatin1_aae02_10 (by decide) (fun c2 => by exfalso; revert c2; decide) (fun c2 => ?_)
  refine x_iconst (v := 1) dJ0_isLatin1_aae02_13 (by decide) ?_
  refine x_goto 18 dJ0_isLatin1_aae02_14 (by decide) ?_
  refine x_zret dJ0_isLatin1_aae02_18 rfl (by exact nar01 (by first | exact Or.inl rfl | exact Or.inr rfl | grind)) ?_
  rw [hQ]
  exact ⟨rfl, rfl⟩
theorem lenS_b (i : Nat) : lenS.getD i 0 ≤ 5 := by
  rcases (show i = 0 ∨ i = 1 ∨ 2 ≤ i by omega) with rfl | rfl | h
  · decide
  · decide
  · rw [List.getD_eq_getElem?_getD, List.getElem?_eq_none (show lenS.length ≤ i from h)]
    decide
set_option maxHeartbeats 1000000 in
set_option maxRecDepth 100000 in
theorem mJ3_ci_null {g : gX} (V : vM) (k n : Nat) (hk : k < n) (hn : n < 1000) : MM g jJ3_checkIndex_8e157 V [.int (nI k), .int (nI n), .null] (pI V (nI k)) := by
  refine MM.of plJ3_checkIndex_8e157 (Nat.le_of_ble_eq_true rfl) ?_
  obtain ⟨Q, hQ⟩ : ∃ Q : Option Value → vM → Prop, Q = (pI V (nI k)) := ⟨_, rfl⟩
  rw [← hQ]
  show XX g jJ3_checkIndex_8e157 Q V 0 [(0, .int (nI k)), (1, .int (nI n)), (2, .null)] []
  refine x_iload_n dJ3_checkIndex_8e157_0 0 rfl ?_
  refine x_if_lt 9 dJ3_checkIndex_8e157_1 (by decide) (fun c1 => by exfalso; exact absurd c1 (nI_pos (by omega))) (fun c1 => ?_)
  refine x_iload_n dJ3_checkIndex_8e157_4 0 rfl ?_
  refine x_iload_n dJ3_checkIndex_8e157_5 1 rfl ?_
  refine x_icmp_lt 16 dJ3_checkIndex_8e157_6 (by decide) (fun c2 => ?_) (fun c2 => by exfalso; exact c2 ((nI_ltI (by omega) (by omega)).mpr hk))
  refine x_iload_n dJ3_checkIndex_8e157_16 0 rfl ?_
  refine x_iret dJ3_checkIndex_8e157_17 rfl ?_
  rw [hQ]
  exact ⟨rfl, rfl⟩
set_option maxHeartbeats 1000000 in
set_option maxRecDepth 100000 in
theorem mJ3_ci_ref {g : gX} (V : vM) (k n : Nat) (t : Nat) (hk : k < n) (hn : n < 1000) : MM g jJ3_checkIndex_8e157 V [.int (nI k), .int (nI n), .ref t] (pI V (nI k)) := by
  refine MM.of plJ3_checkIndex_8e157 (Nat.le_of_ble_eq_true rfl) ?_
  obtain ⟨Q, hQ⟩ : ∃ Q : Option Value → vM → Prop, Q = (pI V (nI k)) := ⟨_, rfl⟩
  rw [← hQ]
  show XX g jJ3_checkIndex_8e157 Q V 0 [(0, .int (nI k)), (1, .int (nI n)), (2, .ref t)] []
  refine x_iload_n dJ3_checkIndex_8e157_0 0 rfl ?_
  refine x_if_lt 9 dJ3_checkIndex_8e157_1 (by decide) (fun c1 => by exfalso; exact absurd c1 (nI_pos (by omega))) (fun c1 => ?_)
  refine x_iload_n dJ3_checkIndex_8e157_4 0 rfl ?_
  refine x_iload_n dJ3_checkIndex_8e157_5 1 rfl ?_
  refine x_icmp_lt 16 dJ3_checkIndex_8e157_6 (by decide) (fun c2 => ?_) (fun c2 => by exfalso; exact c2 ((nI_ltI (by omega) (by omega)).mpr hk))
  refine x_iload_n dJ3_checkIndex_8e157_16 0 rfl ?_
  refine x_iret dJ3_checkIndex_8e157_17 rfl ?_
  rw [hQ]
  exact ⟨rfl, rfl⟩
set_option maxHeartbeats 1000000 in
set_option maxRecDepth 100000 in
theorem mJ0_checkIndex_df160 {g : gX} (V : vM) (k n : Nat) (hk : k < n) (hn : n < 1000) : MM g jJ0_checkIndex_df160 V [.int (nI k), .int (nI n)] (dV V) := by
  refine MM.of plJ0_checkIndex_df160 (Nat.le_of_ble_eq_true rfl) ?_
  obtain ⟨Q, hQ⟩ : ∃ Q : Option Value → vM → Prop, Q = (dV V) := ⟨_, rfl⟩
  rw [← hQ]
  show XX g jJ0_checkIndex_df160 Q V 0 [(0, .int (nI k)), (1, .int (nI n))] []
  refine x_iload_n dJ0_checkIndex_df160_0 0 rfl ?_
  refine x_iload_n dJ0_checkIndex_df160_1 1 rfl ?_
  refine x_gSI fs_J0_1053 dJ0_checkIndex_df160_2 ?_ (fun t => ?_)
  · -- formatter
    refine x_callS (K := jJ3_checkIndex_8e157) [.int (nI k), .int (nI n), .null] lk_J0_1059 ⟨⟨rfl, rfl⟩, Nat.le_of_ble_eq_true rfl, Nat.le_of_ble_eq_true rfl⟩ (mJ3_ci_null V k n hk hn) rfl (Nat.le_of_ble_eq_true rfl) rfl dJ0_checkIndex_df160_5 (kpI ?_)
    refine x_pop dJ0_checkIndex_df160_8 rfl ?_
    refine x_vret dJ0_checkIndex_df160_9 rfl ?_
    rw [hQ]
    exact ⟨rfl, rfl⟩
  · -- formatter
    refine x_callS (K := jJ3_checkIndex_8e157) [.int (nI k), .int (nI n), .ref t] lk_J0_1059 ⟨⟨rfl, rfl⟩, Nat.le_of_ble_eq_true rfl, Nat.le_of_ble_eq_true rfl⟩ (mJ3_ci_ref V k n t hk hn) rfl (Nat.le_of_ble_eq_true rfl) rfl dJ0_checkIndex_df160_5 (kpI ?_)
    refine x_pop dJ0_checkIndex_df160_8 rfl ?_
    refine x_vret dJ0_checkIndex_df160_9 rfl ?_
    rw [hQ]
    exact ⟨rfl, rfl⟩
def chS (i k : Nat) : Int32 := (((bytS.getD i []).getD k 0 &&& 255).toUInt32 % 65536).toInt32
theorem chS_n : ∀ i : Fin 2, ∀ k : Fin 5, narrow .char (.int (chS i.val k.val)) = .int (chS i.val k.val) := by decide +kernel
set_option maxHeartbeats 1000000 in
set_option maxRecDepth 100000 in
theorem mJ1_charAt_3b067 {g : gX} (V : vM) (i : Nat) (hi : i < 2) (k : Nat) (hk : k < lenS.getD i 0) : MM g jJ1_charAt_3b067 V [.ref (g.2.2.2.2.2.1 i), .int (nI k)] (pI V (chS i k)) := by
  refine MM.of plJ1_charAt_3b067 (Nat.le_of_ble_eq_true rfl) ?_
  obtain ⟨Q, hQ⟩ : ∃ Q : Option Value → vM → Prop, Q = (pI V (chS i k)) := ⟨_, rfl⟩
  rw [← hQ]
  show XX g jJ1_charAt_3b067 Q V 0 [(0, .ref (g.2.2.2.2.2.1 i)), (1, .int (nI k))] []
  have hkb : k < 5 := by have := lenS_b i; omega
  refine x_iload_n dJ1_charAt_3b067_0 1 rfl ?_
  refine x_aload_n dJ1_charAt_3b067_1 0 rfl ?_
  refine x_blenS hi dJ1_charAt_3b067_2 ?_
  refine x_callS (K := jJ0_checkIndex_df160) [.int (nI k), .int (nI (lenS.getD i 0))] lk_J1_9 ⟨⟨rfl, rfl⟩, Nat.le_of_ble_eq_true rfl, Nat.le_of_ble_eq_true rfl⟩ (mJ0_checkIndex_df160 V k (lenS.getD i 0) hk (by have := lenS_b i; omega)) rfl (Nat.le_of_ble_eq_true rfl) rfl dJ1_charAt_3b067_3 (kdV ?_)
  refine x_aload_n dJ1_charAt_3b067_6 0 rfl ?_
  refine x_iload_n dJ1_charAt_3b067_7 1 rfl ?_
  have b1 : vp_in (nI k) (lenS.getD i 0) := by exact vp_in_nI hk (by have := lenS_b i; omega)
  refine x_bldS hi b1 dJ1_charAt_3b067_8 ?_
  refine x_topi (y := (bytS.getD i []).getD k 0) (by rw [nI_clamp (by omega)]) ?_
  refine x_sipush (v := 255) dJ1_charAt_3b067_9 (by decide) ?_
  refine x_iand dJ1_charAt_3b067_12 ?_
  refine x_i2c dJ1_charAt_3b067_13 ?_
  refine x_zret dJ1_charAt_3b067_14 rfl (by exact chS_n ⟨i, hi⟩ ⟨k, hkb⟩) ?_
  rw [hQ]
  exact ⟨rfl, rfl⟩
set_option maxHeartbeats 1000000 in
set_option maxRecDepth 100000 in
theorem mJ0_charAt_5068e {g : gX} (V : vM) (i : Nat) (hi : i < 2) (k : Nat) (hk : k < lenS.getD i 0) : MM g jJ0_charAt_5068e V [.ref (g.2.2.2.2.1 i), .int (nI k)] (pI V (chS i k)) := by
  refine MM.of plJ0_charAt_5068e (Nat.le_of_ble_eq_true rfl) ?_
  obtain ⟨Q, hQ⟩ : ∃ Q : Option Value → vM → Prop, Q = (pI V (chS i k)) := ⟨_, rfl⟩
  rw [← hQ]
  show XX g jJ0_charAt_5068e Q V 0 [(0, .ref (g.2.2.2.2.1 i)), (1, .int (nI k))] []
  have hkb : k < 5 := by have := lenS_b i; omega
  refine x_aload_n dJ0_charAt_5068e_0 0 rfl ?_
  refine x_callVS (K := jJ0_isLatin1_aae02) [] lk_J0_492 ⟨⟨rfl, rfl⟩, Nat.le_of_ble_eq_true rfl, Nat.le_of_ble_eq_true rfl⟩ hi rfl (mJ0_isLatin1_aae02 V i hi) rfl (Nat.le_of_ble_eq_true rfl) rfl dJ0_charAt_5068e_1 (kpI ?_)
  refine x_if_eq 16 dJ0_charAt_5068e_4 (by decide) (fun c1 => by exfalso; revert c1; decide) (fun c1 => ?_)
  refine x_aload_n dJ0_charAt_5068e_7 0 rfl ?_
  refine x_getSv hi fs_J0_9 dJ0_charAt_5068e_8 ?_
  refine x_iload_n dJ0_charAt_5068e_11 1 rfl ?_
  refine x_callS (K := jJ1_charAt_3b067) [.ref (g.2.2.2.2.2.1 i), .int (nI k)] lk_J0_495 ⟨⟨rfl, rfl⟩, Nat.le_of_ble_eq_true rfl, Nat.le_of_ble_eq_true rfl⟩ (mJ1_charAt_3b067 V i hi k hk) rfl (Nat.le_of_ble_eq_true rfl) rfl dJ0_charAt_5068e_12 (kpI ?_)
  refine x_zret dJ0_charAt_5068e_15 rfl (by exact chS_n ⟨i, hi⟩ ⟨k, hkb⟩) ?_
  rw [hQ]
  exact ⟨rfl, rfl⟩
set_option maxHeartbeats 1000000 in
set_option maxRecDepth 100000 in
theorem mJ0_coder_7d493 {g : gX} (V : vM) (i : Nat) (hi : i < 2) : MM g jJ0_coder_7d493 V [.ref (g.2.2.2.2.1 i)] (pI V 0) := by
  refine MM.of plJ0_coder_7d493 (Nat.le_of_ble_eq_true rfl) ?_
  obtain ⟨Q, hQ⟩ : ∃ Q : Option Value → vM → Prop, Q = (pI V 0) := ⟨_, rfl⟩
  rw [← hQ]
  show XX g jJ0_coder_7d493 Q V 0 [(0, .ref (g.2.2.2.2.1 i))] []
  refine x_gCS fs_J0_38 dJ0_coder_7d493_0 ?_
  refine x_if_eq 13 dJ0_coder_7d493_3 (by decide) (fun c1 => by exfalso; revert c1; decide) (fun c1 => ?_)
  refine x_aload_n dJ0_coder_7d493_6 0 rfl ?_
  refine x_getSc hi fs_J0_15 dJ0_coder_7d493_7 ?_
  refine x_goto 14 dJ0_coder_7d493_10 (by decide) ?_
  refine x_zret dJ0_coder_7d493_14 rfl (by decide +kernel) ?_
  rw [hQ]
  exact ⟨rfl, rfl⟩
set_option maxHeartbeats 1000000 in
set_option maxRecDepth 100000 in
theorem mJ0_length_8abf5 {g : gX} (V : vM) (i : Nat) (hi : i < 2) : MM g jJ0_length_8abf5 V [.ref (g.2.2.2.2.1 i)] (pI V (nI (lenS.getD i 0))) := by
  refine MM.of plJ0_length_8abf5 (Nat.le_of_ble_eq_true rfl) ?_
  obtain ⟨Q, hQ⟩ : ∃ Q : Option Value → vM → Prop, Q = (pI V (nI (lenS.getD i 0))) := ⟨_, rfl⟩
  rw [← hQ]
  show XX g jJ0_length_8abf5 Q V 0 [(0, .ref (g.2.2.2.2.1 i))] []
  refine x_aload_n dJ0_length_8abf5_0 0 rfl ?_
  refine x_getSv hi fs_J0_9 dJ0_length_8abf5_1 ?_
  refine x_blenS hi dJ0_length_8abf5_4 ?_
  refine x_aload_n dJ0_length_8abf5_5 0 rfl ?_
  refine x_callVS (K := jJ0_coder_7d493) [] lk_J0_335 ⟨⟨rfl, rfl⟩, Nat.le_of_ble_eq_true rfl, Nat.le_of_ble_eq_true rfl⟩ hi rfl (mJ0_coder_7d493 V i hi) rfl (Nat.le_of_ble_eq_true rfl) rfl dJ0_length_8abf5_6 (kpI ?_)
  refine x_ishr dJ0_length_8abf5_9 ?_
  refine x_iret dJ0_length_8abf5_10 rfl ?_
  rw [hQ]
  refine ⟨rfl, ?_⟩
  rcases (show i = 0 ∨ i = 1 by omega) with rfl | rfl <;> rfl
/-- the place of a sign in a constant's bytes, from k on -/
def ixL (i : Nat) (c : Int32) : Nat → Nat → Int32
  | 0, _ => -1
  | r + 1, k => if (bytS.getD i []).getD k 0 = c then nI k else ixL i c r (k + 1)
def ixS (i : Nat) (c : Int32) : Int32 := ixL i c (lenS.getD i 0) 0
theorem i2b_ch {c : Int32} (h : 0 ≤ c ∧ c ≤ 127) : c.toInt8.toInt32 = c := by
  have h0 := Int32.le_iff_toInt_le.mp h.1
  have h1 := Int32.le_iff_toInt_le.mp h.2
  rw [show (0 : Int32).toInt = 0 from rfl] at h0
  rw [show (127 : Int32).toInt = 127 from rfl] at h1
  apply Int32.toInt_inj.mp
  rw [Int8.toInt_toInt32, Int32.toInt_toInt8, Int.bmod_eq_of_le (by omega) (by omega)]
set_option maxHeartbeats 1000000 in
set_option maxRecDepth 100000 in
theorem mJ1_indexOfChar_4cfef {g : gX} (V : vM) (i : Nat) (hi : i < 2) (c : Int32) (hc : 0 ≤ c ∧ c ≤ 127) : MM g jJ1_indexOfChar_4cfef V [.ref (g.2.2.2.2.2.1 i), .int c, .int 0, .int (nI (lenS.getD i 0))] (pI V (ixS i c)) := by
  refine MM.of plJ1_indexOfChar_4cfef (Nat.le_of_ble_eq_true rfl) ?_
  obtain ⟨Q, hQ⟩ : ∃ Q : Option Value → vM → Prop, Q = (pI V (ixS i c)) := ⟨_, rfl⟩
  rw [← hQ]
  show XX g jJ1_indexOfChar_4cfef Q V 0 [(0, .ref (g.2.2.2.2.2.1 i)), (1, .int c), (2, .int 0), (3, .int (nI (lenS.getD i 0)))] []
  have hlb := lenS_b i
  refine x_iload_n dJ1_indexOfChar_4cfef_0 1 rfl ?_
  refine x_i2b dJ1_indexOfChar_4cfef_1 rfl ?_
  refine x_topi (y := c) (i2b_ch hc) ?_
  refine x_istore 4 [(4, .int c), (0, .ref (g.2.2.2.2.2.1 i)), (1, .int c), (2, .int 0), (3, .int (nI (lenS.getD i 0)))] dJ1_indexOfChar_4cfef_2 (by decide) rfl ?_
  refine x_iload_n dJ1_indexOfChar_4cfef_4 3 rfl ?_
  refine x_istore 5 [(5, .int 0), (4, .int c), (0, .ref (g.2.2.2.2.2.1 i)), (1, .int c), (2, .int 0), (3, .int (nI (lenS.getD i 0)))] dJ1_indexOfChar_4cfef_5 (by decide) rfl ?_
  have lp1 : ∀ (fu : Nat) (k : Nat), (k ≤ lenS.getD i 0) → (ixL i c (lenS.getD i 0 - k) k = ixS i c) → (lenS.getD i 0 - k) < fu → XX g jJ1_indexOfChar_4cfef Q V 7 [(5, .int (nI k)), (4, .int c), (0, .ref (g.2.2.2.2.2.1 i)), (1, .int c), (2, .int 0), (3, .int (nI (lenS.getD i 0)))] [] := by
    intro fu
    induction fu with
    | zero => intro _ _ _ hmz; exact absurd hmz (Nat.not_lt_zero _)
    | succ fu ih =>
      intro k hk hv hmz
      refine x_iload dJ1_indexOfChar_4cfef_7 0 rfl ?_
      refine x_iload_n dJ1_indexOfChar_4cfef_9 5 rfl ?_
      refine x_icmp_ge 31 dJ1_indexOfChar_4cfef_10 (by decide) (fun c2 => ?_) (fun c2 => ?_)
      · have c2n : lenS.getD i 0 ≤ k := (nl_le (a := lenS.getD i 0) (b := k) (rfl) (rfl) (by omega) (by omega)).mp c2
        refine x_iconst (v := -1) dJ1_indexOfChar_4cfef_31 (by decide) ?_
        refine x_iret dJ1_indexOfChar_4cfef_32 rfl ?_
        rw [hQ]
        refine ⟨rfl, ?_⟩
        rw [← hv, show lenS.getD i 0 - k = 0 by omega]
        rfl
      · have c2n : k < lenS.getD i 0 := Nat.not_le.mp (fun q => c2 ((nl_le (a := lenS.getD i 0) (b := k) (rfl) (rfl) (by omega) (by omega)).mpr q))
        refine x_aload_n dJ1_indexOfChar_4cfef_13 2 rfl ?_
        refine x_iload dJ1_indexOfChar_4cfef_14 0 rfl ?_
        have b3 : vp_in (nI k) (lenS.getD i 0) := by exact vp_in_nI (by omega) (by omega)
        refine x_bldS hi b3 dJ1_indexOfChar_4cfef_16 ?_
        refine x_topi (y := (bytS.getD i []).getD k 0) (by rw [nI_clamp (by omega)]) ?_
        refine x_iload dJ1_indexOfChar_4cfef_17 1 rfl ?_
        refine x_icmp_ne 25 dJ1_indexOfChar_4cfef_19 (by decide) (fun c4 => ?_) (fun c4 => ?_)
        · refine x_iinc 5 (v := (nI k) + 1) 0 [(5, .int ((nI k) + 1)), (4, .int c), (0, .ref (g.2.2.2.2.2.1 i)), (1, .int c), (2, .int 0), (3, .int (nI (lenS.getD i 0)))] dJ1_indexOfChar_4cfef_25 rfl (by rfl) (by decide) rfl ?_
          refine x_goto 7 dJ1_indexOfChar_4cfef_28 (by decide) ?_
          refine YY.L (lv' := [(5, .int (nI (k + 1))), (4, .int c), (0, .ref (g.2.2.2.2.2.1 i)), (1, .int c), (2, .int 0), (3, .int (nI (lenS.getD i 0)))]) (by rw [nI_1] <;> rfl) ?_
          exact ih (k + 1) (by omega) (by rw [← hv, show lenS.getD i 0 - k = (lenS.getD i 0 - (k + 1)) + 1 by omega, ixL, if_neg (by assumption)]) (by omega)
        · refine x_iload dJ1_indexOfChar_4cfef_22 0 rfl ?_
          refine x_iret dJ1_indexOfChar_4cfef_24 rfl ?_
          rw [hQ]
          refine ⟨rfl, ?_⟩
          rw [← hv, show lenS.getD i 0 - k = (lenS.getD i 0 - (k + 1)) + 1 by omega, ixL, if_pos (by assumption)]
  refine YY.L (lv' := [(5, .int (nI 0)), (4, .int c), (0, .ref (g.2.2.2.2.2.1 i)), (1, .int c), (2, .int 0), (3, .int (nI (lenS.getD i 0)))]) (by rfl) ?_
  exact lp1 _ 0 (by omega) (by rfl) (Nat.lt_succ_self _)
set_option maxHeartbeats 1000000 in
set_option maxRecDepth 100000 in
theorem mJ1_canEncode_9a6ad {g : gX} (V : vM) (c : Int32) (hc : 0 ≤ c ∧ c ≤ 127) : MM g jJ1_canEncode_9a6ad V [.int c] (pI V 1) := by
  refine MM.of plJ1_canEncode_9a6ad (Nat.le_of_ble_eq_true rfl) ?_
  obtain ⟨Q, hQ⟩ : ∃ Q : Option Value → vM → Prop, Q = (pI V 1) := ⟨_, rfl⟩
  rw [← hQ]
  show XX g jJ1_canEncode_9a6ad Q V 0 [(0, .int c)] []
  refine x_iload_n dJ1_canEncode_9a6ad_0 0 rfl ?_
  refine x_if_lt 15 dJ1_canEncode_9a6ad_1 (by decide) (fun c1 => by exfalso; exact absurd c1 (Int32.not_lt.mpr hc.1)) (fun c1 => ?_)
  refine x_iload_n dJ1_canEncode_9a6ad_4 0 rfl ?_
  refine x_sipush (v := 255) dJ1_canEncode_9a6ad_5 (by decide) ?_
  refine x_icmp_gt 15 dJ1_canEncode_9a6ad_8 (by decide) (fun c2 => by exfalso; exact absurd c2 (Int32.not_lt.mpr (Int32.le_trans hc.2 (by decide)))) (fun c2 => ?_)
  refine x_iconst (v := 1) dJ1_canEncode_9a6ad_11 (by decide) ?_
  refine x_goto 16 dJ1_canEncode_9a6ad_12 (by decide) ?_
  refine x_zret dJ1_canEncode_9a6ad_16 rfl (by exact nar01 (by first | exact Or.inl rfl | exact Or.inr rfl | grind)) ?_
  rw [hQ]
  exact ⟨rfl, rfl⟩
set_option maxHeartbeats 1000000 in
set_option maxRecDepth 100000 in
theorem mJ1_indexOf_4cfef {g : gX} (V : vM) (i : Nat) (hi : i < 2) (c : Int32) (hc : 0 ≤ c ∧ c ≤ 127) : MM g jJ1_indexOf_4cfef V [.ref (g.2.2.2.2.2.1 i), .int c, .int 0, .int (nI (lenS.getD i 0))] (pI V (ixS i c)) := by
  refine MM.of plJ1_indexOf_4cfef (Nat.le_of_ble_eq_true rfl) ?_
  obtain ⟨Q, hQ⟩ : ∃ Q : Option Value → vM → Prop, Q = (pI V (ixS i c)) := ⟨_, rfl⟩
  rw [← hQ]
  show XX g jJ1_indexOf_4cfef Q V 0 [(0, .ref (g.2.2.2.2.2.1 i)), (1, .int c), (2, .int 0), (3, .int (nI (lenS.getD i 0)))] []
  have hlb := lenS_b i
  refine x_iload_n dJ1_indexOf_4cfef_0 1 rfl ?_
  refine x_callS (K := jJ1_canEncode_9a6ad) [.int c] lk_J1_88 ⟨⟨rfl, rfl⟩, Nat.le_of_ble_eq_true rfl, Nat.le_of_ble_eq_true rfl⟩ (mJ1_canEncode_9a6ad V c hc) rfl (Nat.le_of_ble_eq_true rfl) rfl dJ1_indexOf_4cfef_1 (kpI ?_)
  refine x_if_ne 9 dJ1_indexOf_4cfef_4 (by decide) (fun c1 => ?_) (fun c1 => by exfalso; revert c1; decide)
  refine x_iload_n dJ1_indexOf_4cfef_9 2 rfl ?_
  refine x_iconst (v := 0) dJ1_indexOf_4cfef_10 (by decide) ?_
  refine x_mmax pr_mmax_J1_92 pr_mmax_st pr_math pr_mmax_code (by decide) (Nat.le_of_ble_eq_true rfl) dJ1_indexOf_4cfef_11 ?_
  refine x_topi (y := 0) (by decide) ?_
  refine x_istore_n 2 [(2, .int 0), (0, .ref (g.2.2.2.2.2.1 i)), (1, .int c), (3, .int (nI (lenS.getD i 0)))] dJ1_indexOf_4cfef_14 rfl (by decide) rfl ?_
  refine x_iload_n dJ1_indexOf_4cfef_15 3 rfl ?_
  refine x_aload_n dJ1_indexOf_4cfef_16 1 rfl ?_
  refine x_blenS hi dJ1_indexOf_4cfef_17 ?_
  refine x_mmin pr_mmin_J1_38 pr_mmin_st pr_math pr_mmin_code (by decide) (Nat.le_of_ble_eq_true rfl) dJ1_indexOf_4cfef_18 ?_
  refine x_topi (y := nI (lenS.getD i 0)) (if_neg (Int32.lt_irrefl)) ?_
  refine x_istore_n 3 [(3, .int (nI (lenS.getD i 0))), (2, .int 0), (0, .ref (g.2.2.2.2.2.1 i)), (1, .int c)] dJ1_indexOf_4cfef_21 rfl (by decide) rfl ?_
  refine x_iload_n dJ1_indexOf_4cfef_22 1 rfl ?_
  refine x_iload_n dJ1_indexOf_4cfef_23 0 rfl ?_
  refine x_icmp_lt 29 dJ1_indexOf_4cfef_24 (by decide) (fun c2 => ?_) (fun c2 => by exfalso; exact c2 ((nI_ltI (a := 0) (by omega) (by omega)).mpr (by rcases (show i = 0 ∨ i = 1 by omega) with rfl | rfl <;> decide)))
  refine x_aload_n dJ1_indexOf_4cfef_29 2 rfl ?_
  refine x_iload_n dJ1_indexOf_4cfef_30 3 rfl ?_
  refine x_iload_n dJ1_indexOf_4cfef_31 1 rfl ?_
  refine x_iload_n dJ1_indexOf_4cfef_32 0 rfl ?_
  refine x_callS (K := jJ1_indexOfChar_4cfef) [.ref (g.2.2.2.2.2.1 i), .int c, .int 0, .int (nI (lenS.getD i 0))] lk_J1_95 ⟨⟨rfl, rfl⟩, Nat.le_of_ble_eq_true rfl, Nat.le_of_ble_eq_true rfl⟩ (mJ1_indexOfChar_4cfef V i hi c hc) rfl (Nat.le_of_ble_eq_true rfl) rfl dJ1_indexOf_4cfef_33 (kpI ?_)
  refine x_iret dJ1_indexOf_4cfef_36 rfl ?_
  rw [hQ]
  exact ⟨rfl, rfl⟩
set_option maxHeartbeats 1000000 in
set_option maxRecDepth 100000 in
theorem mJ0_indexOf_7cf53 {g : gX} (V : vM) (i : Nat) (hi : i < 2) (c : Int32) (hc : 0 ≤ c ∧ c ≤ 127) : MM g jJ0_indexOf_7cf53 V [.ref (g.2.2.2.2.1 i), .int c, .int 0] (pI V (ixS i c)) := by
  refine MM.of plJ0_indexOf_7cf53 (Nat.le_of_ble_eq_true rfl) ?_
  obtain ⟨Q, hQ⟩ : ∃ Q : Option Value → vM → Prop, Q = (pI V (ixS i c)) := ⟨_, rfl⟩
  rw [← hQ]
  show XX g jJ0_indexOf_7cf53 Q V 0 [(0, .ref (g.2.2.2.2.1 i)), (1, .int c), (2, .int 0)] []
  refine x_aload_n dJ0_indexOf_7cf53_0 0 rfl ?_
  refine x_callVS (K := jJ0_isLatin1_aae02) [] lk_J0_492 ⟨⟨rfl, rfl⟩, Nat.le_of_ble_eq_true rfl, Nat.le_of_ble_eq_true rfl⟩ hi rfl (mJ0_isLatin1_aae02 V i hi) rfl (Nat.le_of_ble_eq_true rfl) rfl dJ0_indexOf_7cf53_1 (kpI ?_)
  refine x_if_eq 23 dJ0_indexOf_7cf53_4 (by decide) (fun c1 => by exfalso; revert c1; decide) (fun c1 => ?_)
  refine x_aload_n dJ0_indexOf_7cf53_7 0 rfl ?_
  refine x_getSv hi fs_J0_9 dJ0_indexOf_7cf53_8 ?_
  refine x_iload_n dJ0_indexOf_7cf53_11 1 rfl ?_
  refine x_iload_n dJ0_indexOf_7cf53_12 2 rfl ?_
  refine x_aload_n dJ0_indexOf_7cf53_13 0 rfl ?_
  refine x_callVS (K := jJ0_length_8abf5) [] lk_J0_505 ⟨⟨rfl, rfl⟩, Nat.le_of_ble_eq_true rfl, Nat.le_of_ble_eq_true rfl⟩ hi rfl (mJ0_length_8abf5 V i hi) rfl (Nat.le_of_ble_eq_true rfl) rfl dJ0_indexOf_7cf53_14 (kpI ?_)
  refine x_callS (K := jJ1_indexOf_4cfef) [.ref (g.2.2.2.2.2.1 i), .int c, .int 0, .int (nI (lenS.getD i 0))] lk_J0_637 ⟨⟨rfl, rfl⟩, Nat.le_of_ble_eq_true rfl, Nat.le_of_ble_eq_true rfl⟩ (mJ1_indexOf_4cfef V i hi c hc) rfl (Nat.le_of_ble_eq_true rfl) rfl dJ0_indexOf_7cf53_17 (kpI ?_)
  refine x_goto 36 dJ0_indexOf_7cf53_20 (by decide) ?_
  refine x_iret dJ0_indexOf_7cf53_36 rfl ?_
  rw [hQ]
  exact ⟨rfl, rfl⟩
set_option maxHeartbeats 1000000 in
set_option maxRecDepth 100000 in
theorem mJ0_indexOf_0f7a4 {g : gX} (V : vM) (i : Nat) (hi : i < 2) (c : Int32) (hc : 0 ≤ c ∧ c ≤ 127) : MM g jJ0_indexOf_0f7a4 V [.ref (g.2.2.2.2.1 i), .int c] (pI V (ixS i c)) := by
  refine MM.of plJ0_indexOf_0f7a4 (Nat.le_of_ble_eq_true rfl) ?_
  obtain ⟨Q, hQ⟩ : ∃ Q : Option Value → vM → Prop, Q = (pI V (ixS i c)) := ⟨_, rfl⟩
  rw [← hQ]
  show XX g jJ0_indexOf_0f7a4 Q V 0 [(0, .ref (g.2.2.2.2.1 i)), (1, .int c)] []
  refine x_aload_n dJ0_indexOf_0f7a4_0 0 rfl ?_
  refine x_iload_n dJ0_indexOf_0f7a4_1 1 rfl ?_
  refine x_iconst (v := 0) dJ0_indexOf_0f7a4_2 (by decide) ?_
  refine x_callVS (K := jJ0_indexOf_7cf53) [.int c, .int 0] lk_J0_633 ⟨⟨rfl, rfl⟩, Nat.le_of_ble_eq_true rfl, Nat.le_of_ble_eq_true rfl⟩ hi rfl (mJ0_indexOf_7cf53 V i hi c hc) rfl (Nat.le_of_ble_eq_true rfl) rfl dJ0_indexOf_0f7a4_3 (kpI ?_)
  refine x_iret dJ0_indexOf_0f7a4_6 rfl ?_
  rw [hQ]
  exact ⟨rfl, rfl⟩
