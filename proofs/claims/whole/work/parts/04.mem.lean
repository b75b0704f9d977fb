/-- class ci of the list: its name, fields, number of fields, and what the tables say of its layout -/
def CK (ci : Nat) (C : String) (T : u_T) (N : Nat) : Prop := vwCl[ci]? = some (C, T, N) ∧ (∀ w ∈ u_ws C T N, w ∈ wA) ∧ (∃ ty : Nat → FieldType, ∀ k, k < N → parseFieldDescriptor (T k).2.2.1 = some (ty k)) ∧ ∀ a, a < N → ∀ b, b < N → a ≠ b → (T a).2.1 ≠ (T b).2.1
/-- entry idx of the pool of class own is field i of class ci -/
def FL (own : String) (idx ci i : Nat) : Prop := ∃ (C : String) (T : u_T) (N : Nat), CK ci C T N ∧ i < N ∧ Cond.fieldLink own idx (T i).1 (T i).2.1 (T i).2.2.1 ∈ wA
/-- the same, and the field isn't final and is of that type -/
def FP (own : String) (idx ci i : Nat) (ty : FieldType) : Prop := ∃ (C : String) (T : u_T) (N : Nat), CK ci C T N ∧ i < N ∧ Cond.fieldLink own idx (T i).1 (T i).2.1 (T i).2.2.1 ∈ wA ∧ (T i).2.2.2 = false ∧ parseFieldDescriptor (T i).2.2.1 = some ty
theorem x_getI {g : gX} {J : MD} {Qf : List Frame → Array Value → State → State → Prop} {V : vM} {pc : Nat} {lv : List (Nat × Value)} {st : List Value} {idx ci i a : Nat} {rs : List (Option Nat)} (F : FL J.1 idx ci i) (hs : shp[a]? = some (.inr (ci, rs))) (hi : rs[i]? = some none) (hd : decode J.2.2.1 pc = .ok (.getfield idx, 3)) (k : YY g J Qf V (pc + 3) lv (.int (V a i) :: st)) : YY g J Qf V pc lv (.ref (g.2.1 a) :: st) := by
  obtain ⟨C, T, N, ⟨h1, h2, -, -⟩, h5, h6⟩ := F
  intro p e s m args below meth c H locs ls E hP hS hl
  refine va_get E.1 E.2.1 E.2.2.2.2.2.2.1 h2 E.2.2.2.2.2.1 E.2.2.2.2.2.2.2.1.1 hP a (ws_get hs) h1 i h5 (E.2.2.2.2.2.2.1 _ h6) (fun _ h => h) ?_ hd (k p e s m args below meth c H locs ls E hP hS hl)
  have := fsOf_int g.2.1 (V a) rs 0 i hi
  rwa [Nat.zero_add] at this
theorem x_getR {g : gX} {J : MD} {Qf : List Frame → Array Value → State → State → Prop} {V : vM} {pc : Nat} {lv : List (Nat × Value)} {st : List Value} {idx ci i a t : Nat} {rs : List (Option Nat)} (F : FL J.1 idx ci i) (hs : shp[a]? = some (.inr (ci, rs))) (hi : rs[i]? = some (some t)) (hd : decode J.2.2.1 pc = .ok (.getfield idx, 3)) (k : YY g J Qf V (pc + 3) lv (.ref (g.2.1 t) :: st)) : YY g J Qf V pc lv (.ref (g.2.1 a) :: st) := by
  obtain ⟨C, T, N, ⟨h1, h2, -, -⟩, h5, h6⟩ := F
  intro p e s m args below meth c H locs ls E hP hS hl
  exact va_get E.1 E.2.1 E.2.2.2.2.2.2.1 h2 E.2.2.2.2.2.1 E.2.2.2.2.2.2.2.1.1 hP a (ws_get hs) h1 i h5 (E.2.2.2.2.2.2.1 _ h6) (fun _ h => h) (fsOf_ref g.2.1 (V a) rs 0 i hi) hd (k p e s m args below meth c H locs ls E hP hS hl)
theorem x_putT {g : gX} {J : MD} {Qf : List Frame → Array Value → State → State → Prop} {V : vM} {pc : Nat} {lv : List (Nat × Value)} {st : List Value} {idx ci i a : Nat} {ty : FieldType} {x : Int32} {rs : List (Option Nat)} (F : FP J.1 idx ci i ty) (hs : shp[a]? = some (.inr (ci, rs))) (hi : rs[i]? = some none) (hn : narrow ty (.int x) = .int x) (hf : fits ty (.int x) = true) (hd : decode J.2.2.1 pc = .ok (.putfield idx, 3)) (k : YY g J Qf (uM V a i x) (pc + 3) lv st) : YY g J Qf V pc lv (.int x :: .ref (g.2.1 a) :: st) := by
  obtain ⟨C, T, N, ⟨h1, h2, ⟨ty0, h3⟩, h4⟩, h5, h6, h7, h8⟩ := F
  intro p e s m args below meth c H locs ls E hP hS hl
  refine va_put E.1 E.2.1 E.2.2.2.2.2.2.1 h2 ty0 h3 h4 E.2.2.2.2.2.1 E.2.2.2.2.2.2.2.1.1 hP (ws_D E.2.2.2.2.2.2.2.2.2.1 V) hS a (ws_get hs) h1 i h5 (E.2.2.2.2.2.2.1 _ h6) (fun _ h => h) h7 h8 hn hf ?_ hd (fun H1 locs1 hP1 hD1 hS1 => ?_)
  · rw [fsOf_len]
    exact (List.getElem?_eq_some_iff.mp hi).1
  · rw [fsOf_set g.2.1 (V a) x rs 0 i hi, Nat.zero_add] at hP1
    have := ws_set (g := g) (V := V) hs (upd (V a) i x)
    rw [← uM_cM] at this
    rw [show (Sum.inr (ci, fsOf g.2.1 (upd (V a) i x) 0 rs) : va_E) = cellOf g (upd (V a) i x) (.inr (ci, rs)) from rfl, this] at hP1
    exact k p e s m args below meth c H1 locs1 ls E hP1 hS1 hl
theorem x_putI {g : gX} {J : MD} {Qf : List Frame → Array Value → State → State → Prop} {V : vM} {pc : Nat} {lv : List (Nat × Value)} {st : List Value} {idx ci i a : Nat} {x : Int32} {rs : List (Option Nat)} (F : FP J.1 idx ci i .int) (hs : shp[a]? = some (.inr (ci, rs))) (hi : rs[i]? = some none) (hd : decode J.2.2.1 pc = .ok (.putfield idx, 3)) (k : YY g J Qf (uM V a i x) (pc + 3) lv st) : YY g J Qf V pc lv (.int x :: .ref (g.2.1 a) :: st) := x_putT F hs hi rfl rfl hd k
theorem x_putZ {g : gX} {J : MD} {Qf : List Frame → Array Value → State → State → Prop} {V : vM} {pc : Nat} {lv : List (Nat × Value)} {st : List Value} {idx ci i a : Nat} {x : Int32} {rs : List (Option Nat)} (F : FP J.1 idx ci i .boolean) (hs : shp[a]? = some (.inr (ci, rs))) (hi : rs[i]? = some none) (hx : x = 0 ∨ x = 1) (hd : decode J.2.2.1 pc = .ok (.putfield idx, 3)) (k : YY g J Qf (uM V a i x) (pc + 3) lv st) : YY g J Qf V pc lv (.int x :: .ref (g.2.1 a) :: st) := by
  rcases hx with rfl | rfl
  · exact x_putT F hs hi (by decide +kernel) (by decide +kernel) hd k
  · exact x_putT F hs hi (by decide +kernel) (by decide +kernel) hd k
theorem x_iald {g : gX} {J : MD} {Qf : List Frame → Array Value → State → State → Prop} {V : vM} {pc : Nat} {lv : List (Nat × Value)} {st : List Value} {a N : Nat} {i : Int32} (hs : shp[a]? = some (.inl (0, N))) (hin : vp_in i N) (hd : decode J.2.2.1 pc = .ok (.iaload, 1)) (k : YY g J Qf V (pc + 1) lv (.int (V a i.toNatClampNeg) :: st)) : YY g J Qf V pc lv (.int i :: .ref (g.2.1 a) :: st) :=
  fun p e s m args below meth c H locs ls E hP hS hl => va_iald E.1 E.2.1 E.2.2.2.2.2.2.2.1.1 hP a 0 (ws_get hs) rfl hin hd (k p e s m args below meth c H locs ls E hP hS hl)
theorem x_zald {g : gX} {J : MD} {Qf : List Frame → Array Value → State → State → Prop} {V : vM} {pc : Nat} {lv : List (Nat × Value)} {st : List Value} {a N : Nat} {i : Int32} (hs : shp[a]? = some (.inl (1, N))) (hin : vp_in i N) (hd : decode J.2.2.1 pc = .ok (.baload, 1)) (k : YY g J Qf V (pc + 1) lv (.int (V a i.toNatClampNeg) :: st)) : YY g J Qf V pc lv (.int i :: .ref (g.2.1 a) :: st) :=
  fun p e s m args below meth c H locs ls E hP hS hl => va_zald E.1 E.2.1 E.2.2.2.2.2.2.2.1.1 hP a 1 (ws_get hs) rfl hin hd (k p e s m args below meth c H locs ls E hP hS hl)
theorem x_cald {g : gX} {J : MD} {Qf : List Frame → Array Value → State → State → Prop} {V : vM} {pc : Nat} {lv : List (Nat × Value)} {st : List Value} {a N : Nat} {i : Int32} (hs : shp[a]? = some (.inl (2, N))) (hin : vp_in i N) (hd : decode J.2.2.1 pc = .ok (.caload, 1)) (k : YY g J Qf V (pc + 1) lv (.int (V a i.toNatClampNeg) :: st)) : YY g J Qf V pc lv (.int i :: .ref (g.2.1 a) :: st) :=
  fun p e s m args below meth c H locs ls E hP hS hl => va_cald E.1 E.2.1 E.2.2.2.2.2.2.2.1.1 hP a 2 (ws_get hs) rfl hin hd (k p e s m args below meth c H locs ls E hP hS hl)
theorem x_iast {g : gX} {J : MD} {Qf : List Frame → Array Value → State → State → Prop} {V : vM} {pc : Nat} {lv : List (Nat × Value)} {st : List Value} {a N : Nat} {i x : Int32} (hs : shp[a]? = some (.inl (0, N))) (hin : vp_in i N) (hd : decode J.2.2.1 pc = .ok (.iastore, 1)) (k : YY g J Qf (uM V a i.toNatClampNeg x) (pc + 1) lv st) : YY g J Qf V pc lv (.int x :: .int i :: .ref (g.2.1 a) :: st) := by
  intro p e s m args below meth c H locs ls E hP hS hl
  refine va_iast E.1 E.2.1 E.2.2.2.2.2.2.2.1.1 hP (ws_D E.2.2.2.2.2.2.2.2.2.1 V) hS a 0 (ws_get hs) rfl hin hd (fun H1 locs1 hP1 hD1 hS1 => ?_)
  have := ws_set (g := g) (V := V) hs (upd (V a) i.toNatClampNeg x)
  rw [← uM_cM] at this
  rw [show (Sum.inl (g.2.2.1 0, N, Sum.inl (upd (V a) i.toNatClampNeg x)) : va_E) = cellOf g (upd (V a) i.toNatClampNeg x) (.inl (0, N)) from rfl, this] at hP1
  exact k p e s m args below meth c H1 locs1 ls E hP1 hS1 hl
theorem x_zast {g : gX} {J : MD} {Qf : List Frame → Array Value → State → State → Prop} {V : vM} {pc : Nat} {lv : List (Nat × Value)} {st : List Value} {a N : Nat} {i x : Int32} (hs : shp[a]? = some (.inl (1, N))) (hin : vp_in i N) (hd : decode J.2.2.1 pc = .ok (.bastore, 1)) (k : YY g J Qf (uM V a i.toNatClampNeg (vp_nar .boolean x)) (pc + 1) lv st) : YY g J Qf V pc lv (.int x :: .int i :: .ref (g.2.1 a) :: st) := by
  intro p e s m args below meth c H locs ls E hP hS hl
  refine va_zast E.1 E.2.1 E.2.2.2.2.2.2.2.1.1 hP (ws_D E.2.2.2.2.2.2.2.2.2.1 V) hS a 1 (ws_get hs) rfl hin hd (fun H1 locs1 hP1 hD1 hS1 => ?_)
  have := ws_set (g := g) (V := V) hs (upd (V a) i.toNatClampNeg (vp_nar .boolean x))
  rw [← uM_cM] at this
  rw [show (Sum.inl (g.2.2.1 1, N, Sum.inl (upd (V a) i.toNatClampNeg (vp_nar .boolean x))) : va_E) = cellOf g (upd (V a) i.toNatClampNeg (vp_nar .boolean x)) (.inl (1, N)) from rfl, this] at hP1
  exact k p e s m args below meth c H1 locs1 ls E hP1 hS1 hl
theorem x_cast {g : gX} {J : MD} {Qf : List Frame → Array Value → State → State → Prop} {V : vM} {pc : Nat} {lv : List (Nat × Value)} {st : List Value} {a N : Nat} {i x : Int32} (hs : shp[a]? = some (.inl (2, N))) (hin : vp_in i N) (hd : decode J.2.2.1 pc = .ok (.castore, 1)) (k : YY g J Qf (uM V a i.toNatClampNeg (vp_nar .char x)) (pc + 1) lv st) : YY g J Qf V pc lv (.int x :: .int i :: .ref (g.2.1 a) :: st) := by
  intro p e s m args below meth c H locs ls E hP hS hl
  refine va_cast E.1 E.2.1 E.2.2.2.2.2.2.2.1.1 hP (ws_D E.2.2.2.2.2.2.2.2.2.1 V) hS a 2 (ws_get hs) rfl hin hd (fun H1 locs1 hP1 hD1 hS1 => ?_)
  have := ws_set (g := g) (V := V) hs (upd (V a) i.toNatClampNeg (vp_nar .char x))
  rw [← uM_cM] at this
  rw [show (Sum.inl (g.2.2.1 2, N, Sum.inl (upd (V a) i.toNatClampNeg (vp_nar .char x))) : va_E) = cellOf g (upd (V a) i.toNatClampNeg (vp_nar .char x)) (.inl (2, N)) from rfl, this] at hP1
  exact k p e s m args below meth c H1 locs1 ls E hP1 hS1 hl
theorem x_alen {g : gX} {J : MD} {Qf : List Frame → Array Value → State → State → Prop} {V : vM} {pc : Nat} {lv : List (Nat × Value)} {st : List Value} {a t N : Nat} {v : Int32} (hs : shp[a]? = some (.inl (t, N))) (ht : t < 4) (hv : Int32.ofNat N = v) (hd : decode J.2.2.1 pc = .ok (.arraylength, 1)) (k : YY g J Qf V (pc + 1) lv (.int v :: st)) : YY g J Qf V pc lv (.ref (g.2.1 a) :: st) := by
  intro p e s m args below meth c H locs ls E hP hS hl
  have : ∃ ty, (tysOf g)[t]? = some (g.2.2.1 t, ty) := by
    match t, ht with
    | 0, _ => exact ⟨_, rfl⟩
    | 1, _ => exact ⟨_, rfl⟩
    | 2, _ => exact ⟨_, rfl⟩
    | 3, _ => exact ⟨_, rfl⟩
  obtain ⟨ty, hty⟩ := this
  exact va_alen E.1 E.2.1 E.2.2.2.2.2.2.2.1.1 hP a t (ws_get hs) hty hv hd (k p e s m args below meth c H locs ls E hP hS hl)
theorem x_aaldP {g : gX} {J : MD} {Qf : List Frame → Array Value → State → State → Prop} {V : vM} {pc : Nat} {lv : List (Nat × Value)} {st : List Value} {a N : Nat} {i : Int32} (hs : shp[a]? = some (.inl (3, N))) (hin : vp_in i N) (hd : decode J.2.2.1 pc = .ok (.aaload, 1)) (k : YY g J Qf V (pc + 1) lv (.ref (g.2.1 (42 + i.toNatClampNeg)) :: st)) : YY g J Qf V pc lv (.int i :: .ref (g.2.1 a) :: st) := by
  intro p e s m args below meth c H locs ls E hP hS hl
  have hK := E.2.2.2.2.2.2.2.1.1
  have hlt : i.toNatClampNeg < N := Nat.not_le.mp fun q => hin (Or.inr q)
  refine W.aald (v := .ref (g.2.1 (42 + i.toNatClampNeg))) (ty := .array .int) E.1 E.2.1 (hP a _ (ws_get hs)) ((hK.2 3 _ rfl).1 N (fun j => va_rf (pcF g N j))) rfl (fun q => by cases q) ?_ ?_ rfl rfl hd (k p e s m args below meth c H locs ls E hP hS hl)
  · show ¬ (i < 0 ∨ (arrV _ _ _).slots.size ≤ _)
    rw [arrV_size]
    exact hin
  · show (arrV _ _ _).slots[_]? = _
    rw [arrV_read _ _ hlt]
    simp [va_rf, pcF, hlt]
theorem x_gpts {g : gX} {J : MD} {Qf : List Frame → Array Value → State → State → Prop} {V : vM} {pc : Nat} {lv : List (Nat × Value)} {st : List Value} {own : String} {idx : Nat} (hw : ∀ U : State, wrd g U → va_Nw (.fieldLinkNest J.1 idx "PathFlattener" "POINTS" "[I" "PathFlattener") U) (hd : decode J.2.2.1 pc = .ok (.getstatic idx, 3)) (k : YY g J Qf V (pc + 3) lv (.ref g.2.2.2.1 :: st)) : YY g J Qf V pc lv st :=
  fun p e s m args below meth c H locs ls E hP hS hl => va_getsN E.1 E.2.1 E.2.2.2.2.2.2.2.2.1.1 hS E.2.2.2.2.2.1 (va_Nw.use rfl (hw s E.2.2.2.2.2.2.2.1.2)) (fun _ h => h) hd (k p e s m args below meth c H locs ls E hP hS hl)
theorem x_pald {g : gX} {J : MD} {Qf : List Frame → Array Value → State → State → Prop} {V : vM} {pc : Nat} {lv : List (Nat × Value)} {st : List Value} {i : Int32} (hin : vp_in i 5) (hd : decode J.2.2.1 pc = .ok (.iaload, 1)) (k : YY g J Qf V (pc + 1) lv (.int (pV i.toNatClampNeg) :: st)) : YY g J Qf V pc lv (.int i :: .ref g.2.2.2.1 :: st) :=
  fun p e s m args below meth c H locs ls E hP hS hl => va_ti E.1 E.2.1 E.2.2.2.2.2.2.2.2.1.2.1 hS hin rfl hd (k p e s m args below meth c H locs ls E hP hS hl)
theorem bEnv_blind (g : gX) (V : vM) (as : List Value) : FrameBlind (va_Pc as (bEnv g V)) := by
  intro a U fr mk h
  obtain ⟨h1, ⟨h2, h3⟩, h4, h5, h6⟩ := h
  exact ⟨h1, ⟨va_K.moved (u := U) (U := U.calling fr mk a) (Vm.Alike.refl U.vm) h2, wrd.same rfl h3⟩, stat.moved (u := U) (U := U.calling fr mk a) (Vm.Alike.refl U.vm) h4, h5, h6⟩
theorem ENV.call {g : gX} {J : MD} {p : Program} {s : State} {m : MethodId} {args : Array Value} {meth : Method} {c : Code} {V : vM} {H : Heap} {locs : List Loc} (E : ENV g J p s m args meth c) (hP : va_P g.1 vwCl (wsOf g V) H) (hS : va_S (gA g) s.heap H locs) (as : List Value) :
    ∀ U : State, U.heap = H → s.WarmedH U.vm → va_Pc as (bEnv g V) as.toArray U := by
  intro U hU hW
  refine ⟨rfl, ⟨va_K.moved hW.alike E.2.2.2.2.2.2.2.1.1, wrd.warm hW E.2.2.2.2.2.2.2.1.2⟩, ?_, E.2.2.2.2.2.2.2.2.2.1, by rw [hU]; exact hP⟩
  rw [hU]
  exact stat.moved hW.alike (stat.kept E.2.2.2.2.2.2.2.2.1 hS.2.1)
theorem va_callQ {p : Program} {l : Launch} {e : Env} {R : Room} {s : State} {m : MethodId} {args : Array Value} {below : List Frame} {meth : Method} {c : Code} {H : Heap} {locs : List Loc} {cells slots : Nat} {Qz : State → Prop} {pc : Nat} {ls : Array Slot} {rest st0 : List Value} {a : Array Value} {H0 : Heap} {g : gX} {Q1 : Option Value → vM → Prop}
    (hr : va_Run p l e R s m args below meth c H locs cells slots 0 0 (F0 m pc ls st0) rest (QcOf g Q1 a) (gA g)) (hS : va_S (gA g) H0 H locs)
    (kk : ∀ (r : Option Value) (V1 : vM) (H1 : Heap) (locs1 : List Loc), Q1 r V1 → va_P g.1 vwCl (wsOf g V1) H1 → va_S (gA g) H0 H1 locs1 → W p l e R s m args below meth c H1 locs1 cells slots Qz (F0 m (pc + 3) ls (r.toList ++ rest))) : W p l e R s m args below meth c H locs cells slots Qz (F0 m pc ls st0) := by
  intro T hT X
  obtain ⟨v, st₀, t, T', L, h0, X', hL, e1, e2, ⟨⟨r, V1, hv, hq, hp⟩, hz, hk⟩, st⟩ := hr T hT X
  cases hv
  rw [h0] at hz hk
  obtain ⟨t2, a1, b1⟩ := kk _ V1 T'.heap (locs ++ L) hq (by rw [e1]; exact hp)
    ⟨Nat.le_trans hS.1 (by rw [e1]; exact hz), fun q h1 h2 => by rw [e1, hk q (Nat.lt_of_lt_of_le h1 hS.1) h2]; exact hS.2.1 q h1 h2, fun q hq => by
      rcases List.mem_append.mp hq with h | h
      · exact hS.2.2 q h
      · exact hL q h⟩ T' rfl X'
  exact ⟨t2, st t2 a1, b1⟩
/-- what a call of K from class own by the pool's entry idx needs of the tables: virtual, static, static of a nest mate -/
def KB (K : MD) (n : Nat) : Prop := Cond.code K.2.1 K.2.2.1 K.2.2.2.1 K.2.2.2.2.1 ∈ wA ∧ Cond.initialized K.2.1.cls ∈ wA ∧ (K.2.1.cls ≠ "java/lang/invoke/MethodHandle" ∧ K.2.1.cls ≠ "java/lang/invoke/VarHandle" ∧ (parseMethodDescriptor K.2.1.desc).map (fun d => d.parameters.length) = some n)
def LV (own : String) (idx : Nat) (K : MD) (n : Nat) : Prop := KB K n ∧ K.2.1.cls = K.1 ∧ Cond.methodLink own idx K.2.1 ∈ wA ∧ Cond.instanceMethod K.2.1 ∈ wA ∧ Cond.selects K.1 K.2.1 K.2.1 ∈ wA
def LT (own : String) (idx : Nat) (K : MD) (n : Nat) : Prop := KB K n ∧ Cond.methodLink own idx K.2.1 ∈ wA ∧ Cond.static K.2.1 ∈ wA
/-- the callee's room within the caller's -/
def RM (J K : MD) : Prop := ((rmO K).cells = 0 ∧ (rmO K).slots = 0) ∧ (rmO K).frames + 1 ≤ (rmO J).frames ∧ 8 + (K.2.2.2.1 + 11) + (rmO K).locals ≤ (rmO J).locals
theorem KB.good {K : MD} {n : Nat} (h : KB K n) : GoodIn wA (wsJ K) := by
  intro w hw
  rcases List.mem_cons.mp hw with rfl | hw
  · exact wA_good _ h.1
  · exact wA_good w hw
set_option maxHeartbeats 1000000 in
theorem x_callV {g : gX} {J : MD} {Qf : List Frame → Array Value → State → State → Prop} {V : vM} {pc : Nat} {lv : List (Nat × Value)} {st : List Value} {K : MD} {idx n a ci : Nat} {rs : List (Option Nat)} {T : u_T} {N : Nat} {Q1 : Option Value → vM → Prop} {stk : List Value} (as : List Value) (L : LV J.1 idx K n) (hRM : RM J K) (hs : shp[a]? = some (.inr (ci, rs))) (hc : vwCl[ci]? = some (K.1, T, N)) (hM : MM g K V (.ref (g.2.1 a) :: as) Q1) (hlen : as.length = n) (hst : (st.map fun v => v.category).sum ≤ 8) (hstk : stk = as.reverse ++ .ref (g.2.1 a) :: st) (hd : decode J.2.2.1 pc = .ok (.invokevirtual idx, 3))
    (k : ∀ (r : Option Value) (V1 : vM), Q1 r V1 → YY g J Qf V1 (pc + 3) lv (r.toList ++ st)) : YY g J Qf V pc lv stk := by
  subst hstk
  intro p e s m args below meth c H locs ls E hP hS hl
  obtain ⟨hKB, h2, h3, h4, h5⟩ := L
  have hts := E.2.2.2.2.2.2.1
  have hG : GoodIn wA (wsV J.1 idx K.1 K.2.1 (wsJ K)) := by
    intro w hw
    unfold wsV at hw
    rcases List.mem_append.mp hw with hw | hw
    · simp only [List.mem_cons, List.not_mem_nil, or_false] at hw
      rcases hw with rfl | rfl | rfl | rfl
      · exact wA_good _ h3
      · exact wA_good _ h4
      · exact wA_good _ h5
      · rw [← h2]; exact wA_good _ hKB.2.1
    · exact hKB.good w hw
  have hrun := va_runV (p := p) (l := gl g) (e := e) (R := rmO J) (s := s) (m := m) (args := args) (below := below) (meth := meth) (c := c) (H := H) (locs := locs) (cells := (rmO J).cells) (slots := (rmO J).slots) (g := F0 m pc ls (as.reverse ++ .ref (g.2.1 a) :: st)) (As := as) (rest := st) (b := g.2.1 a) (C := K.1) ⟨E.1, E.2.1, E.2.2.1, E.2.2.2.2.2.1, hts⟩ hM (cwV n hts hG rfl hRM.1.1 hRM.1.2 ⟨h2, hKB.2.2⟩ hRM.2) ⟨bEnv_blind g V _, va_recv E.2.2.2.2.2.2.2.1.1 hP hc (ws_get hs), ENV.call E hP hS _⟩ rfl hlen hl.1 rfl (lv_room hst) hd ⟨Nat.le_refl _, Nat.le_refl _⟩
  exact va_callQ hrun hS (fun r V1 H1 locs1 hq hP1 hS1 => k r V1 hq p e s m args below meth c H1 locs1 ls E hP1 hS1 hl)
set_option maxHeartbeats 1000000 in
theorem x_callS {g : gX} {J : MD} {Qf : List Frame → Array Value → State → State → Prop} {V : vM} {pc : Nat} {lv : List (Nat × Value)} {st : List Value} {K : MD} {idx n : Nat} {Q1 : Option Value → vM → Prop} {stk : List Value} (as : List Value) (L : LT J.1 idx K n) (hRM : RM J K) (hM : MM g K V as Q1) (hlen : as.length = n) (hst : (st.map fun v => v.category).sum ≤ 8) (hstk : stk = as.reverse ++ st) (hd : decode J.2.2.1 pc = .ok (.invokestatic idx, 3))
    (k : ∀ (r : Option Value) (V1 : vM), Q1 r V1 → YY g J Qf V1 (pc + 3) lv (r.toList ++ st)) : YY g J Qf V pc lv stk := by
  subst hstk
  intro p e s m args below meth c H locs ls E hP hS hl
  obtain ⟨hKB, h3, h4⟩ := L
  have hts := E.2.2.2.2.2.2.1
  have hG : GoodIn wA (va_wsS J.1 idx K.2.1 (wsJ K)) := by
    intro w hw
    unfold va_wsS at hw
    rcases List.mem_append.mp hw with hw | hw
    · simp only [List.mem_cons, List.not_mem_nil, or_false] at hw
      rcases hw with rfl | rfl | rfl
      · exact wA_good _ h3
      · exact wA_good _ h4
      · exact wA_good _ hKB.2.1
    · exact hKB.good w hw
  have hrun := va_runS (p := p) (l := gl g) (e := e) (R := rmO J) (s := s) (m := m) (args := args) (below := below) (meth := meth) (c := c) (H := H) (locs := locs) (cells := (rmO J).cells) (slots := (rmO J).slots) (g := F0 m pc ls (as.reverse ++ st)) (As := as) (rest := st) ⟨E.1, E.2.1, E.2.2.1, E.2.2.2.2.2.1, hts⟩ hM (va_cwS n hts hG rfl hRM.1.1 hRM.1.2 hKB.2.2 hRM.2) ⟨bEnv_blind g V _, ENV.call E hP hS _⟩ rfl hlen hl.1 rfl (lv_room hst) hd ⟨Nat.le_refl _, Nat.le_refl _⟩
  exact va_callQ hrun hS (fun r V1 H1 locs1 hq hP1 hS1 => k r V1 hq p e s m args below meth c H1 locs1 ls E hP1 hS1 hl)
set_option maxHeartbeats 1000000 in
theorem x_callSN {g : gX} {J : MD} {Qf : List Frame → Array Value → State → State → Prop} {V : vM} {pc : Nat} {lv : List (Nat × Value)} {st : List Value} {K : MD} {idx n : Nat} {host : String} {Q1 : Option Value → vM → Prop} {stk : List Value} (as : List Value) (hKB : KB K n) (hstat : Cond.static K.2.1 ∈ wA) (hw : ∀ U : State, wrd g U → va_Nw (.methodLinkNest J.1 idx K.2.1 host) U) (hRM : RM J K) (hM : MM g K V as Q1) (hlen : as.length = n) (hst : (st.map fun v => v.category).sum ≤ 8) (hstk : stk = as.reverse ++ st) (hd : decode J.2.2.1 pc = .ok (.invokestatic idx, 3))
    (k : ∀ (r : Option Value) (V1 : vM), Q1 r V1 → YY g J Qf V1 (pc + 3) lv (r.toList ++ st)) : YY g J Qf V pc lv stk := by
  subst hstk
  intro p e s m args below meth c H locs ls E hP hS hl
  have hts := E.2.2.2.2.2.2.1
  have hrun := va_runSN (p := p) (l := gl g) (e := e) (R := rmO J) (s := s) (m := m) (args := args) (below := below) (meth := meth) (c := c) (H := H) (locs := locs) (cells := (rmO J).cells) (slots := (rmO J).slots) (g := F0 m pc ls (as.reverse ++ st)) (As := as) (rest := st) ⟨E.1, E.2.1, E.2.2.1, E.2.2.2.2.2.1, hts⟩ hM ⟨va_cnB n hts hKB.good rfl hRM.1.1 hRM.1.2 (hw s E.2.2.2.2.2.2.2.1.2) (hts _ hKB.2.1) hKB.2.2 hRM.2, hts _ hstat, trivial⟩ ⟨bEnv_blind g V _, ENV.call E hP hS _⟩ rfl hlen hl.1 rfl (lv_room hst) hd ⟨Nat.le_refl _, Nat.le_refl _⟩
  exact va_callQ hrun hS (fun r V1 H1 locs1 hq hP1 hS1 => k r V1 hq p e s m args below meth c H1 locs1 ls E hP1 hS1 hl)
theorem x_mmax {g : gX} {J : MD} {Qf : List Frame → Array Value → State → State → Prop} {V : vM} {pc : Nat} {lv : List (Nat × Value)} {st : List Value} {x y : Int32} {idx : Nat} (hw : Cond.methodLink J.1 idx Lib.Math.max.name ∈ wA) (h2 : Cond.static Lib.Math.max.name ∈ wA) (h3 : Cond.initialized "java/lang/Math" ∈ wA) (h4 : Cond.code Lib.Math.max.name Lib.Math.max.code 2 (some .int) ∈ wA) (hf : 1 ≤ (rmO J).frames) (hlo : (st.map fun v => v.category).sum + 13 ≤ (rmO J).locals) (hd : decode J.2.2.1 pc = .ok (.invokestatic idx, 3)) (k : YY g J Qf V (pc + 3) lv (.int (if x < y then y else x) :: st)) : YY g J Qf V pc lv (.int y :: .int x :: st) :=
  fun p e s m args below meth c H locs ls E hP hS hl => va_mmax E.1 E.2.1 (E.2.2.1.trans hl.1.symm) E.2.2.2.2.2.1 (E.2.2.2.2.2.2.1 _ hw) (E.2.2.2.2.2.2.1 _ h2) (E.2.2.2.2.2.2.1 _ h3) (E.2.2.2.2.2.2.1 _ h4) hf hlo (Nat.le_refl _) (Nat.le_refl _) hd (k p e s m args below meth c H locs ls E hP hS hl)
theorem x_mmin {g : gX} {J : MD} {Qf : List Frame → Array Value → State → State → Prop} {V : vM} {pc : Nat} {lv : List (Nat × Value)} {st : List Value} {x y : Int32} {idx : Nat} (hw : Cond.methodLink J.1 idx Lib.Math.min.name ∈ wA) (h2 : Cond.static Lib.Math.min.name ∈ wA) (h3 : Cond.initialized "java/lang/Math" ∈ wA) (h4 : Cond.code Lib.Math.min.name Lib.Math.min.code 2 (some .int) ∈ wA) (hf : 1 ≤ (rmO J).frames) (hlo : (st.map fun v => v.category).sum + 13 ≤ (rmO J).locals) (hd : decode J.2.2.1 pc = .ok (.invokestatic idx, 3)) (k : YY g J Qf V (pc + 3) lv (.int (if y < x then y else x) :: st)) : YY g J Qf V pc lv (.int y :: .int x :: st) :=
  fun p e s m args below meth c H locs ls E hP hS hl => va_mmin E.1 E.2.1 (E.2.2.1.trans hl.1.symm) E.2.2.2.2.2.1 (E.2.2.2.2.2.2.1 _ hw) (E.2.2.2.2.2.2.1 _ h2) (E.2.2.2.2.2.2.1 _ h3) (E.2.2.2.2.2.2.1 _ h4) hf hlo (Nat.le_refl _) (Nat.le_refl _) hd (k p e s m args below meth c H locs ls E hP hS hl)
theorem x_mabs {g : gX} {J : MD} {Qf : List Frame → Array Value → State → State → Prop} {V : vM} {pc : Nat} {lv : List (Nat × Value)} {st : List Value} {x : Int32} {idx : Nat} (hw : Cond.methodLink J.1 idx Lib.Math.abs.name ∈ wA) (h2 : Cond.static Lib.Math.abs.name ∈ wA) (h3 : Cond.initialized "java/lang/Math" ∈ wA) (h4 : Cond.code Lib.Math.abs.name Lib.Math.abs.code 1 (some .int) ∈ wA) (hf : 1 ≤ (rmO J).frames) (hlo : (st.map fun v => v.category).sum + 13 ≤ (rmO J).locals) (hd : decode J.2.2.1 pc = .ok (.invokestatic idx, 3)) (k : YY g J Qf V (pc + 3) lv (.int (if 0 ≤ x then x else 0 - x) :: st)) : YY g J Qf V pc lv (.int x :: st) :=
  fun p e s m args below meth c H locs ls E hP hS hl => va_mabs E.1 E.2.1 (E.2.2.1.trans hl.1.symm) E.2.2.2.2.2.1 (E.2.2.2.2.2.2.1 _ hw) (E.2.2.2.2.2.2.1 _ h2) (E.2.2.2.2.2.2.1 _ h3) (E.2.2.2.2.2.2.1 _ h4) hf hlo (Nat.le_refl _) (Nat.le_refl _) hd (k p e s m args below meth c H locs ls E hP hS hl)
theorem x_mmaxL {g : gX} {J : MD} {Qf : List Frame → Array Value → State → State → Prop} {V : vM} {pc : Nat} {lv : List (Nat × Value)} {st : List Value} {x y : Int64} {idx : Nat} (hw : Cond.methodLink J.1 idx Lib.MathLoose.max_long.x ∈ wA) (h2 : Cond.static Lib.MathLoose.max_long.x ∈ wA) (h3 : Cond.initialized "java/lang/Math" ∈ wA) (h4 : Cond.code Lib.MathLoose.max_long.x Lib.MathLoose.max_long.code 4 (some .long) ∈ wA) (hf : 1 ≤ (rmO J).frames) (hlo : (st.map fun v => v.category).sum + 15 ≤ (rmO J).locals) (hd : decode J.2.2.1 pc = .ok (.invokestatic idx, 3)) (k : YY g J Qf V (pc + 3) lv (.long (if y < x then x else y) :: st)) : YY g J Qf V pc lv (.long y :: .long x :: st) :=
  fun p e s m args below meth c H locs ls E hP hS hl => va_mmax_long E.1 E.2.1 (E.2.2.1.trans hl.1.symm) E.2.2.2.2.2.1 (E.2.2.2.2.2.2.1 _ hw) (E.2.2.2.2.2.2.1 _ h2) (E.2.2.2.2.2.2.1 _ h3) (E.2.2.2.2.2.2.1 _ h4) hf hlo (Nat.le_refl _) (Nat.le_refl _) hd (k p e s m args below meth c H locs ls E hP hS hl)
theorem x_mminL {g : gX} {J : MD} {Qf : List Frame → Array Value → State → State → Prop} {V : vM} {pc : Nat} {lv : List (Nat × Value)} {st : List Value} {x y : Int64} {idx : Nat} (hw : Cond.methodLink J.1 idx Lib.MathLoose.min_long.x ∈ wA) (h2 : Cond.static Lib.MathLoose.min_long.x ∈ wA) (h3 : Cond.initialized "java/lang/Math" ∈ wA) (h4 : Cond.code Lib.MathLoose.min_long.x Lib.MathLoose.min_long.code 4 (some .long) ∈ wA) (hf : 1 ≤ (rmO J).frames) (hlo : (st.map fun v => v.category).sum + 15 ≤ (rmO J).locals) (hd : decode J.2.2.1 pc = .ok (.invokestatic idx, 3)) (k : YY g J Qf V (pc + 3) lv (.long (if y < x then y else x) :: st)) : YY g J Qf V pc lv (.long y :: .long x :: st) :=
  fun p e s m args below meth c H locs ls E hP hS hl => va_mmin_long E.1 E.2.1 (E.2.2.1.trans hl.1.symm) E.2.2.2.2.2.1 (E.2.2.2.2.2.2.1 _ hw) (E.2.2.2.2.2.2.1 _ h2) (E.2.2.2.2.2.2.1 _ h3) (E.2.2.2.2.2.2.1 _ h4) hf hlo (Nat.le_refl _) (Nat.le_refl _) hd (k p e s m args below meth c H locs ls E hP hS hl)
theorem x_acopy {g : gX} {J : MD} {Qf : List Frame → Array Value → State → State → Prop} {V : vM} {pc : Nat} {lv : List (Nat × Value)} {st : List Value} {idx a0 a1 N : Nat} (hw : Cond.methodLink J.1 idx arraycopyName ∈ wA) (h2 : Cond.native arraycopyName ∈ wA) (h3 : Cond.static arraycopyName ∈ wA) (h4 : Cond.initialized "java/lang/System" ∈ wA) (hs0 : shp[a0]? = some (.inl (0, N))) (hs1 : shp[a1]? = some (.inl (0, N))) {n : Int32} (hn : ¬ n < 0) (hN : n.toNatClampNeg = N) (hf : 1 ≤ (rmO J).frames) (hlo : (st.map fun v => v.category).sum + (nativeFrameWords "java/lang/System" "arraycopy" 5 + 11) ≤ (rmO J).locals) (hd : decode J.2.2.1 pc = .ok (.invokestatic idx, 3)) (k : YY g J Qf (cM V a1 (fun i => if i < N then V a0 i else V a1 i)) (pc + 3) lv st) : YY g J Qf V pc lv (.int n :: .int 0 :: .ref (g.2.1 a1) :: .int 0 :: .ref (g.2.1 a0) :: st) := by
  intro p e s m args below meth c H locs ls E hP hS hl
  refine va_copyi E.1 E.2.1 (E.2.2.1.trans hl.1.symm) E.2.2.2.2.2.1 (E.2.2.2.2.2.2.1 _ hw) (E.2.2.2.2.2.2.1 _ h2) (E.2.2.2.2.2.2.1 _ h3) (E.2.2.2.2.2.2.1 _ h4) E.2.2.2.2.2.2.2.1.1 hP (ws_D E.2.2.2.2.2.2.2.2.2.1 V) hS a0 a1 0 0 (ws_get hs0) (ws_get hs1) rfl rfl rfl (by decide) (by decide) hn (by rw [hN]; simp) (by rw [hN]; simp) (fun _ _ => rfl) hf hlo hd (fun H1 locs1 hP1 hD1 hS1 => ?_)
  rw [hN] at hP1
  have e1 : va_cpy (V a0) (V a1) (0 : Int32).toNatClampNeg (0 : Int32).toNatClampNeg N = (fun i => if i < N then V a0 i else V a1 i) := by
    funext i
    simp [va_cpy]
  have := ws_set (g := g) (V := V) hs1 (fun i => if i < N then V a0 i else V a1 i)
  rw [e1] at hP1
  rw [show (Sum.inl (g.2.2.1 0, N, Sum.inl (fun i => if i < N then V a0 i else V a1 i)) : va_E) = cellOf g (fun i => if i < N then V a0 i else V a1 i) (.inl (0, N)) from rfl, this] at hP1
  exact k p e s m args below meth c H1 locs1 ls E hP1 hS1 hl
