/-! the state of both systems together: 73 cells at logical addresses, whose shape never changes behind the constructors; V a i is slot i of cell a -/
abbrev gX : Type := va_G × (Nat → Nat) × (Nat → ClassId) × Nat × (Nat → Nat) × (Nat → Nat) × Launch
abbrev vM : Type := Nat → Nat → Int32
abbrev MD : Type := String × MethodName × ByteArray × Nat × Option FieldType × Room × (State → Array Value → Prop)
abbrev shT : Type := (Nat × Nat) ⊕ (Nat × List (Option Nat))
def shp : List shT := [.inr (9, [some 1, some 2, some 3, some 4, some 5, some 6, some 7, some 8, some 9, some 10, some 11, none, none]), .inr (5, [some 12, some 13, none, none]), .inr (5, [some 14, some 15, none, none]), .inr (5, [some 16, some 17, none, none]), .inr (5, [some 18, some 19, none, none]), .inl (0, 2), .inr (1, [some 20, some 21, some 22, some 23, some 24, some 25, some 26, none, none]), .inr (7, [some 27, none, none]), .inr (0, [some 28, some 29, some 30, none, none, none]), .inr (3, [some 31, some 32, some 33, some 34, some 35, none, none, none, none, none]), .inr (4, [some 36, some 37, none]), .inr (8, [some 38, none]), .inl (0, 24), .inl (0, 144), .inl (0, 24), .inl (0, 144), .inl (0, 24), .inl (0, 144), .inl (0, 24), .inl (0, 144), .inl (0, 1536), .inl (0, 1536), .inl (0, 1536), .inl (0, 1536), .inl (0, 25), .inl (1, 24), .inr (2, [some 39, some 40, none, none]), .inl (1, 1536), .inl (0, 6), .inl (0, 1000), .inl (0, 1000), .inl (0, 24), .inl (0, 26), .inl (0, 676), .inl (0, 24), .inl (0, 24), .inl (2, 120), .inr (6, [some 41, none, none, none, none, none, none, none, none, none, none, none, none]), .inl (2, 864), .inl (3, 7), .inl (0, 7), .inl (0, 6), .inl (0, 8), .inl (0, 8), .inl (0, 8), .inl (0, 8), .inl (0, 8), .inl (0, 8), .inl (0, 8), .inr (10, [some 50, some 51, some 52, some 53, none, some 54, none, none, some 55, some 56, none, some 57, none, none, none, none, some 58, some 59, none, none, some 60, none, none, none, none, none, none, some 61, none, some 62, some 63, some 64, none, some 65, none, some 66, some 67, some 68, none, some 69, some 70, some 71, some 72]), .inl (0, 170), .inl (0, 340), .inl (1, 2), .inl (0, 120), .inl (0, 6), .inl (0, 26), .inl (0, 676), .inl (0, 24), .inl (0, 168), .inl (0, 170), .inl (0, 840), .inl (0, 1200), .inl (0, 1700), .inl (0, 1700), .inl (0, 1700), .inl (0, 26), .inl (0, 24), .inl (0, 80), .inl (0, 10), .inl (1, 1700), .inl (0, 2000), .inl (0, 24), .inl (0, 24)]
theorem shp_len : shp.length = 73 := by decide +kernel
def wA : List Cond := lw_tbl.filter goodWord
theorem wA_in : ∀ w ∈ wA, w ∈ lw_tbl := fun w h => (List.mem_filter.mp h).1
theorem wA_good : GoodIn wA wA := fun w h => ⟨h, good_of_word (List.mem_filter.mp h).2⟩
def fsOf (ad : Nat → Nat) (v : Nat → Int32) : Nat → List (Option Nat) → List Value
  | _, [] => []
  | i, none :: r => .int (v i) :: fsOf ad v (i + 1) r
  | i, some t :: r => .ref (ad t) :: fsOf ad v (i + 1) r
theorem fsOf_len (ad : Nat → Nat) (v : Nat → Int32) : ∀ (rs : List (Option Nat)) (i : Nat), (fsOf ad v i rs).length = rs.length
  | [], _ => rfl
  | none :: r, i => by simp [fsOf, fsOf_len ad v r]
  | some _ :: r, i => by simp [fsOf, fsOf_len ad v r]
theorem fsOf_int (ad : Nat → Nat) (v : Nat → Int32) : ∀ (rs : List (Option Nat)) (i s : Nat), rs[s]? = some none → (fsOf ad v i rs)[s]? = some (.int (v (i + s)))
  | [], i, s, h => by simp at h
  | none :: r, i, 0, h => rfl
  | some _ :: r, i, 0, h => by simp at h
  | none :: r, i, s + 1, h => by
    have := fsOf_int ad v r (i + 1) s (by simpa using h)
    rw [show i + (s + 1) = i + 1 + s by omega]
    simpa [fsOf] using this
  | some _ :: r, i, s + 1, h => by
    have := fsOf_int ad v r (i + 1) s (by simpa using h)
    rw [show i + (s + 1) = i + 1 + s by omega]
    simpa [fsOf] using this
theorem fsOf_ref (ad : Nat → Nat) (v : Nat → Int32) {t : Nat} : ∀ (rs : List (Option Nat)) (i s : Nat), rs[s]? = some (some t) → (fsOf ad v i rs)[s]? = some (.ref (ad t))
  | [], i, s, h => by simp at h
  | some _ :: r, i, 0, h => by simp at h; simp [fsOf, h]
  | none :: r, i, 0, h => by simp at h
  | none :: r, i, s + 1, h => by
    have := fsOf_ref ad v r (i + 1) s (by simpa using h)
    simpa [fsOf] using this
  | some _ :: r, i, s + 1, h => by
    have := fsOf_ref ad v r (i + 1) s (by simpa using h)
    simpa [fsOf] using this
theorem fsOf_cong (ad : Nat → Nat) {v w : Nat → Int32} : ∀ (rs : List (Option Nat)) (i : Nat), (∀ j, i ≤ j → v j = w j) → fsOf ad v i rs = fsOf ad w i rs
  | [], _, _ => rfl
  | none :: r, i, h => by rw [fsOf, fsOf, h i (Nat.le_refl i), fsOf_cong ad r (i + 1) (fun j hj => h j (by omega))]
  | some _ :: r, i, h => by rw [fsOf, fsOf, fsOf_cong ad r (i + 1) (fun j hj => h j (by omega))]
theorem fsOf_set (ad : Nat → Nat) (v : Nat → Int32) (x : Int32) : ∀ (rs : List (Option Nat)) (i s : Nat), rs[s]? = some none → (fsOf ad v i rs).set s (.int x) = fsOf ad (upd v (i + s) x) i rs
  | [], i, s, h => by simp at h
  | none :: r, i, 0, h => by
    rw [fsOf, fsOf, List.set_cons_zero, fsOf_cong ad r (i + 1) (v := v) (w := upd v (i + 0) x) (fun j hj => by simp [upd]; intro q; omega)]
    simp [upd]
  | some _ :: r, i, 0, h => by simp at h
  | none :: r, i, s + 1, h => by
    have := fsOf_set ad v x r (i + 1) s (by simpa using h)
    rw [fsOf, fsOf, List.set_cons_succ, this, show i + 1 + s = i + (s + 1) by omega]
    simp only [upd, List.cons.injEq, and_true]
    rw [if_neg (by omega)]
  | some _ :: r, i, s + 1, h => by
    have := fsOf_set ad v x r (i + 1) s (by simpa using h)
    rw [fsOf, fsOf, List.set_cons_succ, this, show i + 1 + s = i + (s + 1) by omega]
def pcF (g : gX) (N : Nat) : Nat → Option Nat := fun i => if i < N then some (g.2.1 (42 + i)) else none
def cellOf (g : gX) (v : Nat → Int32) : shT → va_E
  | .inl (t, N) => .inl (g.2.2.1 t, N, if t = 3 then .inr (.inr (.inr (.inr (pcF g N)))) else .inl v)
  | .inr (ci, rs) => .inr (ci, fsOf g.2.1 v 0 rs)
def wsOf (g : gX) (V : vM) : va_W := shp.mapIdx (fun k s => (g.2.1 k, cellOf g (V k) s))
def uM (V : vM) (k i : Nat) (x : Int32) : vM := fun a => if a = k then upd (V a) i x else V a
def cM (V : vM) (k : Nat) (f : Nat → Int32) : vM := fun a => if a = k then f else V a
theorem uM_at (V : vM) (k i : Nat) (x : Int32) (a j : Nat) : uM V k i x a j = if a = k ∧ j = i then x else V a j := by
  unfold uM upd
  by_cases h : a = k
  · subst h
    by_cases h2 : j = i <;> simp [h2]
  · simp [h]
theorem cM_at (V : vM) (k : Nat) (f : Nat → Int32) (a j : Nat) : cM V k f a j = if a = k then f j else V a j := by
  unfold cM
  by_cases h : a = k <;> simp [h]
theorem uM_cM (V : vM) (k i : Nat) (x : Int32) : uM V k i x = cM V k (upd (V k) i x) := by
  funext a
  unfold uM cM
  by_cases h : a = k
  · subst h; simp
  · simp [h]
theorem ws_get {g : gX} {V : vM} {k : Nat} {s : shT} (h : shp[k]? = some s) : (wsOf g V)[k]? = some (g.2.1 k, cellOf g (V k) s) := by
  simp [wsOf, h]
theorem ws_set {g : gX} {V : vM} {k : Nat} {s : shT} (h : shp[k]? = some s) (f : Nat → Int32) : (wsOf g V).set k (g.2.1 k, cellOf g f s) = wsOf g (cM V k f) := by
  have hl : k < shp.length := (List.getElem?_eq_some_iff.mp h).1
  apply List.ext_getElem?
  intro i
  by_cases e : i = k
  · subst e
    rw [List.getElem?_set_self (by simp [wsOf]; exact hl), ws_get (V := cM V i f) h]
    simp [cM]
  · rw [List.getElem?_set_ne (Ne.symm e)]
    simp only [wsOf, List.getElem?_mapIdx, cM, if_neg e]
def tysOf (g : gX) : List (ClassId × FieldType) := [(g.2.2.1 0, .int), (g.2.2.1 1, .boolean), (g.2.2.1 2, .char), (g.2.2.1 3, .array .int)]
def gA (g : gX) : Nat → Prop := fun q => ∃ k, k < 73 ∧ q = g.2.1 k
def apart (g : gX) : Prop := ∀ i j, i < 73 → j < 73 → g.2.1 i = g.2.1 j → i = j
theorem ws_D {g : gX} (h : apart g) (V : vM) : va_D (gA g) (wsOf g V) := by
  have key : ∀ (i : Nat) (p : Nat × va_E), (wsOf g V)[i]? = some p → i < 73 ∧ p.1 = g.2.1 i := by
    intro i p hp
    simp only [wsOf, List.getElem?_mapIdx] at hp
    cases hs : shp[i]? with
    | none => rw [hs] at hp; cases hp
    | some s =>
      rw [hs] at hp
      cases hp
      have := (List.getElem?_eq_some_iff.mp hs).1
      rw [shp_len] at this
      exact ⟨this, rfl⟩
  refine ⟨fun i j p q hp hq e => ?_, fun k q hq => ?_⟩
  · obtain ⟨h1, h2⟩ := key i p hp
    obtain ⟨h3, h4⟩ := key j q hq
    exact h i j h1 h3 (by rw [← h2, ← h4, e])
  · obtain ⟨h1, h2⟩ := key k q hq
    exact ⟨k, h1, h2⟩
def pV : Nat → Int32 := fun k => [1, 1, 2, 3, 1].getD k 0
def lenS : List Nat := [5, 4]
def bytS : List (List Int32) := [[77, 76, 81, 67, 90], [109, 108, 113, 99]]
def stat (g : gX) (A : Nat → Prop) (U : State) (H : Heap) : Prop :=
  va_Z "PathFlattener" "POINTS" "[I" (.ref g.2.2.2.1) A U H ∧ va_T .int g.2.2.2.1 5 (fun j => .int (pV j)) A U H ∧
  vk_S 2 lenS bytS g.2.2.2.2.1 g.2.2.2.2.2.1 A U H ∧ va_Z "java/lang/String" "COMPACT_STRINGS" "Z" (.int 1) A U H ∧ va_Zq "jdk/internal/util/Preconditions" "SIOOBE_FORMATTER" "Ljava/util/function/BiFunction;" A U H
theorem stat.kept {g : gX} {A : Nat → Prop} {U : State} {H H1 : Heap} (h : stat g A U H) (hq : ∀ a : Nat, a < H.size → ¬ A a → H1[a]? = H[a]?) : stat g A U H1 :=
  ⟨h.1.kept hq, h.2.1.kept hq, h.2.2.1.kept hq, h.2.2.2.1.kept hq, h.2.2.2.2.kept hq⟩
theorem stat.moved {g : gX} {A : Nat → Prop} {u U : State} {H : Heap} (hvm : u.vm.Alike U.vm) (h : stat g A u H) : stat g A U H :=
  ⟨va_Z.moved hvm h.1, va_T.moved hvm h.2.1, vk_S.moved hvm h.2.2.1, va_Z.moved hvm h.2.2.2.1, va_Zq.moved hvm h.2.2.2.2⟩
def nw1 : Cond := .methodLinkNest "PathFlattener$Path" 56 ⟨"PathFlattener", "fits", "(I)Z"⟩ "PathFlattener"
def nw2 : Cond := .methodLinkNest "PathFlattener$Lettering" 43 ⟨"PathFlattener", "isLetter", "(I)Z"⟩ "PathFlattener"
def nw3 : Cond := .methodLinkNest "PathFlattener$Lettering" 93 ⟨"PathFlattener", "between", "(III)Z"⟩ "PathFlattener"
def nw4 : Cond := .fieldLinkNest "PathFlattener$Path" 35 "PathFlattener" "POINTS" "[I" "PathFlattener"
def nw5 : Cond := .fieldLinkNest "PathFlattener$Reader" 94 "PathFlattener" "POINTS" "[I" "PathFlattener"
def wrd (g : gX) (U : State) : Prop := va_Nw nw1 U ∧ va_Nw nw2 U ∧ va_Nw nw3 U ∧ (va_Nw nw4 U ∧ va_Nw nw5 U) ∧
  vk_R "PathFlattener$Reader" 77 "MLQCZ" (g.2.2.2.2.1 0) U ∧ vk_R "PathFlattener$Reader" 85 "mlqc" (g.2.2.2.2.1 1) U ∧ vk_R "PathFlattener$Speller" 27 "MLQCZ" (g.2.2.2.2.1 0) U
theorem wrd.warm {g : gX} {s U : State} (hW : s.WarmedH U.vm) (h : wrd g s) : wrd g U :=
  ⟨va_Nw.warmM hW h.1, va_Nw.warmM hW h.2.1, va_Nw.warmM hW h.2.2.1, ⟨va_Nw.warmF hW h.2.2.2.1.1, va_Nw.warmF hW h.2.2.2.1.2⟩, vk_R.warm hW h.2.2.2.2.1, vk_R.warm hW h.2.2.2.2.2.1, vk_R.warm hW h.2.2.2.2.2.2⟩
theorem wrd.same {g : gX} {s U : State} (hv : U.vm = s.vm) (h : wrd g s) : wrd g U :=
  ⟨va_Nw.same rfl hv.symm h.1, va_Nw.same rfl hv.symm h.2.1, va_Nw.same rfl hv.symm h.2.2.1, ⟨va_Nw.same rfl hv.symm h.2.2.2.1.1, va_Nw.same rfl hv.symm h.2.2.2.1.2⟩, vk_R.same hv h.2.2.2.2.1, vk_R.same hv h.2.2.2.2.2.1, vk_R.same hv h.2.2.2.2.2.2⟩
def gKn (g : gX) (U : State) : Prop := va_K g.1 vwCl (tysOf g) U ∧ wrd g U
abbrev gl (g : gX) : Launch := g.2.2.2.2.2.2
abbrev rmO (J : MD) : Room := J.2.2.2.2.2.1
def ENV (g : gX) (J : MD) (p : Program) (s : State) (m : MethodId) (args : Array Value) (meth : Method) (c : Code) : Prop :=
  p.tables.exec = Jvm.exec ∧ c.code = J.2.2.1 ∧ c.maxLocals = J.2.2.2.1 ∧ meth.sig.returnType = J.2.2.2.2.1 ∧ meth.locks = false ∧ s.vm.findClass J.1 = some m.cls ∧ (∀ w ∈ wA, w.before args s = true) ∧ gKn g s ∧ stat g (gA g) s s.heap ∧ apart g ∧ J.2.2.2.2.2.2 s args
def YY (g : gX) (J : MD) (Qf : List Frame → Array Value → State → State → Prop) (V : vM) (pc : Nat) (lv : List (Nat × Value)) (st : List Value) : Prop :=
  ∀ (p : Program) (e : Env) (s : State) (m : MethodId) (args : Array Value) (below : List Frame) (meth : Method) (c : Code) (H : Heap) (locs : List Loc) (ls : Array Slot),
    ENV g J p s m args meth c → va_P g.1 vwCl (wsOf g V) H → va_S (gA g) s.heap H locs → lv_has ls J.2.2.2.1 lv →
    W p (gl g) e (rmO J) s m args below meth c H locs (rmO J).cells (rmO J).slots (Qf below args s) (F0 m pc ls st)
def QcOf (g : gX) (Q : Option Value → vM → Prop) : Array Value → State → Outcome → State → Prop := fun _ st o t =>
  (∃ (r : Option Value) (V' : vM), o = .returned r ∧ Q r V' ∧ va_P g.1 vwCl (wsOf g V') t.heap) ∧ va_F (gA g) st t
def wsJ (J : MD) : List Cond := .code J.2.1 J.2.2.1 J.2.2.2.1 J.2.2.2.2.1 :: wA
def bEnv (g : gX) (V : vM) (U : State) : Prop := gKn g U ∧ stat g (gA g) U U.heap ∧ apart g ∧ va_P g.1 vwCl (wsOf g V) U.heap
/-- method J, begun with the arguments 'as' over the state V, returns, and Q holds of its answer and of the state behind it -/
def MM (g : gX) (J : MD) (V : vM) (as : List Value) (Q : Option Value → vM → Prop) : Prop :=
  Met (gl g) J.2.1 (wsJ J) (rmO J) (va_Pc as (bEnv g V)) (QcOf g Q) 0 0 (gA g)
abbrev XX (g : gX) (J : MD) (Q : Option Value → vM → Prop) (V : vM) (pc : Nat) (lv : List (Nat × Value)) (st : List Value) : Prop :=
  YY g J (fun below args s => MQ below (QcOf g Q) args s (rmO J).cells (rmO J).slots (gA g)) V pc lv st
/-- a plain method: no room of its own, nothing asked of its start -/
def pln (J : MD) : Prop := plainName J.2.1.cls = true ∧ J.2.1.cls = J.1 ∧ (rmO J).cells = 0 ∧ (rmO J).slots = 0 ∧ ∀ s a, J.2.2.2.2.2.2 s a
set_option maxHeartbeats 4000000 in
theorem MM.of {g : gX} {J : MD} {V : vM} {as : List Value} {Q : Option Value → vM → Prop} (hJ : pln J) (hn : (lg_sl as).length ≤ J.2.2.2.1) (k : XX g J Q V 0 (lv_args 0 as) []) : MM g J V as Q := by
  obtain ⟨own, y, cc, maxL, ret, ⟨fr, ce, sl, lo⟩, X⟩ := J
  obtain ⟨h1, h2, h3, h4, h5⟩ := hJ
  dsimp only [rmO] at h1 h2 h3 h4 h5 hn
  subst h3
  subst h4
  refine Met.ofW (cc := cc) (maxL := maxL) (ret := ret) h1 rfl ?_
  intro p e s m args below meth c s₁ B hml hv
  obtain ⟨rfl, hK, hZ, hA, hP⟩ := hv
  have hts := atoms_spec (ws := wsJ (own, y, cc, maxL, ret, ⟨fr, 0, 0, lo⟩, X)) B.pre
  have hown : s.vm.findClass own = some m.cls := by rw [← h2]; exact findClass_of_methodNamed B.named
  have hl := lv_entry as (n := maxL) hn
  rw [lg_entry_eq]
  exact k p e s m as.toArray below meth c s.heap [] _ ⟨B.exec, B.bytes, hml, B.returns, B.notSynchronized, hown, fun w hw => hts w (List.mem_cons_of_mem _ hw), hK, hZ, hA, h5 s _⟩ hP va_S.rf hl

theorem x_iconst {g : gX} {J : MD} {Qf : List Frame → Array Value → State → State → Prop} {V : vM} {pc : Nat} {lv : List (Nat × Value)} {st : List Value} {n : Int} {v : Int32} (hd : decode J.2.2.1 pc = .ok (.iconst n, 1)) (hv : Int32.ofInt n = v) (k : YY g J Qf V (pc + 1) lv (.int v :: st)) : YY g J Qf V pc lv (st) :=
  fun p e s m args below meth c H locs ls E hP hS hl => lv_iconst E.1 E.2.1 hd hv (k p e s m args below meth c H locs ls E hP hS hl)
theorem x_bipush {g : gX} {J : MD} {Qf : List Frame → Array Value → State → State → Prop} {V : vM} {pc : Nat} {lv : List (Nat × Value)} {st : List Value} {n : Int} {v : Int32} (hd : decode J.2.2.1 pc = .ok (.bipush n, 2)) (hv : (Int8.ofInt n).toInt32 = v) (k : YY g J Qf V (pc + 2) lv (.int v :: st)) : YY g J Qf V pc lv (st) :=
  fun p e s m args below meth c H locs ls E hP hS hl => lv_bipush E.1 E.2.1 hd hv (k p e s m args below meth c H locs ls E hP hS hl)
theorem x_sipush {g : gX} {J : MD} {Qf : List Frame → Array Value → State → State → Prop} {V : vM} {pc : Nat} {lv : List (Nat × Value)} {st : List Value} {n : Int} {v : Int32} (hd : decode J.2.2.1 pc = .ok (.sipush n, 3)) (hv : (Int16.ofInt n).toInt32 = v) (k : YY g J Qf V (pc + 3) lv (.int v :: st)) : YY g J Qf V pc lv (st) :=
  fun p e s m args below meth c H locs ls E hP hS hl => lv_sipush E.1 E.2.1 hd hv (k p e s m args below meth c H locs ls E hP hS hl)
theorem x_lconst {g : gX} {J : MD} {Qf : List Frame → Array Value → State → State → Prop} {V : vM} {pc : Nat} {lv : List (Nat × Value)} {st : List Value} {n : Fin 2} {v : Int64} (hd : decode J.2.2.1 pc = .ok (.lconst n, 1)) (hv : Int64.ofNat (n : Nat) = v) (k : YY g J Qf V (pc + 1) lv (.long v :: st)) : YY g J Qf V pc lv (st) :=
  fun p e s m args below meth c H locs ls E hP hS hl => lv_lconst E.1 E.2.1 hd hv (k p e s m args below meth c H locs ls E hP hS hl)
theorem x_iload_n {g : gX} {J : MD} {Qf : List Frame → Array Value → State → State → Prop} {V : vM} {pc : Nat} {lv : List (Nat × Value)} {st : List Value} {k4 : Fin 4} {x : Int32} (hd : decode J.2.2.1 pc = .ok (.iload_n k4, 1)) (i : Nat) (hi : lv[i]? = some ((k4 : Nat), .int x)) (k : YY g J Qf V (pc + 1) lv (.int x :: st)) : YY g J Qf V pc lv (st) :=
  fun p e s m args below meth c H locs ls E hP hS hl => lv_iload_n E.1 E.2.1 hd rfl (lv_at hl i hi) (k p e s m args below meth c H locs ls E hP hS hl)
theorem x_iload {g : gX} {J : MD} {Qf : List Frame → Array Value → State → State → Prop} {V : vM} {pc : Nat} {lv : List (Nat × Value)} {st : List Value} {n : Nat} {x : Int32} (hd : decode J.2.2.1 pc = .ok (.iload n, 2)) (i : Nat) (hi : lv[i]? = some (n, .int x)) (k : YY g J Qf V (pc + 2) lv (.int x :: st)) : YY g J Qf V pc lv (st) :=
  fun p e s m args below meth c H locs ls E hP hS hl => lv_iload E.1 E.2.1 hd (lv_at hl i hi) (k p e s m args below meth c H locs ls E hP hS hl)
theorem x_lload_n {g : gX} {J : MD} {Qf : List Frame → Array Value → State → State → Prop} {V : vM} {pc : Nat} {lv : List (Nat × Value)} {st : List Value} {k4 : Fin 4} {x : Int64} (hd : decode J.2.2.1 pc = .ok (.lload_n k4, 1)) (i : Nat) (hi : lv[i]? = some ((k4 : Nat), .long x)) (k : YY g J Qf V (pc + 1) lv (.long x :: st)) : YY g J Qf V pc lv (st) :=
  fun p e s m args below meth c H locs ls E hP hS hl => lv_lload_n E.1 E.2.1 hd rfl (lv_at hl i hi) (k p e s m args below meth c H locs ls E hP hS hl)
theorem x_lload {g : gX} {J : MD} {Qf : List Frame → Array Value → State → State → Prop} {V : vM} {pc : Nat} {lv : List (Nat × Value)} {st : List Value} {n : Nat} {x : Int64} (hd : decode J.2.2.1 pc = .ok (.lload n, 2)) (i : Nat) (hi : lv[i]? = some (n, .long x)) (k : YY g J Qf V (pc + 2) lv (.long x :: st)) : YY g J Qf V pc lv (st) :=
  fun p e s m args below meth c H locs ls E hP hS hl => lv_lload E.1 E.2.1 hd (lv_at hl i hi) (k p e s m args below meth c H locs ls E hP hS hl)
theorem x_aload_n {g : gX} {J : MD} {Qf : List Frame → Array Value → State → State → Prop} {V : vM} {pc : Nat} {lv : List (Nat × Value)} {st : List Value} {k4 : Fin 4} {x : Nat} (hd : decode J.2.2.1 pc = .ok (.aload_n k4, 1)) (i : Nat) (hi : lv[i]? = some ((k4 : Nat), .ref x)) (k : YY g J Qf V (pc + 1) lv (.ref x :: st)) : YY g J Qf V pc lv (st) :=
  fun p e s m args below meth c H locs ls E hP hS hl => lv_aload_n E.1 E.2.1 hd rfl (lv_at hl i hi) (k p e s m args below meth c H locs ls E hP hS hl)
theorem x_aload {g : gX} {J : MD} {Qf : List Frame → Array Value → State → State → Prop} {V : vM} {pc : Nat} {lv : List (Nat × Value)} {st : List Value} {n : Nat} {x : Nat} (hd : decode J.2.2.1 pc = .ok (.aload n, 2)) (i : Nat) (hi : lv[i]? = some (n, .ref x)) (k : YY g J Qf V (pc + 2) lv (.ref x :: st)) : YY g J Qf V pc lv (st) :=
  fun p e s m args below meth c H locs ls E hP hS hl => lv_aload E.1 E.2.1 hd (lv_at hl i hi) (k p e s m args below meth c H locs ls E hP hS hl)
theorem x_iadd {g : gX} {J : MD} {Qf : List Frame → Array Value → State → State → Prop} {V : vM} {pc : Nat} {lv : List (Nat × Value)} {st : List Value} {x y : Int32} (hd : decode J.2.2.1 pc = .ok (.iadd, 1)) (k : YY g J Qf V (pc + 1) lv (.int (x + y) :: st)) : YY g J Qf V pc lv (.int y :: .int x :: st) :=
  fun p e s m args below meth c H locs ls E hP hS hl => lv_iadd E.1 E.2.1 hd (k p e s m args below meth c H locs ls E hP hS hl)
theorem x_isub {g : gX} {J : MD} {Qf : List Frame → Array Value → State → State → Prop} {V : vM} {pc : Nat} {lv : List (Nat × Value)} {st : List Value} {x y : Int32} (hd : decode J.2.2.1 pc = .ok (.isub, 1)) (k : YY g J Qf V (pc + 1) lv (.int (x - y) :: st)) : YY g J Qf V pc lv (.int y :: .int x :: st) :=
  fun p e s m args below meth c H locs ls E hP hS hl => lv_isub E.1 E.2.1 hd (k p e s m args below meth c H locs ls E hP hS hl)
theorem x_imul {g : gX} {J : MD} {Qf : List Frame → Array Value → State → State → Prop} {V : vM} {pc : Nat} {lv : List (Nat × Value)} {st : List Value} {x y : Int32} (hd : decode J.2.2.1 pc = .ok (.imul, 1)) (k : YY g J Qf V (pc + 1) lv (.int (x * y) :: st)) : YY g J Qf V pc lv (.int y :: .int x :: st) :=
  fun p e s m args below meth c H locs ls E hP hS hl => lv_imul E.1 E.2.1 hd (k p e s m args below meth c H locs ls E hP hS hl)
theorem x_iand {g : gX} {J : MD} {Qf : List Frame → Array Value → State → State → Prop} {V : vM} {pc : Nat} {lv : List (Nat × Value)} {st : List Value} {x y : Int32} (hd : decode J.2.2.1 pc = .ok (.iand, 1)) (k : YY g J Qf V (pc + 1) lv (.int (x &&& y) :: st)) : YY g J Qf V pc lv (.int y :: .int x :: st) :=
  fun p e s m args below meth c H locs ls E hP hS hl => lv_iand E.1 E.2.1 hd (k p e s m args below meth c H locs ls E hP hS hl)
theorem x_ishr {g : gX} {J : MD} {Qf : List Frame → Array Value → State → State → Prop} {V : vM} {pc : Nat} {lv : List (Nat × Value)} {st : List Value} {x y : Int32} (hd : decode J.2.2.1 pc = .ok (.ishr, 1)) (k : YY g J Qf V (pc + 1) lv (.int (x >>> (y &&& 31)) :: st)) : YY g J Qf V pc lv (.int y :: .int x :: st) :=
  fun p e s m args below meth c H locs ls E hP hS hl => lv_ishr E.1 E.2.1 hd (k p e s m args below meth c H locs ls E hP hS hl)
theorem x_ishl {g : gX} {J : MD} {Qf : List Frame → Array Value → State → State → Prop} {V : vM} {pc : Nat} {lv : List (Nat × Value)} {st : List Value} {x y : Int32} (hd : decode J.2.2.1 pc = .ok (.ishl, 1)) (k : YY g J Qf V (pc + 1) lv (.int (x <<< (y &&& 31)) :: st)) : YY g J Qf V pc lv (.int y :: .int x :: st) :=
  fun p e s m args below meth c H locs ls E hP hS hl => lv_ishl E.1 E.2.1 hd (k p e s m args below meth c H locs ls E hP hS hl)
theorem x_ladd {g : gX} {J : MD} {Qf : List Frame → Array Value → State → State → Prop} {V : vM} {pc : Nat} {lv : List (Nat × Value)} {st : List Value} {x y : Int64} (hd : decode J.2.2.1 pc = .ok (.ladd, 1)) (k : YY g J Qf V (pc + 1) lv (.long (x + y) :: st)) : YY g J Qf V pc lv (.long y :: .long x :: st) :=
  fun p e s m args below meth c H locs ls E hP hS hl => lv_ladd E.1 E.2.1 hd (k p e s m args below meth c H locs ls E hP hS hl)
theorem x_lsub {g : gX} {J : MD} {Qf : List Frame → Array Value → State → State → Prop} {V : vM} {pc : Nat} {lv : List (Nat × Value)} {st : List Value} {x y : Int64} (hd : decode J.2.2.1 pc = .ok (.lsub, 1)) (k : YY g J Qf V (pc + 1) lv (.long (x - y) :: st)) : YY g J Qf V pc lv (.long y :: .long x :: st) :=
  fun p e s m args below meth c H locs ls E hP hS hl => lv_lsub E.1 E.2.1 hd (k p e s m args below meth c H locs ls E hP hS hl)
theorem x_lmul {g : gX} {J : MD} {Qf : List Frame → Array Value → State → State → Prop} {V : vM} {pc : Nat} {lv : List (Nat × Value)} {st : List Value} {x y : Int64} (hd : decode J.2.2.1 pc = .ok (.lmul, 1)) (k : YY g J Qf V (pc + 1) lv (.long (x * y) :: st)) : YY g J Qf V pc lv (.long y :: .long x :: st) :=
  fun p e s m args below meth c H locs ls E hP hS hl => lv_lmul E.1 E.2.1 hd (k p e s m args below meth c H locs ls E hP hS hl)
theorem x_idiv {g : gX} {J : MD} {Qf : List Frame → Array Value → State → State → Prop} {V : vM} {pc : Nat} {lv : List (Nat × Value)} {st : List Value} {x y : Int32} (hd : decode J.2.2.1 pc = .ok (.idiv, 1)) (h0 : ¬ y = 0) (k : YY g J Qf V (pc + 1) lv (.int (x / y) :: st)) : YY g J Qf V pc lv (.int y :: .int x :: st) :=
  fun p e s m args below meth c H locs ls E hP hS hl => lv_idiv E.1 E.2.1 hd h0 (k p e s m args below meth c H locs ls E hP hS hl)
theorem x_irem {g : gX} {J : MD} {Qf : List Frame → Array Value → State → State → Prop} {V : vM} {pc : Nat} {lv : List (Nat × Value)} {st : List Value} {x y : Int32} (hd : decode J.2.2.1 pc = .ok (.irem, 1)) (h0 : ¬ y = 0) (k : YY g J Qf V (pc + 1) lv (.int (x - x / y * y) :: st)) : YY g J Qf V pc lv (.int y :: .int x :: st) :=
  fun p e s m args below meth c H locs ls E hP hS hl => lv_irem E.1 E.2.1 hd h0 (k p e s m args below meth c H locs ls E hP hS hl)
theorem x_ldiv {g : gX} {J : MD} {Qf : List Frame → Array Value → State → State → Prop} {V : vM} {pc : Nat} {lv : List (Nat × Value)} {st : List Value} {x y : Int64} (hd : decode J.2.2.1 pc = .ok (.ldiv, 1)) (h0 : ¬ y = 0) (k : YY g J Qf V (pc + 1) lv (.long (x / y) :: st)) : YY g J Qf V pc lv (.long y :: .long x :: st) :=
  fun p e s m args below meth c H locs ls E hP hS hl => lv_ldiv E.1 E.2.1 hd h0 (k p e s m args below meth c H locs ls E hP hS hl)
theorem x_lrem {g : gX} {J : MD} {Qf : List Frame → Array Value → State → State → Prop} {V : vM} {pc : Nat} {lv : List (Nat × Value)} {st : List Value} {x y : Int64} (hd : decode J.2.2.1 pc = .ok (.lrem, 1)) (h0 : ¬ y = 0) (k : YY g J Qf V (pc + 1) lv (.long (x - x / y * y) :: st)) : YY g J Qf V pc lv (.long y :: .long x :: st) :=
  fun p e s m args below meth c H locs ls E hP hS hl => lv_lrem E.1 E.2.1 hd h0 (k p e s m args below meth c H locs ls E hP hS hl)
theorem x_ineg {g : gX} {J : MD} {Qf : List Frame → Array Value → State → State → Prop} {V : vM} {pc : Nat} {lv : List (Nat × Value)} {st : List Value} {x : Int32} (hd : decode J.2.2.1 pc = .ok (.ineg, 1)) (k : YY g J Qf V (pc + 1) lv (.int (-x) :: st)) : YY g J Qf V pc lv (.int x :: st) :=
  fun p e s m args below meth c H locs ls E hP hS hl => lv_ineg E.1 E.2.1 hd (k p e s m args below meth c H locs ls E hP hS hl)
theorem x_i2l {g : gX} {J : MD} {Qf : List Frame → Array Value → State → State → Prop} {V : vM} {pc : Nat} {lv : List (Nat × Value)} {st : List Value} {x : Int32} (hd : decode J.2.2.1 pc = .ok (.i2l, 1)) (k : YY g J Qf V (pc + 1) lv (.long x.toInt64 :: st)) : YY g J Qf V pc lv (.int x :: st) :=
  fun p e s m args below meth c H locs ls E hP hS hl => lv_i2l E.1 E.2.1 hd rfl (k p e s m args below meth c H locs ls E hP hS hl)
theorem x_l2i {g : gX} {J : MD} {Qf : List Frame → Array Value → State → State → Prop} {V : vM} {pc : Nat} {lv : List (Nat × Value)} {st : List Value} {x : Int64} (hd : decode J.2.2.1 pc = .ok (.l2i, 1)) (k : YY g J Qf V (pc + 1) lv (.int x.toInt32 :: st)) : YY g J Qf V pc lv (.long x :: st) :=
  fun p e s m args below meth c H locs ls E hP hS hl => lv_l2i E.1 E.2.1 hd rfl (k p e s m args below meth c H locs ls E hP hS hl)
theorem x_i2c {g : gX} {J : MD} {Qf : List Frame → Array Value → State → State → Prop} {V : vM} {pc : Nat} {lv : List (Nat × Value)} {st : List Value} {x : Int32} (hd : decode J.2.2.1 pc = .ok (.i2c, 1)) (k : YY g J Qf V (pc + 1) lv (.int (x.toUInt32 % 65536).toInt32 :: st)) : YY g J Qf V pc lv (.int x :: st) :=
  fun p e s m args below meth c H locs ls E hP hS hl => lv_i2c E.1 E.2.1 hd rfl (k p e s m args below meth c H locs ls E hP hS hl)
theorem x_lshl {g : gX} {J : MD} {Qf : List Frame → Array Value → State → State → Prop} {V : vM} {pc : Nat} {lv : List (Nat × Value)} {st : List Value} {x : Int64} {y : Int32} (hd : decode J.2.2.1 pc = .ok (.lshl, 1)) (k : YY g J Qf V (pc + 1) lv (.long (x <<< (y.toInt64 &&& 63)) :: st)) : YY g J Qf V pc lv (.int y :: .long x :: st) :=
  fun p e s m args below meth c H locs ls E hP hS hl => lv_lshl E.1 E.2.1 hd rfl (k p e s m args below meth c H locs ls E hP hS hl)
theorem x_lcmp {g : gX} {J : MD} {Qf : List Frame → Array Value → State → State → Prop} {V : vM} {pc : Nat} {lv : List (Nat × Value)} {st : List Value} {x y : Int64} (hd : decode J.2.2.1 pc = .ok (.lcmp, 1)) (k : YY g J Qf V (pc + 1) lv (.int (lg_cmp x y) :: st)) : YY g J Qf V pc lv (.long y :: .long x :: st) :=
  fun p e s m args below meth c H locs ls E hP hS hl => W.lcmp E.1 E.2.1 hd (k p e s m args below meth c H locs ls E hP hS hl)
theorem x_dup {g : gX} {J : MD} {Qf : List Frame → Array Value → State → State → Prop} {V : vM} {pc : Nat} {lv : List (Nat × Value)} {st : List Value} {x : Value} (hd : decode J.2.2.1 pc = .ok (.dup, 1)) (hx : x.category = 1) (k : YY g J Qf V (pc + 1) lv (x :: x :: st)) : YY g J Qf V pc lv (x :: st) :=
  fun p e s m args below meth c H locs ls E hP hS hl => lv_dup E.1 E.2.1 hd hx (k p e s m args below meth c H locs ls E hP hS hl)
theorem x_dup2 {g : gX} {J : MD} {Qf : List Frame → Array Value → State → State → Prop} {V : vM} {pc : Nat} {lv : List (Nat × Value)} {st : List Value} {x y : Value} (hd : decode J.2.2.1 pc = .ok (.dup2, 1)) (hx : x.category = 1) (hy : y.category = 1) (k : YY g J Qf V (pc + 1) lv (x :: y :: x :: y :: st)) : YY g J Qf V pc lv (x :: y :: st) :=
  fun p e s m args below meth c H locs ls E hP hS hl => lv_dup2_11 E.1 E.2.1 hd hx hy (k p e s m args below meth c H locs ls E hP hS hl)
theorem x_pop {g : gX} {J : MD} {Qf : List Frame → Array Value → State → State → Prop} {V : vM} {pc : Nat} {lv : List (Nat × Value)} {st : List Value} {x : Value} (hd : decode J.2.2.1 pc = .ok (.pop, 1)) (hx : x.category = 1) (k : YY g J Qf V (pc + 1) lv (st)) : YY g J Qf V pc lv (x :: st) :=
  fun p e s m args below meth c H locs ls E hP hS hl => lv_pop E.1 E.2.1 hd hx (k p e s m args below meth c H locs ls E hP hS hl)
theorem x_istore_n {g : gX} {J : MD} {Qf : List Frame → Array Value → State → State → Prop} {V : vM} {pc : Nat} {lv : List (Nat × Value)} {st : List Value} {k4 : Fin 4} (i : Nat) {x : Int32} (lv' : List (Nat × Value)) (hd : decode J.2.2.1 pc = .ok (.istore_n k4, 1)) (hi : (k4 : Nat) = i) (hn : i < J.2.2.2.1) (hL : (i, Value.int x) :: lv.filter (fun q => !(q.1 == i) && !(q.1 + 1 == i && q.2.category == 2)) = lv') (k : YY g J Qf V (pc + 1) lv' st) : YY g J Qf V pc lv (.int x :: st) :=
  fun p e s m args below meth c H locs ls E hP hS hl => lv_istore_n E.1 E.2.1 hd hi hl hn hL (fun ls' hl' => k p e s m args below meth c H locs ls' E hP hS hl')
theorem x_istore {g : gX} {J : MD} {Qf : List Frame → Array Value → State → State → Prop} {V : vM} {pc : Nat} {lv : List (Nat × Value)} {st : List Value} (i : Nat) {x : Int32} (lv' : List (Nat × Value)) (hd : decode J.2.2.1 pc = .ok (.istore i, 2)) (hn : i < J.2.2.2.1) (hL : (i, Value.int x) :: lv.filter (fun q => !(q.1 == i) && !(q.1 + 1 == i && q.2.category == 2)) = lv') (k : YY g J Qf V (pc + 2) lv' st) : YY g J Qf V pc lv (.int x :: st) :=
  fun p e s m args below meth c H locs ls E hP hS hl => lv_istore E.1 E.2.1 hd hl hn hL (fun ls' hl' => k p e s m args below meth c H locs ls' E hP hS hl')
theorem x_astore_n {g : gX} {J : MD} {Qf : List Frame → Array Value → State → State → Prop} {V : vM} {pc : Nat} {lv : List (Nat × Value)} {st : List Value} {k4 : Fin 4} (i : Nat) {x : Nat} (lv' : List (Nat × Value)) (hd : decode J.2.2.1 pc = .ok (.astore_n k4, 1)) (hi : (k4 : Nat) = i) (hn : i < J.2.2.2.1) (hL : (i, Value.ref x) :: lv.filter (fun q => !(q.1 == i) && !(q.1 + 1 == i && q.2.category == 2)) = lv') (k : YY g J Qf V (pc + 1) lv' st) : YY g J Qf V pc lv (.ref x :: st) :=
  fun p e s m args below meth c H locs ls E hP hS hl => lv_astore_n E.1 E.2.1 hd hi hl hn hL (fun ls' hl' => k p e s m args below meth c H locs ls' E hP hS hl')
theorem x_astore {g : gX} {J : MD} {Qf : List Frame → Array Value → State → State → Prop} {V : vM} {pc : Nat} {lv : List (Nat × Value)} {st : List Value} (i : Nat) {x : Nat} (lv' : List (Nat × Value)) (hd : decode J.2.2.1 pc = .ok (.astore i, 2)) (hn : i < J.2.2.2.1) (hL : (i, Value.ref x) :: lv.filter (fun q => !(q.1 == i) && !(q.1 + 1 == i && q.2.category == 2)) = lv') (k : YY g J Qf V (pc + 2) lv' st) : YY g J Qf V pc lv (.ref x :: st) :=
  fun p e s m args below meth c H locs ls E hP hS hl => lv_astore E.1 E.2.1 hd hl hn hL (fun ls' hl' => k p e s m args below meth c H locs ls' E hP hS hl')
theorem x_lstore_n {g : gX} {J : MD} {Qf : List Frame → Array Value → State → State → Prop} {V : vM} {pc : Nat} {lv : List (Nat × Value)} {st : List Value} {k4 : Fin 4} (i : Nat) {x : Int64} (lv' : List (Nat × Value)) (hd : decode J.2.2.1 pc = .ok (.lstore_n k4, 1)) (hi : (k4 : Nat) = i) (hn : i + 1 < J.2.2.2.1) (hL : (i, Value.long x) :: lv.filter (fun q => !(q.1 == i) && (!(q.1 == i + 1) && !(q.1 + 1 == i && q.2.category == 2))) = lv') (k : YY g J Qf V (pc + 1) lv' st) : YY g J Qf V pc lv (.long x :: st) :=
  fun p e s m args below meth c H locs ls E hP hS hl => lv_lstore_n E.1 E.2.1 hd hi hl hn hL (fun ls' hl' => k p e s m args below meth c H locs ls' E hP hS hl')
theorem x_lstore {g : gX} {J : MD} {Qf : List Frame → Array Value → State → State → Prop} {V : vM} {pc : Nat} {lv : List (Nat × Value)} {st : List Value} (i : Nat) {x : Int64} (lv' : List (Nat × Value)) (hd : decode J.2.2.1 pc = .ok (.lstore i, 2)) (hn : i + 1 < J.2.2.2.1) (hL : (i, Value.long x) :: lv.filter (fun q => !(q.1 == i) && (!(q.1 == i + 1) && !(q.1 + 1 == i && q.2.category == 2))) = lv') (k : YY g J Qf V (pc + 2) lv' st) : YY g J Qf V pc lv (.long x :: st) :=
  fun p e s m args below meth c H locs ls E hP hS hl => lv_lstore E.1 E.2.1 hd hl hn hL (fun ls' hl' => k p e s m args below meth c H locs ls' E hP hS hl')
theorem x_iinc {g : gX} {J : MD} {Qf : List Frame → Array Value → State → State → Prop} {V : vM} {pc : Nat} {lv : List (Nat × Value)} {st : List Value} (i : Nat) {n : Int} {x v : Int32} (j : Nat) (lv' : List (Nat × Value)) (hd : decode J.2.2.1 pc = .ok (.iinc i n, 3)) (hj : lv[j]? = some (i, .int x)) (hv : x + Int32.ofInt n = v) (hn : i < J.2.2.2.1) (hL : (i, Value.int v) :: lv.filter (fun q => !(q.1 == i) && !(q.1 + 1 == i && q.2.category == 2)) = lv') (k : YY g J Qf V (pc + 3) lv' st) : YY g J Qf V pc lv st :=
  fun p e s m args below meth c H locs ls E hP hS hl => lv_iinc E.1 E.2.1 hd hl hj hv hn hL (fun ls' hl' => k p e s m args below meth c H locs ls' E hP hS hl')
theorem x_lv {g : gX} {J : MD} {Qf : List Frame → Array Value → State → State → Prop} {V : vM} {pc : Nat} {lv : List (Nat × Value)} {st : List Value} {lv' : List (Nat × Value)} (ks : List Nat) (h : lv_pick lv ks = lv') (k : YY g J Qf V pc lv' st) : YY g J Qf V pc lv st :=
  fun p e s m args below meth c H locs ls E hP hS hl => k p e s m args below meth c H locs ls E hP hS (lv_sub hl ks h)
theorem x_if_eq {g : gX} {J : MD} {Qf : List Frame → Array Value → State → State → Prop} {V : vM} {pc : Nat} {lv : List (Nat × Value)} {st : List Value} {x : Int32} {off : Int} (tgt : Nat) (hd : decode J.2.2.1 pc = .ok (.ifCond .eq off, 3)) (ht : (pc : Int) + off = (tgt : Int)) (kt : x = 0 → YY g J Qf V tgt lv st) (kf : ¬ x = 0 → YY g J Qf V (pc + 3) lv st) : YY g J Qf V pc lv (.int x :: st) :=
  fun p e s m args below meth c H locs ls E hP hS hl => lv_if_eq E.1 E.2.1 hd ht (fun q => kt q p e s m args below meth c H locs ls E hP hS hl) (fun q => kf q p e s m args below meth c H locs ls E hP hS hl)
theorem x_icmp_eq {g : gX} {J : MD} {Qf : List Frame → Array Value → State → State → Prop} {V : vM} {pc : Nat} {lv : List (Nat × Value)} {st : List Value} {x y : Int32} {off : Int} (tgt : Nat) (hd : decode J.2.2.1 pc = .ok (.if_icmp .eq off, 3)) (ht : (pc : Int) + off = (tgt : Int)) (kt : x = y → YY g J Qf V tgt lv st) (kf : ¬ x = y → YY g J Qf V (pc + 3) lv st) : YY g J Qf V pc lv (.int y :: .int x :: st) :=
  fun p e s m args below meth c H locs ls E hP hS hl => lv_icmp_eq E.1 E.2.1 hd ht (fun q => kt q p e s m args below meth c H locs ls E hP hS hl) (fun q => kf q p e s m args below meth c H locs ls E hP hS hl)
theorem x_if_ne {g : gX} {J : MD} {Qf : List Frame → Array Value → State → State → Prop} {V : vM} {pc : Nat} {lv : List (Nat × Value)} {st : List Value} {x : Int32} {off : Int} (tgt : Nat) (hd : decode J.2.2.1 pc = .ok (.ifCond .ne off, 3)) (ht : (pc : Int) + off = (tgt : Int)) (kt : ¬ x = 0 → YY g J Qf V tgt lv st) (kf : x = 0 → YY g J Qf V (pc + 3) lv st) : YY g J Qf V pc lv (.int x :: st) :=
  fun p e s m args below meth c H locs ls E hP hS hl => lv_if_ne E.1 E.2.1 hd ht (fun q => kt q p e s m args below meth c H locs ls E hP hS hl) (fun q => kf q p e s m args below meth c H locs ls E hP hS hl)
theorem x_icmp_ne {g : gX} {J : MD} {Qf : List Frame → Array Value → State → State → Prop} {V : vM} {pc : Nat} {lv : List (Nat × Value)} {st : List Value} {x y : Int32} {off : Int} (tgt : Nat) (hd : decode J.2.2.1 pc = .ok (.if_icmp .ne off, 3)) (ht : (pc : Int) + off = (tgt : Int)) (kt : ¬ x = y → YY g J Qf V tgt lv st) (kf : x = y → YY g J Qf V (pc + 3) lv st) : YY g J Qf V pc lv (.int y :: .int x :: st) :=
  fun p e s m args below meth c H locs ls E hP hS hl => lv_icmp_ne E.1 E.2.1 hd ht (fun q => kt q p e s m args below meth c H locs ls E hP hS hl) (fun q => kf q p e s m args below meth c H locs ls E hP hS hl)
theorem x_if_lt {g : gX} {J : MD} {Qf : List Frame → Array Value → State → State → Prop} {V : vM} {pc : Nat} {lv : List (Nat × Value)} {st : List Value} {x : Int32} {off : Int} (tgt : Nat) (hd : decode J.2.2.1 pc = .ok (.ifCond .lt off, 3)) (ht : (pc : Int) + off = (tgt : Int)) (kt : x < 0 → YY g J Qf V tgt lv st) (kf : ¬ x < 0 → YY g J Qf V (pc + 3) lv st) : YY g J Qf V pc lv (.int x :: st) :=
  fun p e s m args below meth c H locs ls E hP hS hl => lv_if_lt E.1 E.2.1 hd ht (fun q => kt q p e s m args below meth c H locs ls E hP hS hl) (fun q => kf q p e s m args below meth c H locs ls E hP hS hl)
theorem x_icmp_lt {g : gX} {J : MD} {Qf : List Frame → Array Value → State → State → Prop} {V : vM} {pc : Nat} {lv : List (Nat × Value)} {st : List Value} {x y : Int32} {off : Int} (tgt : Nat) (hd : decode J.2.2.1 pc = .ok (.if_icmp .lt off, 3)) (ht : (pc : Int) + off = (tgt : Int)) (kt : x < y → YY g J Qf V tgt lv st) (kf : ¬ x < y → YY g J Qf V (pc + 3) lv st) : YY g J Qf V pc lv (.int y :: .int x :: st) :=
  fun p e s m args below meth c H locs ls E hP hS hl => lv_icmp_lt E.1 E.2.1 hd ht (fun q => kt q p e s m args below meth c H locs ls E hP hS hl) (fun q => kf q p e s m args below meth c H locs ls E hP hS hl)
theorem x_if_ge {g : gX} {J : MD} {Qf : List Frame → Array Value → State → State → Prop} {V : vM} {pc : Nat} {lv : List (Nat × Value)} {st : List Value} {x : Int32} {off : Int} (tgt : Nat) (hd : decode J.2.2.1 pc = .ok (.ifCond .ge off, 3)) (ht : (pc : Int) + off = (tgt : Int)) (kt : 0 ≤ x → YY g J Qf V tgt lv st) (kf : ¬ 0 ≤ x → YY g J Qf V (pc + 3) lv st) : YY g J Qf V pc lv (.int x :: st) :=
  fun p e s m args below meth c H locs ls E hP hS hl => lv_if_ge E.1 E.2.1 hd ht (fun q => kt q p e s m args below meth c H locs ls E hP hS hl) (fun q => kf q p e s m args below meth c H locs ls E hP hS hl)
theorem x_icmp_ge {g : gX} {J : MD} {Qf : List Frame → Array Value → State → State → Prop} {V : vM} {pc : Nat} {lv : List (Nat × Value)} {st : List Value} {x y : Int32} {off : Int} (tgt : Nat) (hd : decode J.2.2.1 pc = .ok (.if_icmp .ge off, 3)) (ht : (pc : Int) + off = (tgt : Int)) (kt : y ≤ x → YY g J Qf V tgt lv st) (kf : ¬ y ≤ x → YY g J Qf V (pc + 3) lv st) : YY g J Qf V pc lv (.int y :: .int x :: st) :=
  fun p e s m args below meth c H locs ls E hP hS hl => lv_icmp_ge E.1 E.2.1 hd ht (fun q => kt q p e s m args below meth c H locs ls E hP hS hl) (fun q => kf q p e s m args below meth c H locs ls E hP hS hl)
theorem x_if_gt {g : gX} {J : MD} {Qf : List Frame → Array Value → State → State → Prop} {V : vM} {pc : Nat} {lv : List (Nat × Value)} {st : List Value} {x : Int32} {off : Int} (tgt : Nat) (hd : decode J.2.2.1 pc = .ok (.ifCond .gt off, 3)) (ht : (pc : Int) + off = (tgt : Int)) (kt : 0 < x → YY g J Qf V tgt lv st) (kf : ¬ 0 < x → YY g J Qf V (pc + 3) lv st) : YY g J Qf V pc lv (.int x :: st) :=
  fun p e s m args below meth c H locs ls E hP hS hl => lv_if_gt E.1 E.2.1 hd ht (fun q => kt q p e s m args below meth c H locs ls E hP hS hl) (fun q => kf q p e s m args below meth c H locs ls E hP hS hl)
theorem x_icmp_gt {g : gX} {J : MD} {Qf : List Frame → Array Value → State → State → Prop} {V : vM} {pc : Nat} {lv : List (Nat × Value)} {st : List Value} {x y : Int32} {off : Int} (tgt : Nat) (hd : decode J.2.2.1 pc = .ok (.if_icmp .gt off, 3)) (ht : (pc : Int) + off = (tgt : Int)) (kt : y < x → YY g J Qf V tgt lv st) (kf : ¬ y < x → YY g J Qf V (pc + 3) lv st) : YY g J Qf V pc lv (.int y :: .int x :: st) :=
  fun p e s m args below meth c H locs ls E hP hS hl => lv_icmp_gt E.1 E.2.1 hd ht (fun q => kt q p e s m args below meth c H locs ls E hP hS hl) (fun q => kf q p e s m args below meth c H locs ls E hP hS hl)
theorem x_if_le {g : gX} {J : MD} {Qf : List Frame → Array Value → State → State → Prop} {V : vM} {pc : Nat} {lv : List (Nat × Value)} {st : List Value} {x : Int32} {off : Int} (tgt : Nat) (hd : decode J.2.2.1 pc = .ok (.ifCond .le off, 3)) (ht : (pc : Int) + off = (tgt : Int)) (kt : x ≤ 0 → YY g J Qf V tgt lv st) (kf : ¬ x ≤ 0 → YY g J Qf V (pc + 3) lv st) : YY g J Qf V pc lv (.int x :: st) :=
  fun p e s m args below meth c H locs ls E hP hS hl => lv_if_le E.1 E.2.1 hd ht (fun q => kt q p e s m args below meth c H locs ls E hP hS hl) (fun q => kf q p e s m args below meth c H locs ls E hP hS hl)
theorem x_icmp_le {g : gX} {J : MD} {Qf : List Frame → Array Value → State → State → Prop} {V : vM} {pc : Nat} {lv : List (Nat × Value)} {st : List Value} {x y : Int32} {off : Int} (tgt : Nat) (hd : decode J.2.2.1 pc = .ok (.if_icmp .le off, 3)) (ht : (pc : Int) + off = (tgt : Int)) (kt : x ≤ y → YY g J Qf V tgt lv st) (kf : ¬ x ≤ y → YY g J Qf V (pc + 3) lv st) : YY g J Qf V pc lv (.int y :: .int x :: st) :=
  fun p e s m args below meth c H locs ls E hP hS hl => lv_icmp_le E.1 E.2.1 hd ht (fun q => kt q p e s m args below meth c H locs ls E hP hS hl) (fun q => kf q p e s m args below meth c H locs ls E hP hS hl)
theorem x_goto {g : gX} {J : MD} {Qf : List Frame → Array Value → State → State → Prop} {V : vM} {pc : Nat} {lv : List (Nat × Value)} {st : List Value} {off : Int} (tgt : Nat) (hd : decode J.2.2.1 pc = .ok (.goto off, 3)) (ht : (pc : Int) + off = (tgt : Int)) (k : YY g J Qf V tgt lv st) : YY g J Qf V pc lv st :=
  fun p e s m args below meth c H locs ls E hP hS hl => lv_goto E.1 E.2.1 hd ht (k p e s m args below meth c H locs ls E hP hS hl)
theorem x_tableOut {g : gX} {J : MD} {Qf : List Frame → Array Value → State → State → Prop} {V : vM} {pc : Nat} {lv : List (Nat × Value)} {st : List Value} {dflt lo hi : Int} {offs : Array Int} {len : Nat} {x : Int32} (tgt : Nat) (hd : decode J.2.2.1 pc = .ok (.tableswitch dflt lo hi offs, len)) (h : x.toInt < lo ∨ hi < x.toInt) (ht : (pc : Int) + dflt = (tgt : Int)) (k : YY g J Qf V tgt lv st) : YY g J Qf V pc lv (.int x :: st) :=
  fun p e s m args below meth c H locs ls E hP hS hl => lv_tableOut E.1 E.2.1 hd h ht (k p e s m args below meth c H locs ls E hP hS hl)
theorem x_tableIn {g : gX} {J : MD} {Qf : List Frame → Array Value → State → State → Prop} {V : vM} {pc : Nat} {lv : List (Nat × Value)} {st : List Value} {dflt lo hi : Int} {offs : Array Int} {len : Nat} {x : Int32} {off : Int} (tgt : Nat) (hd : decode J.2.2.1 pc = .ok (.tableswitch dflt lo hi offs, len)) (h1 : ¬ x.toInt < lo) (h2 : ¬ hi < x.toInt) (ho : offs[(x.toInt - lo).toNat]? = some off) (ht : (pc : Int) + off = (tgt : Int)) (k : YY g J Qf V tgt lv st) : YY g J Qf V pc lv (.int x :: st) :=
  fun p e s m args below meth c H locs ls E hP hS hl => lv_tableIn E.1 E.2.1 hd h1 h2 ho ht (k p e s m args below meth c H locs ls E hP hS hl)
theorem x_lookup {g : gX} {J : MD} {Qf : List Frame → Array Value → State → State → Prop} {V : vM} {pc : Nat} {lv : List (Nat × Value)} {st : List Value} {dflt : Int} {ps : Array (Int × Int)} {len : Nat} {x : Int32} {off : Int} (tgt : Nat) (hd : decode J.2.2.1 pc = .ok (.lookupswitch dflt ps, len)) (hp : (ps.toList.zip (ps.toList.drop 1)).all (fun (a, next) => a.1 < next.1) = true) (ho : Op.lookupswitch.offset ps.toList dflt x.toInt = off) (ht : (pc : Int) + off = (tgt : Int)) (k : YY g J Qf V tgt lv st) : YY g J Qf V pc lv (.int x :: st) :=
  fun p e s m args below meth c H locs ls E hP hS hl => lv_lookup E.1 E.2.1 hd hp ho ht (k p e s m args below meth c H locs ls E hP hS hl)
theorem x_ldc {g : gX} {J : MD} {Qf : List Frame → Array Value → State → State → Prop} {V : vM} {pc : Nat} {lv : List (Nat × Value)} {st : List Value} {idx : Nat} {v : Int32} (hw : Cond.constant J.1 idx v ∈ wA) (hd : decode J.2.2.1 pc = .ok (.ldc idx, 2)) (k : YY g J Qf V (pc + 2) lv (.int v :: st)) : YY g J Qf V pc lv st :=
  fun p e s m args below meth c H locs ls E hP hS hl => lv_ldc E.1 E.2.1 E.2.2.2.2.2.1 (E.2.2.2.2.2.2.1 _ hw) hd (k p e s m args below meth c H locs ls E hP hS hl)
theorem x_ldcw {g : gX} {J : MD} {Qf : List Frame → Array Value → State → State → Prop} {V : vM} {pc : Nat} {lv : List (Nat × Value)} {st : List Value} {idx : Nat} {v : Int32} (hw : Cond.constant J.1 idx v ∈ wA) (hd : decode J.2.2.1 pc = .ok (.ldc_w idx, 3)) (k : YY g J Qf V (pc + 3) lv (.int v :: st)) : YY g J Qf V pc lv st :=
  fun p e s m args below meth c H locs ls E hP hS hl => lv_ldcw E.1 E.2.1 E.2.2.2.2.2.1 (E.2.2.2.2.2.2.1 _ hw) hd (k p e s m args below meth c H locs ls E hP hS hl)
theorem x_ldc2 {g : gX} {J : MD} {Qf : List Frame → Array Value → State → State → Prop} {V : vM} {pc : Nat} {lv : List (Nat × Value)} {st : List Value} {idx : Nat} {v : Int64} (hw : Cond.constantLong J.1 idx v ∈ wA) (hd : decode J.2.2.1 pc = .ok (.ldc2_w idx, 3)) (k : YY g J Qf V (pc + 3) lv (.long v :: st)) : YY g J Qf V pc lv st :=
  fun p e s m args below meth c H locs ls E hP hS hl => lv_ldc2 E.1 E.2.1 E.2.2.2.2.2.1 (E.2.2.2.2.2.2.1 _ hw) hd (k p e s m args below meth c H locs ls E hP hS hl)
theorem x_iret {g : gX} {J : MD} {Q : Option Value → vM → Prop} {V : vM} {pc : Nat} {lv : List (Nat × Value)} {v : Int32} (hd : decode J.2.2.1 pc = .ok (.ireturn, 1)) (hr : J.2.2.2.2.1 = some .int) (hq : Q (some (.int v)) V) : XX g J Q V pc lv [.int v] :=
  fun p e s m args below meth c H locs ls E hP hS hl => W.iret E.1 E.2.1 (E.2.2.2.1.trans hr) (fun t ht hW => ⟨⟨_, V, rfl, hq, by rw [ht]; exact hP⟩, hS.F ht⟩) hS.2.2 hd E.2.2.2.2.1
theorem x_zret {g : gX} {J : MD} {Q : Option Value → vM → Prop} {V : vM} {pc : Nat} {lv : List (Nat × Value)} {v : Int32} {ty : FieldType} (hd : decode J.2.2.1 pc = .ok (.ireturn, 1)) (hr : J.2.2.2.2.1 = some ty) (hn : narrow ty (.int v) = .int v) (hq : Q (some (.int v)) V) : XX g J Q V pc lv [.int v] :=
  fun p e s m args below meth c H locs ls E hP hS hl => W.zret E.1 E.2.1 (E.2.2.2.1.trans hr) hn (fun t ht hW => ⟨⟨_, V, rfl, hq, by rw [ht]; exact hP⟩, hS.F ht⟩) hS.2.2 hd E.2.2.2.2.1
theorem x_lret {g : gX} {J : MD} {Q : Option Value → vM → Prop} {V : vM} {pc : Nat} {lv : List (Nat × Value)} {v : Int64} (hd : decode J.2.2.1 pc = .ok (.lreturn, 1)) (hr : J.2.2.2.2.1 = some .long) (hq : Q (some (.long v)) V) : XX g J Q V pc lv [.long v] :=
  fun p e s m args below meth c H locs ls E hP hS hl => W.lret E.1 E.2.1 (E.2.2.2.1.trans hr) (fun t ht hW => ⟨⟨_, V, rfl, hq, by rw [ht]; exact hP⟩, hS.F ht⟩) hS.2.2 hd E.2.2.2.2.1
theorem x_vret {g : gX} {J : MD} {Q : Option Value → vM → Prop} {V : vM} {pc : Nat} {lv : List (Nat × Value)}  (hd : decode J.2.2.1 pc = .ok (.return_, 1)) (hr : J.2.2.2.2.1 = none) (hq : Q (none) V) : XX g J Q V pc lv [] :=
  fun p e s m args below meth c H locs ls E hP hS hl => W.vret E.1 E.2.1 (E.2.2.2.1.trans hr) (fun t ht hW => ⟨⟨_, V, rfl, hq, by rw [ht]; exact hP⟩, hS.F ht⟩) hS.2.2 hd E.2.2.2.2.1
theorem x_aret {g : gX} {J : MD} {Q : Option Value → vM → Prop} {V : vM} {pc : Nat} {lv : List (Nat × Value)} {a : Nat} {ty : FieldType} (hd : decode J.2.2.1 pc = .ok (.areturn, 1)) (hr : J.2.2.2.2.1 = some ty) (hrt : (∃ n, ty = .object n) ∨ ∃ t, ty = .array t) (hq : Q (some (.ref a)) V) : XX g J Q V pc lv [.ref a] :=
  fun p e s m args below meth c H locs ls E hP hS hl => W.aret E.1 E.2.1 (E.2.2.2.1.trans hr) hrt (Or.inr ⟨a, rfl⟩) (fun t ht hW => ⟨⟨_, V, rfl, hq, by rw [ht]; exact hP⟩, hS.F ht⟩) hS.2.2 hd E.2.2.2.2.1
theorem XX.mono {g : gX} {J : MD} {Q Q' : Option Value → vM → Prop} {V : vM} {pc : Nat} {lv : List (Nat × Value)} {st : List Value} (h : ∀ r U, Q r U → Q' r U) (k : XX g J Q V pc lv st) : XX g J Q' V pc lv st := by
  intro p e s m args below meth c H locs ls E hP hS hl T hT X
  obtain ⟨t, h1, o, h2, h3, ⟨⟨r, V', g1, g2, g3⟩, g4⟩, g5⟩ := k p e s m args below meth c H locs ls E hP hS hl T hT X
  exact ⟨t, h1, o, h2, h3, ⟨⟨r, V', g1, h r V' g2, g3⟩, g4⟩, g5⟩
theorem YY.V {g : gX} {J : MD} {Qf : List Frame → Array Value → State → State → Prop} {V V' : vM} {pc : Nat} {lv : List (Nat × Value)} {st : List Value} (h : V = V') (k : YY g J Qf V' pc lv st) : YY g J Qf V pc lv st := h ▸ k
theorem YY.S {g : gX} {J : MD} {Qf : List Frame → Array Value → State → State → Prop} {V : vM} {pc : Nat} {lv : List (Nat × Value)} {st st' : List Value} (h : st = st') (k : YY g J Qf V pc lv st') : YY g J Qf V pc lv st := h ▸ k
theorem YY.L {g : gX} {J : MD} {Qf : List Frame → Array Value → State → State → Prop} {V : vM} {pc : Nat} {lv lv' : List (Nat × Value)} {st : List Value} (h : lv = lv') (k : YY g J Qf V pc lv' st) : YY g J Qf V pc lv st := h ▸ k
theorem x_topi {g : gX} {J : MD} {Qf : List Frame → Array Value → State → State → Prop} {V : vM} {pc : Nat} {lv : List (Nat × Value)} {st : List Value} {x y : Int32} (h : x = y) (k : YY g J Qf V pc lv (.int y :: st)) : YY g J Qf V pc lv (.int x :: st) := h ▸ k
theorem x_topl {g : gX} {J : MD} {Qf : List Frame → Array Value → State → State → Prop} {V : vM} {pc : Nat} {lv : List (Nat × Value)} {st : List Value} {x y : Int64} (h : x = y) (k : YY g J Qf V pc lv (.long y :: st)) : YY g J Qf V pc lv (.long x :: st) := h ▸ k
