/-- a word that the printed names use and the kit lacks: what the tables say of an array of arrays -/
def va_AOA (ty : FieldType) (U : State) : Prop := (Cond.arrayOver (.array ty)).before #[] U = true
theorem va_AOA.use {ty : FieldType} {A : Array Value} {U : State} (h : va_AOA ty U) : (Cond.arrayOver (.array ty)).before A U = true := h
/-! ===== BEGIN words of one list among another's, by their places ===== -/
theorem goodIn_r {big : List Cond} (ws : List Cond) (ps : List Nat) (hp : ws = ps.filterMap (fun i => big[i]?)) (h : ws.all goodWord = true) : GoodIn big ws := by
  intro w hw
  have h1 := List.all_eq_true.mp h w hw
  rw [hp] at hw
  obtain ⟨i, -, hi⟩ := List.mem_filterMap.mp hw
  have hm : w ∈ big := by first | exact List.mem_of_getElem? hi | exact List.getElem?_mem hi
  exact ⟨hm, good_of_word h1⟩
theorem goodIn_app {big a b : List Cond} (ha : GoodIn big a) (hb : GoodIn big b) : GoodIn big (a ++ b) := fun w h => (List.mem_append.mp h).elim (ha w) (hb w)
theorem goodIn_ca {big a b : List Cond} {c : Cond} (ha : GoodIn big (c :: a)) (hb : GoodIn big b) : GoodIn big (c :: (a ++ b)) := fun w h => (List.mem_cons.mp h).elim (fun e => ha w (List.mem_cons.mpr (Or.inl e))) (fun h => (List.mem_append.mp h).elim (fun h => ha w (List.mem_cons.mpr (Or.inr h))) (hb w))
theorem goodIn_sub {big ws : List Cond} (hm : ∀ w ∈ ws, w ∈ big) (h : ws.all goodWord = true) : GoodIn big ws := fun w hw => ⟨hm w hw, good_of_word (List.all_eq_true.mp h w hw)⟩
/-! ===== END ===== -/

/-! ===== BEGIN new T[n][m]: the outer array a place, the inner ones among the pooled ===== -/
/-- f, but v at every address of l -/
def vr_up {α : Type} (f : Nat → α) (l : List Nat) (v : α) : Nat → α := fun a => if a ∈ l then v else f a
theorem vr_up_in {α : Type} {f : Nat → α} {l : List Nat} {v : α} {a : Nat} (h : a ∈ l) : vr_up f l v a = v := if_pos h
theorem vr_up_ne {α : Type} {f : Nat → α} {l : List Nat} {v : α} {a : Nat} (h : a ∉ l) : vr_up f l v a = f a := if_neg h
theorem vr_rows {L l : List Nat} {f : Nat → va_E} {e : va_E} (h : ∀ a, a ∈ l → a ∉ L) : va_pl L f ++ l.map (fun a => (a, e)) = va_pl (L ++ l) (vr_up f l e) := by
  unfold va_pl
  rw [List.map_append]
  congr 1
  · apply List.map_congr_left
    intro a ha
    rw [vr_up_ne (fun q => h a q ha)]
  · apply List.map_congr_left
    intro a ha
    rw [vr_up_in ha]
theorem vr_lay {X rows : va_W} {x : Nat × va_E} {pl : va_W} {D : va_G} {cl : List vw_C} {H : Heap} (hP : va_P D cl (((X ++ pl) ++ [x]) ++ rows) H) : va_P D cl ((X ++ [x]) ++ (pl ++ rows)) H := by
  rw [List.append_assoc (X ++ pl)] at hP
  have h := va_P.swap hP
  rw [← List.append_assoc X] at h
  have h2 := va_P.swap h
  rw [List.append_assoc (X ++ [x])] at h2
  exact h2
theorem vr_layD {X rows : va_W} {x : Nat × va_E} {pl : va_W} {A : Nat → Prop} (hD : va_D A (((X ++ pl) ++ [x]) ++ rows)) : va_D A ((X ++ [x]) ++ (pl ++ rows)) := by
  rw [List.append_assoc (X ++ pl)] at hD
  have h := va_D.swap hD
  rw [← List.append_assoc X] at h
  have h2 := va_D.swap h
  rw [List.append_assoc (X ++ [x])] at h2
  exact h2
theorem vr_outer (c : ClassId) (N h0 : Nat) : ∀ i : Nat, Jvm.Free.Multi.outerC c N h0 i = arrV c N (fun j => va_rf (if j < i then some (h0 + 1 + j) else none))
  | 0 => by
    show ({ cls := c, slots := Array.replicate N .null, vm := .none } : Cell) = _
    rw [arrV_new]
    refine congrArg (arrV c N) (funext fun j => ?_)
    simp [va_rf]
  | i + 1 => by
    show (Jvm.Free.Multi.outerC c N h0 i).setSlot i (.ref (h0 + 1 + i)) = _
    rw [vr_outer c N h0 i, arrV_store]
    refine congrArg (arrV c N) (funext fun j => ?_)
    by_cases e : j = i
    · subst e
      simp [updV, va_rf]
    · by_cases h : j < i
      · simp [updV, e, h, Nat.lt_succ_of_lt h]
      · simp [updV, e, h, show ¬ j < i + 1 by omega]
section VGM
variable {p : Program} {l : Launch} {e : Env} {R : Room} {s : State} {m : MethodId} {args : Array Value} {below : List Frame} {meth : Method} {c : Code} {H : Heap} {locs : List Loc} {cells slots : Nat} {Q : State → Prop}
variable {cc : ByteArray} {pc : Nat} {ls : Array Slot} {rest : List Value} {D : va_G} {cl : List vw_C} {A : Nat → Prop} {a : Nat} {tys : List (ClassId × FieldType)} {ws : va_W} {H0 : Heap}
theorem va_mna {X : va_W} {L : List Nat} {f : Nat → va_E} {cc : ByteArray} (hexec : p.tables.exec = Jvm.exec) (hb : c.code = cc) {own : String} {index : Nat} {ty : FieldType} {cy : ClassId} (hown : s.vm.findClass own = some m.cls) (hclink : (Cond.classLink own index ("[" ++ (FieldType.array ty).toString)).before args s = true) (hover : va_AOA ty s) (harr : (Cond.arrayClass ty).before args s = true) (hcy : s.vm.findClass (FieldType.array ty).toString = some cy)
    (hK : va_K D cl tys s) (hP : va_P D cl (X ++ va_pl L f) H) (hD : va_D A (X ++ va_pl L f)) (hS : va_S A H0 H locs) (hA : ∀ q, H0.size ≤ q → A q) {n k : Int32} {N' K' : Nat} {z : vp_A} (hn : ¬ n < 0) (hk : ¬ k < 0) (hN : n.toNatClampNeg = N') (hM : k.toNatClampNeg = K')
    (hb1 : N' * 4 ≤ 536870912) (hb2 : K' * componentBytes ty ≤ 536870912) (hb3 : K' ≤ 536870912) (hdf : fits ty (defaultValue ty) = true) (hdd : (defaultValue ty).isDefault = true) (hcells : cells + (1 + N') ≤ R.cells) (hslots : slots + (N' + N' * K') ≤ R.slots) (hz : ∀ c : ClassId, Jvm.Free.Multi.innerC c K' (defaultValue ty) = vp_cell c z) (hdg : decode cc pc = .ok (.multianewarray index 2, 4))
    (kk : ∀ (q : Nat) (r : Nat → Nat) (cA : ClassId) (H1 : Heap), (∀ i j : Nat, i < N' → j < N' → r i = r j → i = j) → (∀ i : Nat, i < N' → r i ∉ L) → va_K D cl (tys ++ [(cA, .array ty)]) s →
      va_P D cl ((X ++ [(q, .inl (cA, N', .inr (.inr (.inr (.inr (fun i => if i < N' then some (r i) else none))))))]) ++ va_pl (L ++ (List.range N').map r) (vr_up f ((List.range N').map r) (.inl (cy, z)))) H1 → va_D A ((X ++ [(q, .inl (cA, N', .inr (.inr (.inr (.inr (fun i => if i < N' then some (r i) else none))))))]) ++ va_pl (L ++ (List.range N').map r) (vr_up f ((List.range N').map r) (.inl (cy, z)))) → va_S A H0 H1 locs →
      W p l e R s m args below meth c H1 locs (cells + 1 + N') (slots + N' + N' * K') Q (F0 m (pc + 4) ls (.ref q :: rest))) : W p l e R s m args below meth c H locs cells slots Q (F0 m pc ls (.int k :: .int n :: rest)) := by
  subst hN
  subst hM
  intro T hT Xs
  obtain ⟨vm₁, cA, comp, -, fA, fC, hO, -, X', step⟩ := Xs.multianewarray2F hexec hown hclink (va_AOA.use hover) harr (g := F0 m pc ls (.int k :: .int n :: rest)) rfl (by rw [hb]; exact hdg) rfl hn hk hb1 hb2 hb3 hdf hdd hcells hslots
  have ec : some cy = some comp := hcy.symm.trans fC
  cases ec
  generalize hF : Jvm.Free.Multi.fill (T.setVm vm₁) cA cy n.toNatClampNeg k.toNatClampNeg (defaultValue ty) n.toNatClampNeg = F at X' step
  have hTh : (T.setVm vm₁).heap = H := hT
  obtain ⟨f1, f2, -, -⟩ := Jvm.Free.Multi.fill_facts (T.setVm vm₁) cA cy n.toNatClampNeg k.toNatClampNeg (defaultValue ty) n.toNatClampNeg
  rw [hF, hTh] at f1 f2
  have hold : ∀ x : Nat, x < H.size → F.heap[x]? = H[x]? := fun x hx => by
    have := Jvm.Free.Multi.fill_old (T.setVm vm₁) cA cy n.toNatClampNeg k.toNatClampNeg (defaultValue ty) (a := x) (by rw [hTh]; exact hx) n.toNatClampNeg
    rw [hF, hTh] at this
    exact this
  have hrow : ∀ j : Nat, j < n.toNatClampNeg → F.heap[H.size + 1 + j]? = some (vp_cell cy z) := fun j hj => by
    have := Jvm.Free.Multi.fill_inner (T.setVm vm₁) cA cy n.toNatClampNeg k.toNatClampNeg (defaultValue ty) n.toNatClampNeg j hj
    rw [hF, hTh, hz] at this
    exact this
  have hout : Jvm.Free.Multi.outerC cA n.toNatClampNeg H.size n.toNatClampNeg = vp_cell cA (n.toNatClampNeg, .inr (.inr (.inr (.inr (fun i => if i < n.toNatClampNeg then some (H.size + 1 + i) else none))))) := by
    rw [vp_cell_q]
    exact vr_outer cA n.toNatClampNeg H.size n.toNatClampNeg
  rw [hout] at f2
  have hlt : ∀ a, a ∈ L → a < H.size := fun a ha => by
    obtain ⟨k9, hk9⟩ := va_pl_get (X := X) (f := f) ha
    exact (hP k9 _ hk9).lt
  have hnl : ∀ i : Nat, i < n.toNatClampNeg → H.size + 1 + i ∉ L := fun i _ h => by
    have := hlt _ h
    omega
  have hnm : ∀ a, a ∈ (List.range n.toNatClampNeg).map (fun i => H.size + 1 + i) → a ∉ L := fun a ha h => by
    obtain ⟨i, -, rfl⟩ := List.mem_map.mp ha
    have := hlt _ h
    omega
  have hP0 : va_P D cl (X ++ va_pl L f) F.heap := hP.kept (fun k9 x hx => hold x.1 ((hP k9 x hx).lt))
  have hP1 : va_P D cl ((X ++ va_pl L f) ++ [(H.size, .inl (cA, n.toNatClampNeg, .inr (.inr (.inr (.inr (fun i => if i < n.toNatClampNeg then some (H.size + 1 + i) else none))))))]) F.heap := hP0.app (fun k9 x hx => by
    have h0 : k9 < 1 := (List.getElem?_eq_some_iff.mp hx).1
    rw [show k9 = 0 by omega] at hx
    cases hx
    exact f2)
  have hP2 : va_P D cl (((X ++ va_pl L f) ++ [(H.size, .inl (cA, n.toNatClampNeg, .inr (.inr (.inr (.inr (fun i => if i < n.toNatClampNeg then some (H.size + 1 + i) else none))))))]) ++ ((List.range n.toNatClampNeg).map (fun i => H.size + 1 + i)).map (fun a => (a, .inl (cy, z)))) F.heap := hP1.app (fun k9 x hx => by
    obtain ⟨a, ha, rfl⟩ := List.mem_map.mp (List.mem_of_getElem? hx)
    obtain ⟨i, hi, rfl⟩ := List.mem_map.mp ha
    exact hrow i (List.mem_range.mp hi))
  have hD2 : va_D A (((X ++ va_pl L f) ++ [(H.size, .inl (cA, n.toNatClampNeg, .inr (.inr (.inr (.inr (fun i => if i < n.toNatClampNeg then some (H.size + 1 + i) else none))))))]) ++ ((List.range n.toNatClampNeg).map (fun i => H.size + 1 + i)).map (fun a => (a, .inl (cy, z)))) := by
    have hD1 := hD.push (e := .inl (cA, n.toNatClampNeg, .inr (.inr (.inr (.inr (fun i => if i < n.toNatClampNeg then some (H.size + 1 + i) else none)))))) hP rfl (hA _ hS.1)
    generalize hW1 : (X ++ va_pl L f) ++ [(H.size, .inl (cA, n.toNatClampNeg, .inr (.inr (.inr (.inr (fun i => if i < n.toNatClampNeg then some (H.size + 1 + i) else none))))))] = W1 at hD1 hP1 ⊢
    have hle : ∀ (k9 : Nat) (x : Nat × va_E), W1[k9]? = some x → x.1 ≤ H.size := fun k9 x hx => by
      rw [← hW1] at hx
      by_cases hl : k9 < (X ++ va_pl L f).length
      · rw [List.getElem?_append_left hl] at hx
        exact Nat.le_of_lt ((hP k9 x hx).lt)
      · rw [List.getElem?_append_right (by omega)] at hx
        have h0 : k9 - (X ++ va_pl L f).length < 1 := (List.getElem?_eq_some_iff.mp hx).1
        rw [show k9 - (X ++ va_pl L f).length = 0 by omega] at hx
        cases hx
        exact Nat.le_refl _
    have hr : ∀ (k9 : Nat) (x : Nat × va_E), (((List.range n.toNatClampNeg).map (fun i => H.size + 1 + i)).map (fun a => ((a, .inl (cy, z)) : Nat × va_E)))[k9]? = some x → x.1 = H.size + 1 + k9 := fun k9 x hx => by
      rw [List.getElem?_map, List.getElem?_map] at hx
      by_cases h9 : k9 < n.toNatClampNeg
      · rw [List.getElem?_range h9] at hx
        cases hx
        rfl
      · have hn0 : (List.range n.toNatClampNeg)[k9]? = none := List.getElem?_eq_none (by rw [List.length_range]; omega)
        rw [hn0] at hx
        cases hx
    refine ⟨fun i j x y hi hj hxy => ?_, fun k9 x hx => ?_⟩
    · by_cases h1 : i < W1.length <;> by_cases h2 : j < W1.length
      · rw [List.getElem?_append_left h1] at hi
        rw [List.getElem?_append_left h2] at hj
        exact hD1.1 i j x y hi hj hxy
      · rw [List.getElem?_append_left h1] at hi
        rw [List.getElem?_append_right (by omega)] at hj
        have := hle _ _ hi
        have := hr _ _ hj
        omega
      · rw [List.getElem?_append_right (by omega)] at hi
        rw [List.getElem?_append_left h2] at hj
        have := hle _ _ hj
        have := hr _ _ hi
        omega
      · rw [List.getElem?_append_right (by omega)] at hi hj
        have := hr _ _ hi
        have := hr _ _ hj
        omega
    · by_cases h1 : k9 < W1.length
      · rw [List.getElem?_append_left h1] at hx
        exact hD1.2 k9 x hx
      · rw [List.getElem?_append_right (by omega)] at hx
        have := hr _ _ hx
        exact hA _ (by have := hS.1; omega)
  have hAr : ArrOfT s cA (.array ty) := fun N9 z9 => by
    obtain ⟨-, k9, hk9, cm9, hkk9⟩ := (hO 0 0 0).1
    exact ⟨(fun q hq => by cases hq), k9, hk9, cm9, hkk9⟩
  have hK2 : va_K D cl (tys ++ [(cA, .array ty)]) s := ⟨hK.1, fun k9 x hx => by
    by_cases hl : k9 < tys.length
    · rw [List.getElem?_append_left hl] at hx
      exact hK.2 k9 x hx
    · rw [List.getElem?_append_right (by omega)] at hx
      have h0 : k9 - tys.length < 1 := (List.getElem?_eq_some_iff.mp hx).1
      rw [show k9 - tys.length = 0 by omega] at hx
      cases hx
      exact ⟨hAr, fA⟩⟩
  obtain ⟨t, a1, b1⟩ := kk H.size (fun i => H.size + 1 + i) cA F.heap (fun i j _ _ h => by have h9 : H.size + 1 + i = H.size + 1 + j := h; omega) hnl hK2 (by rw [← vr_rows hnm]; exact vr_lay hP2) (by rw [← vr_rows hnm]; exact vr_layD hD2) ⟨by rw [f1]; have := hS.1; omega, fun x h1 h2 => (hold x (Nat.lt_of_lt_of_le h1 hS.1)).trans (hS.2.1 x h1 h2), hS.2.2⟩ F rfl X'
  refine ⟨t, step t ?_, b1⟩
  have e : T.heap.size = H.size := by rw [hT]
  rw [e]
  exact a1
end VGM
/-! ===== END ===== -/

/-! ===== BEGIN printed: names, fields, word lists, decode rows ===== -/
def RX0 : String := "PathFlattener$Dashes"
def TX0 : u_T := fun k => match k with
  | 0 => ("PathFlattener$Dashes", "lengths", "[I", true)
  | 1 => ("PathFlattener$Dashes", "begins", "[I", true)
  | 2 => ("PathFlattener$Dashes", "ends", "[I", true)
  | 3 => ("PathFlattener$Dashes", "found", "I", false)
  | 4 => ("PathFlattener$Dashes", "size", "I", false)
  | _ => ("PathFlattener$Dashes", "phase", "I", false)
def tyX0 : Nat → FieldType := fun k => match k with
  | 0 => .array .int
  | 1 => .array .int
  | 2 => .array .int
  | 3 => .int
  | 4 => .int
  | _ => .int
abbrev wsX00 : List Cond := u_ws RX0 TX0 6
theorem nmX0 : ∀ a, a < 6 → ∀ b, b < 6 → a ≠ b → (TX0 a).2.1 ≠ (TX0 b).2.1 := by decide +kernel
theorem tyX0_ok : ∀ k, k < 6 → parseFieldDescriptor (TX0 k).2.2.1 = some (tyX0 k) := by decide +kernel
abbrev cX0_init : ByteArray := prog_2_method_1_code
def yX0_init : MethodName := ⟨RX0, "<init>", "()V"⟩
abbrev cX0_append : ByteArray := prog_2_method_2_code
def yX0_append : MethodName := ⟨RX0, "append", "(I)V"⟩
abbrev cX0_layAlong : ByteArray := prog_2_method_3_code
def yX0_layAlong : MethodName := ⟨RX0, "layAlong", "(I)I"⟩
abbrev cX0_layPattern : ByteArray := prog_2_method_4_code
def yX0_layPattern : MethodName := ⟨RX0, "layPattern", "(II)V"⟩
abbrev cX0_keep : ByteArray := prog_2_method_5_code
def yX0_keep : MethodName := ⟨RX0, "keep", "(II)V"⟩
abbrev cX0_has : ByteArray := prog_2_method_6_code
def yX0_has : MethodName := ⟨RX0, "has", "(I)Z"⟩
abbrev cX0_beginOf : ByteArray := prog_2_method_7_code
def yX0_beginOf : MethodName := ⟨RX0, "beginOf", "(I)I"⟩
abbrev cX0_endOf : ByteArray := prog_2_method_8_code
def yX0_endOf : MethodName := ⟨RX0, "endOf", "(I)I"⟩
def RX1 : String := "PathFlattener$Flat"
def TX1 : u_T := fun k => match k with
  | 0 => ("PathFlattener$Flat", "xs", "[I", true)
  | 1 => ("PathFlattener$Flat", "ys", "[I", true)
  | 2 => ("PathFlattener$Flat", "distances", "[I", true)
  | 3 => ("PathFlattener$Flat", "makers", "[I", true)
  | 4 => ("PathFlattener$Flat", "firsts", "[I", true)
  | 5 => ("PathFlattener$Flat", "closed", "[Z", true)
  | 6 => ("PathFlattener$Flat", "halver", "LPathFlattener$Halver;", true)
  | 7 => ("PathFlattener$Flat", "size", "I", false)
  | _ => ("PathFlattener$Flat", "contours", "I", false)
def tyX1 : Nat → FieldType := fun k => match k with
  | 0 => .array .int
  | 1 => .array .int
  | 2 => .array .int
  | 3 => .array .int
  | 4 => .array .int
  | 5 => .array .boolean
  | 6 => .object "PathFlattener$Halver"
  | 7 => .int
  | _ => .int
abbrev wsX10 : List Cond := u_ws RX1 TX1 9
theorem nmX1 : ∀ a, a < 9 → ∀ b, b < 9 → a ≠ b → (TX1 a).2.1 ≠ (TX1 b).2.1 := by decide +kernel
theorem tyX1_ok : ∀ k, k < 9 → parseFieldDescriptor (TX1 k).2.2.1 = some (tyX1 k) := by decide +kernel
abbrev cX1_init : ByteArray := prog_3_method_1_code
def yX1_init : MethodName := ⟨RX1, "<init>", "()V"⟩
abbrev cX1_flatten : ByteArray := prog_3_method_2_code
def yX1_flatten : MethodName := ⟨RX1, "flatten", "(LPathFlattener$Path;I)V"⟩
abbrev cX1_beginContour : ByteArray := prog_3_method_3_code
def yX1_beginContour : MethodName := ⟨RX1, "beginContour", "(III)V"⟩
abbrev cX1_addCurve : ByteArray := prog_3_method_4_code
def yX1_addCurve : MethodName := ⟨RX1, "addCurve", "(LPathFlattener$Path;II)V"⟩
abbrev cX1_addVertex : ByteArray := prog_3_method_5_code
def yX1_addVertex : MethodName := ⟨RX1, "addVertex", "(III)V"⟩
abbrev cX1_append : ByteArray := prog_3_method_6_code
def yX1_append : MethodName := ⟨RX1, "append", "(IIII)V"⟩
abbrev cX1_segmentLength : ByteArray := prog_3_method_7_code
def yX1_segmentLength : MethodName := ⟨RX1, "segmentLength", "(II)I"⟩
abbrev cX1_firstOf : ByteArray := prog_3_method_8_code
def yX1_firstOf : MethodName := ⟨RX1, "firstOf", "(I)I"⟩
abbrev cX1_verticesIn : ByteArray := prog_3_method_9_code
def yX1_verticesIn : MethodName := ⟨RX1, "verticesIn", "(II)I"⟩
abbrev cX1_segmentsIn : ByteArray := prog_3_method_10_code
def yX1_segmentsIn : MethodName := ⟨RX1, "segmentsIn", "(II)I"⟩
abbrev cX1_lengthIn : ByteArray := prog_3_method_11_code
def yX1_lengthIn : MethodName := ⟨RX1, "lengthIn", "(II)I"⟩
abbrev cX1_has : ByteArray := prog_3_method_12_code
def yX1_has : MethodName := ⟨RX1, "has", "(I)Z"⟩
abbrev cX1_hasSegments : ByteArray := prog_3_method_13_code
def yX1_hasSegments : MethodName := ⟨RX1, "hasSegments", "(I)Z"⟩
abbrev cX1_isClosed : ByteArray := prog_3_method_14_code
def yX1_isClosed : MethodName := ⟨RX1, "isClosed", "(I)Z"⟩
abbrev cX1_isVertex : ByteArray := prog_3_method_15_code
def yX1_isVertex : MethodName := ⟨RX1, "isVertex", "(I)Z"⟩
abbrev cX1_lengthOf : ByteArray := prog_3_method_16_code
def yX1_lengthOf : MethodName := ⟨RX1, "lengthOf", "(I)I"⟩
abbrev cX1_lengthMadeBy : ByteArray := prog_3_method_17_code
def yX1_lengthMadeBy : MethodName := ⟨RX1, "lengthMadeBy", "(I)I"⟩
abbrev cX1_vertexNumber : ByteArray := prog_3_method_18_code
def yX1_vertexNumber : MethodName := ⟨RX1, "vertexNumber", "(II)I"⟩
abbrev cX1_segmentAt : ByteArray := prog_3_method_19_code
def yX1_segmentAt : MethodName := ⟨RX1, "segmentAt", "(II)I"⟩
abbrev cX1_pointNumber : ByteArray := prog_3_method_20_code
def yX1_pointNumber : MethodName := ⟨RX1, "pointNumber", "(III)I"⟩
abbrev cX1_numberOf : ByteArray := prog_3_method_21_code
def yX1_numberOf : MethodName := ⟨RX1, "numberOf", "(II)I"⟩
abbrev cX1_difference : ByteArray := prog_3_method_22_code
def yX1_difference : MethodName := ⟨RX1, "difference", "([II)I"⟩
abbrev cX1_along : ByteArray := prog_3_method_23_code
def yX1_along : MethodName := ⟨RX1, "along", "([III)I"⟩
abbrev cX1_isBackward : ByteArray := prog_3_method_24_code
def yX1_isBackward : MethodName := ⟨RX1, "isBackward", "(II)Z"⟩
abbrev cX1_nearestNumber : ByteArray := prog_3_method_25_code
def yX1_nearestNumber : MethodName := ⟨RX1, "nearestNumber", "(III)I"⟩
abbrev cX1_squareTo : ByteArray := prog_3_method_26_code
def yX1_squareTo : MethodName := ⟨RX1, "squareTo", "(III)I"⟩
abbrev cX1_nearestOn : ByteArray := prog_3_method_27_code
def yX1_nearestOn : MethodName := ⟨RX1, "nearestOn", "([IIII)I"⟩
abbrev cX1_vertexBefore : ByteArray := prog_3_method_28_code
def yX1_vertexBefore : MethodName := ⟨RX1, "vertexBefore", "(II)I"⟩
abbrev cX1_windingAround : ByteArray := prog_3_method_29_code
def yX1_windingAround : MethodName := ⟨RX1, "windingAround", "(II)I"⟩
abbrev cX1_crossing : ByteArray := prog_3_method_30_code
def yX1_crossing : MethodName := ⟨RX1, "crossing", "(IIII)I"⟩
abbrev cX1_twiceTheArea : ByteArray := prog_3_method_31_code
def yX1_twiceTheArea : MethodName := ⟨RX1, "twiceTheArea", "(I)J"⟩
abbrev cX1_turn : ByteArray := prog_3_method_32_code
def yX1_turn : MethodName := ⟨RX1, "turn", "(II)I"⟩
abbrev cX1_deviationScale : ByteArray := prog_3_method_33_code
def yX1_deviationScale : MethodName := ⟨RX1, "deviationScale", "(II)J"⟩
abbrev cX1_deviation : ByteArray := prog_3_method_34_code
def yX1_deviation : MethodName := ⟨RX1, "deviation", "(III)J"⟩
abbrev cX1_boundOf : ByteArray := prog_3_method_35_code
def yX1_boundOf : MethodName := ⟨RX1, "boundOf", "(III)I"⟩
def RX2 : String := "PathFlattener$Halver"
def TX2 : u_T := fun k => match k with
  | 0 => ("PathFlattener$Halver", "pieces", "[[I", true)
  | 1 => ("PathFlattener$Halver", "halvings", "[I", true)
  | 2 => ("PathFlattener$Halver", "waiting", "I", false)
  | _ => ("PathFlattener$Halver", "last", "I", false)
def tyX2 : Nat → FieldType := fun k => match k with
  | 0 => .array (.array .int)
  | 1 => .array .int
  | 2 => .int
  | _ => .int
abbrev wsX20 : List Cond := u_ws RX2 TX2 4
theorem nmX2 : ∀ a, a < 4 → ∀ b, b < 4 → a ≠ b → (TX2 a).2.1 ≠ (TX2 b).2.1 := by decide +kernel
theorem tyX2_ok : ∀ k, k < 4 → parseFieldDescriptor (TX2 k).2.2.1 = some (tyX2 k) := by decide +kernel
abbrev cX2_init : ByteArray := prog_4_method_1_code
def yX2_init : MethodName := ⟨RX2, "<init>", "()V"⟩
abbrev cX2_begin : ByteArray := prog_4_method_2_code
def yX2_begin : MethodName := ⟨RX2, "begin", "(LPathFlattener$Path;III)V"⟩
abbrev cX2_hasMore : ByteArray := prog_4_method_3_code
def yX2_hasMore : MethodName := ⟨RX2, "hasMore", "()Z"⟩
abbrev cX2_halveNext : ByteArray := prog_4_method_4_code
def yX2_halveNext : MethodName := ⟨RX2, "halveNext", "(I)V"⟩
abbrev cX2_nextX : ByteArray := prog_4_method_5_code
def yX2_nextX : MethodName := ⟨RX2, "nextX", "()I"⟩
abbrev cX2_nextY : ByteArray := prog_4_method_6_code
def yX2_nextY : MethodName := ⟨RX2, "nextY", "()I"⟩
abbrev cX2_dropNext : ByteArray := prog_4_method_7_code
def yX2_dropNext : MethodName := ⟨RX2, "dropNext", "()V"⟩
abbrev cX2_isFlat : ByteArray := prog_4_method_8_code
def yX2_isFlat : MethodName := ⟨RX2, "isFlat", "([II)Z"⟩
abbrev cX2_halve : ByteArray := prog_4_method_9_code
def yX2_halve : MethodName := ⟨RX2, "halve", "([I[I)V"⟩
def RX3 : String := "PathFlattener$Lettering"
def TX3 : u_T := fun k => match k with
  | 0 => ("PathFlattener$Lettering", "letters", "[I", true)
  | 1 => ("PathFlattener$Lettering", "widths", "[I", true)
  | 2 => ("PathFlattener$Lettering", "kernings", "[I", true)
  | 3 => ("PathFlattener$Lettering", "centers", "[I", true)
  | 4 => ("PathFlattener$Lettering", "homes", "[I", true)
  | 5 => ("PathFlattener$Lettering", "size", "I", false)
  | 6 => ("PathFlattener$Lettering", "pairs", "I", false)
  | 7 => ("PathFlattener$Lettering", "offset", "I", false)
  | 8 => ("PathFlattener$Lettering", "spacing", "I", false)
  | _ => ("PathFlattener$Lettering", "mode", "I", false)
def tyX3 : Nat → FieldType := fun k => match k with
  | 0 => .array .int
  | 1 => .array .int
  | 2 => .array .int
  | 3 => .array .int
  | 4 => .array .int
  | 5 => .int
  | 6 => .int
  | 7 => .int
  | 8 => .int
  | _ => .int
abbrev wsX30 : List Cond := u_ws RX3 TX3 10
theorem nmX3 : ∀ a, a < 10 → ∀ b, b < 10 → a ≠ b → (TX3 a).2.1 ≠ (TX3 b).2.1 := by decide +kernel
theorem tyX3_ok : ∀ k, k < 10 → parseFieldDescriptor (TX3 k).2.2.1 = some (tyX3 k) := by decide +kernel
abbrev cX3_init : ByteArray := prog_5_method_1_code
def yX3_init : MethodName := ⟨RX3, "<init>", "()V"⟩
abbrev cX3_append : ByteArray := prog_5_method_2_code
def yX3_append : MethodName := ⟨RX3, "append", "(I)V"⟩
abbrev cX3_changeWidth : ByteArray := prog_5_method_3_code
def yX3_changeWidth : MethodName := ⟨RX3, "changeWidth", "(II)I"⟩
abbrev cX3_kerningOf : ByteArray := prog_5_method_4_code
def yX3_kerningOf : MethodName := ⟨RX3, "kerningOf", "(II)I"⟩
abbrev cX3_pairsBeside : ByteArray := prog_5_method_5_code
def yX3_pairsBeside : MethodName := ⟨RX3, "pairsBeside", "(II)I"⟩
abbrev cX3_changeKerning : ByteArray := prog_5_method_6_code
def yX3_changeKerning : MethodName := ⟨RX3, "changeKerning", "(III)I"⟩
abbrev cX3_letterAt : ByteArray := prog_5_method_7_code
def yX3_letterAt : MethodName := ⟨RX3, "letterAt", "(I)I"⟩
abbrev cX3_widthAt : ByteArray := prog_5_method_8_code
def yX3_widthAt : MethodName := ⟨RX3, "widthAt", "(I)I"⟩
abbrev cX3_stepAfter : ByteArray := prog_5_method_9_code
def yX3_stepAfter : MethodName := ⟨RX3, "stepAfter", "(I)I"⟩
abbrev cX3_layOn : ByteArray := prog_5_method_10_code
def yX3_layOn : MethodName := ⟨RX3, "layOn", "(LPathFlattener$Flat;I)V"⟩
abbrev cX3_layOnOne : ByteArray := prog_5_method_11_code
def yX3_layOnOne : MethodName := ⟨RX3, "layOnOne", "(LPathFlattener$Flat;I)V"⟩
abbrev cX3_endOfAll : ByteArray := prog_5_method_12_code
def yX3_endOfAll : MethodName := ⟨RX3, "endOfAll", "()I"⟩
abbrev cX3_squeeze : ByteArray := prog_5_method_13_code
def yX3_squeeze : MethodName := ⟨RX3, "squeeze", "(III)I"⟩
abbrev cX3_layMovingOn : ByteArray := prog_5_method_14_code
def yX3_layMovingOn : MethodName := ⟨RX3, "layMovingOn", "(LPathFlattener$Flat;I)V"⟩
abbrev cX3_placeNumber : ByteArray := prog_5_method_15_code
def yX3_placeNumber : MethodName := ⟨RX3, "placeNumber", "(LPathFlattener$Flat;II)I"⟩
abbrev cX3_lettersPlaced : ByteArray := prog_5_method_16_code
def yX3_lettersPlaced : MethodName := ⟨RX3, "lettersPlaced", "()I"⟩
abbrev cX3_turnsBackward : ByteArray := prog_5_method_17_code
def yX3_turnsBackward : MethodName := ⟨RX3, "turnsBackward", "(LPathFlattener$Flat;)I"⟩
def RX4 : String := "PathFlattener$Pad"
def TX4 : u_T := fun k => match k with
  | 0 => ("PathFlattener$Pad", "text", "[C", true)
  | 1 => ("PathFlattener$Pad", "reader", "LPathFlattener$Reader;", true)
  | _ => ("PathFlattener$Pad", "size", "I", false)
def tyX4 : Nat → FieldType := fun k => match k with
  | 0 => .array .char
  | 1 => .object "PathFlattener$Reader"
  | _ => .int
abbrev wsX40 : List Cond := u_ws RX4 TX4 3
theorem nmX4 : ∀ a, a < 3 → ∀ b, b < 3 → a ≠ b → (TX4 a).2.1 ≠ (TX4 b).2.1 := by decide +kernel
theorem tyX4_ok : ∀ k, k < 3 → parseFieldDescriptor (TX4 k).2.2.1 = some (tyX4 k) := by decide +kernel
abbrev cX4_init : ByteArray := prog_6_method_1_code
def yX4_init : MethodName := ⟨RX4, "<init>", "()V"⟩
abbrev cX4_append : ByteArray := prog_6_method_2_code
def yX4_append : MethodName := ⟨RX4, "append", "(C)V"⟩
abbrev cX4_readInto : ByteArray := prog_6_method_3_code
def yX4_readInto : MethodName := ⟨RX4, "readInto", "(LPathFlattener$Path;)I"⟩
abbrev cX4_commandsRead : ByteArray := prog_6_method_4_code
def yX4_commandsRead : MethodName := ⟨RX4, "commandsRead", "()I"⟩
def RX5 : String := "PathFlattener$Path"
def TX5 : u_T := fun k => match k with
  | 0 => ("PathFlattener$Path", "kinds", "[I", true)
  | 1 => ("PathFlattener$Path", "numbers", "[I", true)
  | 2 => ("PathFlattener$Path", "size", "I", false)
  | _ => ("PathFlattener$Path", "contours", "I", false)
def tyX5 : Nat → FieldType := fun k => match k with
  | 0 => .array .int
  | 1 => .array .int
  | 2 => .int
  | _ => .int
abbrev wsX50 : List Cond := u_ws RX5 TX5 4
theorem nmX5 : ∀ a, a < 4 → ∀ b, b < 4 → a ≠ b → (TX5 a).2.1 ≠ (TX5 b).2.1 := by decide +kernel
theorem tyX5_ok : ∀ k, k < 4 → parseFieldDescriptor (TX5 k).2.2.1 = some (tyX5 k) := by decide +kernel
abbrev cX5_init : ByteArray := prog_7_method_1_code
def yX5_init : MethodName := ⟨RX5, "<init>", "()V"⟩
abbrev cX5_clear : ByteArray := prog_7_method_2_code
def yX5_clear : MethodName := ⟨RX5, "clear", "()V"⟩
abbrev cX5_add : ByteArray := prog_7_method_3_code
def yX5_add : MethodName := ⟨RX5, "add", "(IIIIIII)V"⟩
abbrev cX5_addKind : ByteArray := prog_7_method_4_code
def yX5_addKind : MethodName := ⟨RX5, "addKind", "(I)Z"⟩
abbrev cX5_dropLast : ByteArray := prog_7_method_5_code
def yX5_dropLast : MethodName := ⟨RX5, "dropLast", "()V"⟩
abbrev cX5_become : ByteArray := prog_7_method_6_code
def yX5_become : MethodName := ⟨RX5, "become", "(LPathFlattener$Path;)V"⟩
abbrev cX5_isOpen : ByteArray := prog_7_method_7_code
def yX5_isOpen : MethodName := ⟨RX5, "isOpen", "()Z"⟩
abbrev cX5_kindOf : ByteArray := prog_7_method_8_code
def yX5_kindOf : MethodName := ⟨RX5, "kindOf", "(I)I"⟩
abbrev cX5_pointsOf : ByteArray := prog_7_method_9_code
def yX5_pointsOf : MethodName := ⟨RX5, "pointsOf", "(I)I"⟩
abbrev cX5_numberOf : ByteArray := prog_7_method_10_code
def yX5_numberOf : MethodName := ⟨RX5, "numberOf", "(II)I"⟩
abbrev cX5_endX : ByteArray := prog_7_method_11_code
def yX5_endX : MethodName := ⟨RX5, "endX", "(I)I"⟩
abbrev cX5_endY : ByteArray := prog_7_method_12_code
def yX5_endY : MethodName := ⟨RX5, "endY", "(I)I"⟩
abbrev cX5_control : ByteArray := prog_7_method_13_code
def yX5_control : MethodName := ⟨RX5, "control", "(II)I"⟩
abbrev cX5_contourOf : ByteArray := prog_7_method_14_code
def yX5_contourOf : MethodName := ⟨RX5, "contourOf", "(I)I"⟩
abbrev cX5_firstOf : ByteArray := prog_7_method_15_code
def yX5_firstOf : MethodName := ⟨RX5, "firstOf", "(I)I"⟩
abbrev cX5_behind : ByteArray := prog_7_method_16_code
def yX5_behind : MethodName := ⟨RX5, "behind", "(I)I"⟩
abbrev cX5_areClosed : ByteArray := prog_7_method_17_code
def yX5_areClosed : MethodName := ⟨RX5, "areClosed", "(II)Z"⟩
abbrev cX5_isInRange : ByteArray := prog_7_method_18_code
def yX5_isInRange : MethodName := ⟨RX5, "isInRange", "()Z"⟩
abbrev cX5_becomeTransformed : ByteArray := prog_7_method_19_code
def yX5_becomeTransformed : MethodName := ⟨RX5, "becomeTransformed", "(LPathFlattener$Path;IIIIII)V"⟩
abbrev cX5_becomeReversed : ByteArray := prog_7_method_20_code
def yX5_becomeReversed : MethodName := ⟨RX5, "becomeReversed", "(LPathFlattener$Path;I)V"⟩
abbrev cX5_addCopies : ByteArray := prog_7_method_21_code
def yX5_addCopies : MethodName := ⟨RX5, "addCopies", "(LPathFlattener$Path;II)V"⟩
abbrev cX5_addBackward : ByteArray := prog_7_method_22_code
def yX5_addBackward : MethodName := ⟨RX5, "addBackward", "(LPathFlattener$Path;I)V"⟩
def RX6 : String := "PathFlattener$Reader"
def TX6 : u_T := fun k => match k with
  | 0 => ("PathFlattener$Reader", "numbers", "[I", true)
  | 1 => ("PathFlattener$Reader", "kind", "I", false)
  | 2 => ("PathFlattener$Reader", "small", "Z", false)
  | 3 => ("PathFlattener$Reader", "needed", "I", false)
  | 4 => ("PathFlattener$Reader", "complete", "I", false)
  | 5 => ("PathFlattener$Reader", "value", "I", false)
  | 6 => ("PathFlattener$Reader", "digits", "I", false)
  | 7 => ("PathFlattener$Reader", "negative", "Z", false)
  | 8 => ("PathFlattener$Reader", "x", "I", false)
  | 9 => ("PathFlattener$Reader", "y", "I", false)
  | 10 => ("PathFlattener$Reader", "startX", "I", false)
  | 11 => ("PathFlattener$Reader", "startY", "I", false)
  | _ => ("PathFlattener$Reader", "commands", "I", false)
def tyX6 : Nat → FieldType := fun k => match k with
  | 0 => .array .int
  | 1 => .int
  | 2 => .boolean
  | 3 => .int
  | 4 => .int
  | 5 => .int
  | 6 => .int
  | 7 => .boolean
  | 8 => .int
  | 9 => .int
  | 10 => .int
  | 11 => .int
  | _ => .int
abbrev wsX60 : List Cond := u_ws RX6 TX6 13
theorem nmX6 : ∀ a, a < 13 → ∀ b, b < 13 → a ≠ b → (TX6 a).2.1 ≠ (TX6 b).2.1 := by decide +kernel
theorem tyX6_ok : ∀ k, k < 13 → parseFieldDescriptor (TX6 k).2.2.1 = some (tyX6 k) := by decide +kernel
abbrev cX6_init : ByteArray := prog_8_method_1_code
def yX6_init : MethodName := ⟨RX6, "<init>", "()V"⟩
abbrev cX6_begin : ByteArray := prog_8_method_2_code
def yX6_begin : MethodName := ⟨RX6, "begin", "()V"⟩
abbrev cX6_beginNumber : ByteArray := prog_8_method_3_code
def yX6_beginNumber : MethodName := ⟨RX6, "beginNumber", "()V"⟩
abbrev cX6_takes : ByteArray := prog_8_method_4_code
def yX6_takes : MethodName := ⟨RX6, "takes", "(CLPathFlattener$Path;)Z"⟩
abbrev cX6_takesDigit : ByteArray := prog_8_method_5_code
def yX6_takesDigit : MethodName := ⟨RX6, "takesDigit", "(I)Z"⟩
abbrev cX6_takesMinus : ByteArray := prog_8_method_6_code
def yX6_takesMinus : MethodName := ⟨RX6, "takesMinus", "()Z"⟩
abbrev cX6_takesComma : ByteArray := prog_8_method_7_code
def yX6_takesComma : MethodName := ⟨RX6, "takesComma", "()Z"⟩
abbrev cX6_takesKind : ByteArray := prog_8_method_8_code
def yX6_takesKind : MethodName := ⟨RX6, "takesKind", "(CLPathFlattener$Path;)Z"⟩
abbrev cX6_canBegin : ByteArray := prog_8_method_9_code
def yX6_canBegin : MethodName := ⟨RX6, "canBegin", "(I)Z"⟩
abbrev cX6_isWhole : ByteArray := prog_8_method_10_code
def yX6_isWhole : MethodName := ⟨RX6, "isWhole", "()Z"⟩
abbrev cX6_finishNumber : ByteArray := prog_8_method_11_code
def yX6_finishNumber : MethodName := ⟨RX6, "finishNumber", "()V"⟩
abbrev cX6_finishCommand : ByteArray := prog_8_method_12_code
def yX6_finishCommand : MethodName := ⟨RX6, "finishCommand", "(LPathFlattener$Path;)V"⟩
abbrev cX6_shiftNumbers : ByteArray := prog_8_method_13_code
def yX6_shiftNumbers : MethodName := ⟨RX6, "shiftNumbers", "()V"⟩
def RX7 : String := "PathFlattener$Simplifier"
def TX7 : u_T := fun k => match k with
  | 0 => ("PathFlattener$Simplifier", "keeps", "[Z", true)
  | 1 => ("PathFlattener$Simplifier", "first", "I", false)
  | _ => ("PathFlattener$Simplifier", "size", "I", false)
def tyX7 : Nat → FieldType := fun k => match k with
  | 0 => .array .boolean
  | 1 => .int
  | _ => .int
abbrev wsX70 : List Cond := u_ws RX7 TX7 3
theorem nmX7 : ∀ a, a < 3 → ∀ b, b < 3 → a ≠ b → (TX7 a).2.1 ≠ (TX7 b).2.1 := by decide +kernel
theorem tyX7_ok : ∀ k, k < 3 → parseFieldDescriptor (TX7 k).2.2.1 = some (tyX7 k) := by decide +kernel
abbrev cX7_init : ByteArray := prog_9_method_1_code
def yX7_init : MethodName := ⟨RX7, "<init>", "()V"⟩
abbrev cX7_simplify : ByteArray := prog_9_method_2_code
def yX7_simplify : MethodName := ⟨RX7, "simplify", "(LPathFlattener$Flat;II)V"⟩
abbrev cX7_nextKept : ByteArray := prog_9_method_3_code
def yX7_nextKept : MethodName := ⟨RX7, "nextKept", "(I)I"⟩
abbrev cX7_worstBetween : ByteArray := prog_9_method_4_code
def yX7_worstBetween : MethodName := ⟨RX7, "worstBetween", "(LPathFlattener$Flat;III)I"⟩
abbrev cX7_kept : ByteArray := prog_9_method_5_code
def yX7_kept : MethodName := ⟨RX7, "kept", "()I"⟩
abbrev cX7_keptVertex : ByteArray := prog_9_method_6_code
def yX7_keptVertex : MethodName := ⟨RX7, "keptVertex", "(I)I"⟩
def RX8 : String := "PathFlattener$Speller"
def TX8 : u_T := fun k => match k with
  | 0 => ("PathFlattener$Speller", "text", "[C", true)
  | _ => ("PathFlattener$Speller", "size", "I", false)
def tyX8 : Nat → FieldType := fun k => match k with
  | 0 => .array .char
  | _ => .int
abbrev wsX80 : List Cond := u_ws RX8 TX8 2
theorem nmX8 : ∀ a, a < 2 → ∀ b, b < 2 → a ≠ b → (TX8 a).2.1 ≠ (TX8 b).2.1 := by decide +kernel
theorem tyX8_ok : ∀ k, k < 2 → parseFieldDescriptor (TX8 k).2.2.1 = some (tyX8 k) := by decide +kernel
abbrev cX8_init : ByteArray := prog_10_method_1_code
def yX8_init : MethodName := ⟨RX8, "<init>", "()V"⟩
abbrev cX8_characterAt : ByteArray := prog_10_method_2_code
def yX8_characterAt : MethodName := ⟨RX8, "characterAt", "(I)I"⟩
abbrev cX8_spellOut : ByteArray := prog_10_method_3_code
def yX8_spellOut : MethodName := ⟨RX8, "spellOut", "(LPathFlattener$Path;)V"⟩
abbrev cX8_spellNumbers : ByteArray := prog_10_method_4_code
def yX8_spellNumbers : MethodName := ⟨RX8, "spellNumbers", "(LPathFlattener$Path;I)V"⟩
abbrev cX8_spellNumber : ByteArray := prog_10_method_5_code
def yX8_spellNumber : MethodName := ⟨RX8, "spellNumber", "(I)V"⟩
abbrev cX8_append : ByteArray := prog_10_method_6_code
def yX8_append : MethodName := ⟨RX8, "append", "(C)V"⟩
def RX9 : String := "PathFlattener"
def TX9 : u_T := fun k => match k with
  | 0 => ("PathFlattener", "path", "LPathFlattener$Path;", true)
  | 1 => ("PathFlattener", "spare", "LPathFlattener$Path;", true)
  | 2 => ("PathFlattener", "firstSaved", "LPathFlattener$Path;", true)
  | 3 => ("PathFlattener", "secondSaved", "LPathFlattener$Path;", true)
  | 4 => ("PathFlattener", "savedTolerances", "[I", true)
  | 5 => ("PathFlattener", "cachedFlat", "LPathFlattener$Flat;", true)
  | 6 => ("PathFlattener", "simplifier", "LPathFlattener$Simplifier;", true)
  | 7 => ("PathFlattener", "dashes", "LPathFlattener$Dashes;", true)
  | 8 => ("PathFlattener", "lettering", "LPathFlattener$Lettering;", true)
  | 9 => ("PathFlattener", "pad", "LPathFlattener$Pad;", true)
  | 10 => ("PathFlattener", "speller", "LPathFlattener$Speller;", true)
  | 11 => ("PathFlattener", "tolerance", "I", false)
  | _ => ("PathFlattener", "stale", "Z", false)
def tyX9 : Nat → FieldType := fun k => match k with
  | 0 => .object "PathFlattener$Path"
  | 1 => .object "PathFlattener$Path"
  | 2 => .object "PathFlattener$Path"
  | 3 => .object "PathFlattener$Path"
  | 4 => .array .int
  | 5 => .object "PathFlattener$Flat"
  | 6 => .object "PathFlattener$Simplifier"
  | 7 => .object "PathFlattener$Dashes"
  | 8 => .object "PathFlattener$Lettering"
  | 9 => .object "PathFlattener$Pad"
  | 10 => .object "PathFlattener$Speller"
  | 11 => .int
  | _ => .boolean
abbrev wsX90 : List Cond := u_ws RX9 TX9 13
theorem nmX9 : ∀ a, a < 13 → ∀ b, b < 13 → a ≠ b → (TX9 a).2.1 ≠ (TX9 b).2.1 := by decide +kernel
theorem tyX9_ok : ∀ k, k < 13 → parseFieldDescriptor (TX9 k).2.2.1 = some (tyX9 k) := by decide +kernel
abbrev cX9_init : ByteArray := prog_1_method_1_code
def yX9_init : MethodName := ⟨RX9, "<init>", "()V"⟩
abbrev cX9_move : ByteArray := prog_1_method_2_code
def yX9_move : MethodName := ⟨RX9, "move", "(II)I"⟩
abbrev cX9_line : ByteArray := prog_1_method_3_code
def yX9_line : MethodName := ⟨RX9, "line", "(II)I"⟩
abbrev cX9_quad : ByteArray := prog_1_method_4_code
def yX9_quad : MethodName := ⟨RX9, "quad", "(IIII)I"⟩
abbrev cX9_cubic : ByteArray := prog_1_method_5_code
def yX9_cubic : MethodName := ⟨RX9, "cubic", "(IIIIII)I"⟩
abbrev cX9_close : ByteArray := prog_1_method_6_code
def yX9_close : MethodName := ⟨RX9, "close", "()I"⟩
abbrev cX9_removeLast : ByteArray := prog_1_method_7_code
def yX9_removeLast : MethodName := ⟨RX9, "removeLast", "()I"⟩
abbrev cX9_command : ByteArray := prog_1_method_8_code
def yX9_command : MethodName := ⟨RX9, "command", "(II)I"⟩
abbrev cX9_setTolerance : ByteArray := prog_1_method_9_code
def yX9_setTolerance : MethodName := ⟨RX9, "setTolerance", "(I)I"⟩
abbrev cX9_reverse : ByteArray := prog_1_method_10_code
def yX9_reverse : MethodName := ⟨RX9, "reverse", "(I)I"⟩
abbrev cX9_transform : ByteArray := prog_1_method_11_code
def yX9_transform : MethodName := ⟨RX9, "transform", "(IIIIII)I"⟩
abbrev cX9_say : ByteArray := prog_1_method_12_code
def yX9_say : MethodName := ⟨RX9, "say", "(I)I"⟩
abbrev cX9_wipe : ByteArray := prog_1_method_13_code
def yX9_wipe : MethodName := ⟨RX9, "wipe", "()I"⟩
abbrev cX9_fault : ByteArray := prog_1_method_14_code
def yX9_fault : MethodName := ⟨RX9, "fault", "()I"⟩
abbrev cX9_load : ByteArray := prog_1_method_15_code
def yX9_load : MethodName := ⟨RX9, "load", "()I"⟩
abbrev cX9_spell : ByteArray := prog_1_method_16_code
def yX9_spell : MethodName := ⟨RX9, "spell", "(I)I"⟩
abbrev cX9_measure : ByteArray := prog_1_method_17_code
def yX9_measure : MethodName := ⟨RX9, "measure", "(II)I"⟩
abbrev cX9_vertex : ByteArray := prog_1_method_18_code
def yX9_vertex : MethodName := ⟨RX9, "vertex", "(III)I"⟩
abbrev cX9_at : ByteArray := prog_1_method_19_code
def yX9_at : MethodName := ⟨RX9, "at", "(III)I"⟩
abbrev cX9_nearest : ByteArray := prog_1_method_20_code
def yX9_nearest : MethodName := ⟨RX9, "nearest", "(III)I"⟩
abbrev cX9_winding : ByteArray := prog_1_method_21_code
def yX9_winding : MethodName := ⟨RX9, "winding", "(II)I"⟩
abbrev cX9_area : ByteArray := prog_1_method_22_code
def yX9_area : MethodName := ⟨RX9, "area", "(I)J"⟩
abbrev cX9_bound : ByteArray := prog_1_method_23_code
def yX9_bound : MethodName := ⟨RX9, "bound", "(II)I"⟩
abbrev cX9_simplified : ByteArray := prog_1_method_24_code
def yX9_simplified : MethodName := ⟨RX9, "simplified", "(III)I"⟩
abbrev cX9_addDash : ByteArray := prog_1_method_25_code
def yX9_addDash : MethodName := ⟨RX9, "addDash", "(I)I"⟩
abbrev cX9_clearDashes : ByteArray := prog_1_method_26_code
def yX9_clearDashes : MethodName := ⟨RX9, "clearDashes", "(I)I"⟩
abbrev cX9_dash : ByteArray := prog_1_method_27_code
def yX9_dash : MethodName := ⟨RX9, "dash", "(III)I"⟩
abbrev cX9_setWidth : ByteArray := prog_1_method_28_code
def yX9_setWidth : MethodName := ⟨RX9, "setWidth", "(II)I"⟩
abbrev cX9_setKerning : ByteArray := prog_1_method_29_code
def yX9_setKerning : MethodName := ⟨RX9, "setKerning", "(III)I"⟩
abbrev cX9_write : ByteArray := prog_1_method_30_code
def yX9_write : MethodName := ⟨RX9, "write", "(I)I"⟩
abbrev cX9_erase : ByteArray := prog_1_method_31_code
def yX9_erase : MethodName := ⟨RX9, "erase", "()I"⟩
abbrev cX9_arrange : ByteArray := prog_1_method_32_code
def yX9_arrange : MethodName := ⟨RX9, "arrange", "(III)I"⟩
abbrev cX9_letter : ByteArray := prog_1_method_33_code
def yX9_letter : MethodName := ⟨RX9, "letter", "(III)I"⟩
abbrev cX9_placed : ByteArray := prog_1_method_34_code
def yX9_placed : MethodName := ⟨RX9, "placed", "(II)I"⟩
abbrev cX9_count : ByteArray := prog_1_method_35_code
def yX9_count : MethodName := ⟨RX9, "count", "(I)I"⟩
abbrev cX9_save : ByteArray := prog_1_method_36_code
def yX9_save : MethodName := ⟨RX9, "save", "(I)I"⟩
abbrev cX9_restore : ByteArray := prog_1_method_37_code
def yX9_restore : MethodName := ⟨RX9, "restore", "(I)I"⟩
abbrev cX9_savedIn : ByteArray := prog_1_method_38_code
def yX9_savedIn : MethodName := ⟨RX9, "savedIn", "(I)LPathFlattener$Path;"⟩
abbrev cX9_goOn : ByteArray := prog_1_method_39_code
def yX9_goOn : MethodName := ⟨RX9, "goOn", "(IIIIIII)I"⟩
abbrev cX9_append : ByteArray := prog_1_method_40_code
def yX9_append : MethodName := ⟨RX9, "append", "(IIIIIII)I"⟩
abbrev cX9_flattened : ByteArray := prog_1_method_41_code
def yX9_flattened : MethodName := ⟨RX9, "flattened", "()LPathFlattener$Flat;"⟩
abbrev cX9_isContour : ByteArray := prog_1_method_42_code
def yX9_isContour : MethodName := ⟨RX9, "isContour", "(I)Z"⟩
abbrev cX9_isLetter : ByteArray := prog_1_method_43_code
def yX9_isLetter : MethodName := ⟨RX9, "isLetter", "(I)Z"⟩
abbrev cX9_fits : ByteArray := prog_1_method_44_code
def yX9_fits : MethodName := ⟨RX9, "fits", "(I)Z"⟩
abbrev cX9_between : ByteArray := prog_1_method_45_code
def yX9_between : MethodName := ⟨RX9, "between", "(III)Z"⟩
def RX10 : String := "PathFlattenerModel"
def TX10 : u_T := fun k => match k with
  | 0 => ("PathFlattenerModel", "path", "[I", true)
  | 1 => ("PathFlattenerModel", "slots", "[I", true)
  | 2 => ("PathFlattenerModel", "isSaved", "[Z", true)
  | 3 => ("PathFlattenerModel", "pad", "[I", true)
  | 4 => ("PathFlattenerModel", "padMany", "I", false)
  | 5 => ("PathFlattenerModel", "dashes", "[I", true)
  | 6 => ("PathFlattenerModel", "dashMany", "I", false)
  | 7 => ("PathFlattenerModel", "phase", "I", false)
  | 8 => ("PathFlattenerModel", "widths", "[I", true)
  | 9 => ("PathFlattenerModel", "kerning", "[I", true)
  | 10 => ("PathFlattenerModel", "pairs", "I", false)
  | 11 => ("PathFlattenerModel", "written", "[I", true)
  | 12 => ("PathFlattenerModel", "writtenMany", "I", false)
  | 13 => ("PathFlattenerModel", "offset", "I", false)
  | 14 => ("PathFlattenerModel", "spacing", "I", false)
  | 15 => ("PathFlattenerModel", "mode", "I", false)
  | 16 => ("PathFlattenerModel", "turned", "[I", true)
  | 17 => ("PathFlattenerModel", "moved", "[I", true)
  | 18 => ("PathFlattenerModel", "at", "I", false)
  | 19 => ("PathFlattenerModel", "isWrong", "Z", false)
  | 20 => ("PathFlattenerModel", "read", "[I", true)
  | 21 => ("PathFlattenerModel", "readMany", "I", false)
  | 22 => ("PathFlattenerModel", "isOut", "Z", false)
  | 23 => ("PathFlattenerModel", "currentX", "I", false)
  | 24 => ("PathFlattenerModel", "currentY", "I", false)
  | 25 => ("PathFlattenerModel", "beginX", "I", false)
  | 26 => ("PathFlattenerModel", "beginY", "I", false)
  | 27 => ("PathFlattenerModel", "spelt", "[I", true)
  | 28 => ("PathFlattenerModel", "spells", "I", false)
  | 29 => ("PathFlattenerModel", "vx", "[I", true)
  | 30 => ("PathFlattenerModel", "vy", "[I", true)
  | 31 => ("PathFlattenerModel", "far", "[I", true)
  | 32 => ("PathFlattenerModel", "vertices", "I", false)
  | 33 => ("PathFlattenerModel", "beginOf", "[I", true)
  | 34 => ("PathFlattenerModel", "flats", "I", false)
  | 35 => ("PathFlattenerModel", "lengthOf", "[I", true)
  | 36 => ("PathFlattenerModel", "pile", "[I", true)
  | 37 => ("PathFlattenerModel", "halved", "[I", true)
  | 38 => ("PathFlattenerModel", "piled", "I", false)
  | 39 => ("PathFlattenerModel", "isKept", "[Z", true)
  | 40 => ("PathFlattenerModel", "dashed", "[I", true)
  | 41 => ("PathFlattenerModel", "laidOn", "[I", true)
  | _ => ("PathFlattenerModel", "laidAt", "[I", true)
def tyX10 : Nat → FieldType := fun k => match k with
  | 0 => .array .int
  | 1 => .array .int
  | 2 => .array .boolean
  | 3 => .array .int
  | 4 => .int
  | 5 => .array .int
  | 6 => .int
  | 7 => .int
  | 8 => .array .int
  | 9 => .array .int
  | 10 => .int
  | 11 => .array .int
  | 12 => .int
  | 13 => .int
  | 14 => .int
  | 15 => .int
  | 16 => .array .int
  | 17 => .array .int
  | 18 => .int
  | 19 => .boolean
  | 20 => .array .int
  | 21 => .int
  | 22 => .boolean
  | 23 => .int
  | 24 => .int
  | 25 => .int
  | 26 => .int
  | 27 => .array .int
  | 28 => .int
  | 29 => .array .int
  | 30 => .array .int
  | 31 => .array .int
  | 32 => .int
  | 33 => .array .int
  | 34 => .int
  | 35 => .array .int
  | 36 => .array .int
  | 37 => .array .int
  | 38 => .int
  | 39 => .array .boolean
  | 40 => .array .int
  | 41 => .array .int
  | _ => .array .int
abbrev wsX100 : List Cond := u_ws RX10 TX10 43
theorem nmX10 : ∀ a, a < 43 → ∀ b, b < 43 → a ≠ b → (TX10 a).2.1 ≠ (TX10 b).2.1 := by decide +kernel
theorem tyX10_ok : ∀ k, k < 43 → parseFieldDescriptor (TX10 k).2.2.1 = some (tyX10 k) := by decide +kernel
abbrev cX10_init : ByteArray := prog_12_method_1_code
def yX10_init : MethodName := ⟨RX10, "<init>", "()V"⟩
abbrev cX10_in : ByteArray := prog_12_method_2_code
def yX10_in : MethodName := ⟨RX10, "in", "(III)Z"⟩
abbrev cX10_isPlace : ByteArray := prog_12_method_3_code
def yX10_isPlace : MethodName := ⟨RX10, "isPlace", "(I)Z"⟩
abbrev cX10_size : ByteArray := prog_12_method_4_code
def yX10_size : MethodName := ⟨RX10, "size", "(I)I"⟩
abbrev cX10_kind : ByteArray := prog_12_method_5_code
def yX10_kind : MethodName := ⟨RX10, "kind", "(I)I"⟩
abbrev cX10_many : ByteArray := prog_12_method_6_code
def yX10_many : MethodName := ⟨RX10, "many", "()I"⟩
abbrev cX10_append : ByteArray := prog_12_method_7_code
def yX10_append : MethodName := ⟨RX10, "append", "(IIIIIII)I"⟩
abbrev cX10_move : ByteArray := prog_12_method_8_code
def yX10_move : MethodName := ⟨RX10, "move", "(II)I"⟩
abbrev cX10_line : ByteArray := prog_12_method_9_code
def yX10_line : MethodName := ⟨RX10, "line", "(II)I"⟩
abbrev cX10_quad : ByteArray := prog_12_method_10_code
def yX10_quad : MethodName := ⟨RX10, "quad", "(IIII)I"⟩
abbrev cX10_cubic : ByteArray := prog_12_method_11_code
def yX10_cubic : MethodName := ⟨RX10, "cubic", "(IIIIII)I"⟩
abbrev cX10_close : ByteArray := prog_12_method_12_code
def yX10_close : MethodName := ⟨RX10, "close", "()I"⟩
abbrev cX10_removeLast : ByteArray := prog_12_method_13_code
def yX10_removeLast : MethodName := ⟨RX10, "removeLast", "()I"⟩
abbrev cX10_moveOf : ByteArray := prog_12_method_14_code
def yX10_moveOf : MethodName := ⟨RX10, "moveOf", "(I)I"⟩
abbrev cX10_contourOf : ByteArray := prog_12_method_15_code
def yX10_contourOf : MethodName := ⟨RX10, "contourOf", "(I)I"⟩
abbrev cX10_endX : ByteArray := prog_12_method_16_code
def yX10_endX : MethodName := ⟨RX10, "endX", "(I)I"⟩
abbrev cX10_endY : ByteArray := prog_12_method_17_code
def yX10_endY : MethodName := ⟨RX10, "endY", "(I)I"⟩
abbrev cX10_command : ByteArray := prog_12_method_18_code
def yX10_command : MethodName := ⟨RX10, "command", "(II)I"⟩
abbrev cX10_setTolerance : ByteArray := prog_12_method_19_code
def yX10_setTolerance : MethodName := ⟨RX10, "setTolerance", "(I)I"⟩
abbrev cX10_contours : ByteArray := prog_12_method_20_code
def yX10_contours : MethodName := ⟨RX10, "contours", "()I"⟩
abbrev cX10_isContour : ByteArray := prog_12_method_21_code
def yX10_isContour : MethodName := ⟨RX10, "isContour", "(I)Z"⟩
abbrev cX10_firstOf : ByteArray := prog_12_method_22_code
def yX10_firstOf : MethodName := ⟨RX10, "firstOf", "(I)I"⟩
abbrev cX10_setTurned : ByteArray := prog_12_method_23_code
def yX10_setTurned : MethodName := ⟨RX10, "setTurned", "(IIII)V"⟩
abbrev cX10_reverse : ByteArray := prog_12_method_24_code
def yX10_reverse : MethodName := ⟨RX10, "reverse", "(I)I"⟩
abbrev cX10_transform : ByteArray := prog_12_method_25_code
def yX10_transform : MethodName := ⟨RX10, "transform", "(IIIIII)I"⟩
abbrev cX10_say : ByteArray := prog_12_method_26_code
def yX10_say : MethodName := ⟨RX10, "say", "(I)I"⟩
abbrev cX10_wipe : ByteArray := prog_12_method_27_code
def yX10_wipe : MethodName := ⟨RX10, "wipe", "()I"⟩
abbrev cX10_sign : ByteArray := prog_12_method_28_code
def yX10_sign : MethodName := ⟨RX10, "sign", "()I"⟩
abbrev cX10_readNumber : ByteArray := prog_12_method_29_code
def yX10_readNumber : MethodName := ⟨RX10, "readNumber", "()I"⟩
abbrev cX10_readComma : ByteArray := prog_12_method_30_code
def yX10_readComma : MethodName := ⟨RX10, "readComma", "()V"⟩
abbrev cX10_readPair : ByteArray := prog_12_method_31_code
def yX10_readPair : MethodName := ⟨RX10, "readPair", "(IZ)V"⟩
abbrev cX10_readCommand : ByteArray := prog_12_method_32_code
def yX10_readCommand : MethodName := ⟨RX10, "readCommand", "(IZ)V"⟩
abbrev cX10_readContour : ByteArray := prog_12_method_33_code
def yX10_readContour : MethodName := ⟨RX10, "readContour", "()V"⟩
abbrev cX10_kindAt : ByteArray := prog_12_method_34_code
def yX10_kindAt : MethodName := ⟨RX10, "kindAt", "()I"⟩
abbrev cX10_fault : ByteArray := prog_12_method_35_code
def yX10_fault : MethodName := ⟨RX10, "fault", "()I"⟩
abbrev cX10_load : ByteArray := prog_12_method_36_code
def yX10_load : MethodName := ⟨RX10, "load", "()I"⟩
abbrev cX10_spellSign : ByteArray := prog_12_method_37_code
def yX10_spellSign : MethodName := ⟨RX10, "spellSign", "(I)V"⟩
abbrev cX10_spellNumber : ByteArray := prog_12_method_38_code
def yX10_spellNumber : MethodName := ⟨RX10, "spellNumber", "(I)V"⟩
abbrev cX10_spellPair : ByteArray := prog_12_method_39_code
def yX10_spellPair : MethodName := ⟨RX10, "spellPair", "(IZ)V"⟩
abbrev cX10_spell : ByteArray := prog_12_method_40_code
def yX10_spell : MethodName := ⟨RX10, "spell", "(I)I"⟩
abbrev cX10_root : ByteArray := prog_12_method_41_code
def yX10_root : MethodName := ⟨RX10, "root", "(J)I"⟩
abbrev cX10_addVertex : ByteArray := prog_12_method_42_code
def yX10_addVertex : MethodName := ⟨RX10, "addVertex", "(III)V"⟩
abbrev cX10_mid : ByteArray := prog_12_method_43_code
def yX10_mid : MethodName := ⟨RX10, "mid", "(II)I"⟩
abbrev cX10_push : ByteArray := prog_12_method_44_code
def yX10_push : MethodName := ⟨RX10, "push", "(IIIIIIIII)V"⟩
abbrev cX10_bend : ByteArray := prog_12_method_45_code
def yX10_bend : MethodName := ⟨RX10, "bend", "(III)I"⟩
abbrev cX10_flattenQuad : ByteArray := prog_12_method_46_code
def yX10_flattenQuad : MethodName := ⟨RX10, "flattenQuad", "(I)V"⟩
abbrev cX10_flattenCubic : ByteArray := prog_12_method_47_code
def yX10_flattenCubic : MethodName := ⟨RX10, "flattenCubic", "(I)V"⟩
abbrev cX10_flatten : ByteArray := prog_12_method_48_code
def yX10_flatten : MethodName := ⟨RX10, "flatten", "()V"⟩
abbrev cX10_verticesOf : ByteArray := prog_12_method_49_code
def yX10_verticesOf : MethodName := ⟨RX10, "verticesOf", "(I)I"⟩
abbrev cX10_lengthOfContour : ByteArray := prog_12_method_50_code
def yX10_lengthOfContour : MethodName := ⟨RX10, "lengthOfContour", "(I)I"⟩
abbrev cX10_isClosed : ByteArray := prog_12_method_51_code
def yX10_isClosed : MethodName := ⟨RX10, "isClosed", "(I)Z"⟩
abbrev cX10_segmentAt : ByteArray := prog_12_method_52_code
def yX10_segmentAt : MethodName := ⟨RX10, "segmentAt", "(II)I"⟩
abbrev cX10_measured : ByteArray := prog_12_method_53_code
def yX10_measured : MethodName := ⟨RX10, "measured", "(II)I"⟩
abbrev cX10_measure : ByteArray := prog_12_method_54_code
def yX10_measure : MethodName := ⟨RX10, "measure", "(II)I"⟩
abbrev cX10_vertex : ByteArray := prog_12_method_55_code
def yX10_vertex : MethodName := ⟨RX10, "vertex", "(III)I"⟩
abbrev cX10_vertexFor : ByteArray := prog_12_method_56_code
def yX10_vertexFor : MethodName := ⟨RX10, "vertexFor", "(II)I"⟩
abbrev cX10_placeAt : ByteArray := prog_12_method_57_code
def yX10_placeAt : MethodName := ⟨RX10, "placeAt", "(III)I"⟩
abbrev cX10_at : ByteArray := prog_12_method_58_code
def yX10_at : MethodName := ⟨RX10, "at", "(III)I"⟩
abbrev cX10_nearest : ByteArray := prog_12_method_59_code
def yX10_nearest : MethodName := ⟨RX10, "nearest", "(III)I"⟩
abbrev cX10_turnsRound : ByteArray := prog_12_method_60_code
def yX10_turnsRound : MethodName := ⟨RX10, "turnsRound", "(JJJJJJ)I"⟩
abbrev cX10_winding : ByteArray := prog_12_method_61_code
def yX10_winding : MethodName := ⟨RX10, "winding", "(II)I"⟩
abbrev cX10_area : ByteArray := prog_12_method_62_code
def yX10_area : MethodName := ⟨RX10, "area", "(I)J"⟩
abbrev cX10_bound : ByteArray := prog_12_method_63_code
def yX10_bound : MethodName := ⟨RX10, "bound", "(II)I"⟩
abbrev cX10_farthest : ByteArray := prog_12_method_64_code
def yX10_farthest : MethodName := ⟨RX10, "farthest", "(III)I"⟩
abbrev cX10_simplified : ByteArray := prog_12_method_65_code
def yX10_simplified : MethodName := ⟨RX10, "simplified", "(III)I"⟩
abbrev cX10_addDash : ByteArray := prog_12_method_66_code
def yX10_addDash : MethodName := ⟨RX10, "addDash", "(I)I"⟩
abbrev cX10_clearDashes : ByteArray := prog_12_method_67_code
def yX10_clearDashes : MethodName := ⟨RX10, "clearDashes", "(I)I"⟩
abbrev cX10_layDashes : ByteArray := prog_12_method_68_code
def yX10_layDashes : MethodName := ⟨RX10, "layDashes", "(I)I"⟩
abbrev cX10_dash : ByteArray := prog_12_method_69_code
def yX10_dash : MethodName := ⟨RX10, "dash", "(III)I"⟩
abbrev cX10_isLetter : ByteArray := prog_12_method_70_code
def yX10_isLetter : MethodName := ⟨RX10, "isLetter", "(I)Z"⟩
abbrev cX10_setWidth : ByteArray := prog_12_method_71_code
def yX10_setWidth : MethodName := ⟨RX10, "setWidth", "(II)I"⟩
abbrev cX10_setKerning : ByteArray := prog_12_method_72_code
def yX10_setKerning : MethodName := ⟨RX10, "setKerning", "(III)I"⟩
abbrev cX10_write : ByteArray := prog_12_method_73_code
def yX10_write : MethodName := ⟨RX10, "write", "(I)I"⟩
abbrev cX10_erase : ByteArray := prog_12_method_74_code
def yX10_erase : MethodName := ⟨RX10, "erase", "()I"⟩
abbrev cX10_arrange : ByteArray := prog_12_method_75_code
def yX10_arrange : MethodName := ⟨RX10, "arrange", "(III)I"⟩
abbrev cX10_widthOf : ByteArray := prog_12_method_76_code
def yX10_widthOf : MethodName := ⟨RX10, "widthOf", "(I)I"⟩
abbrev cX10_advance : ByteArray := prog_12_method_77_code
def yX10_advance : MethodName := ⟨RX10, "advance", "(I)I"⟩
abbrev cX10_hasSegments : ByteArray := prog_12_method_78_code
def yX10_hasSegments : MethodName := ⟨RX10, "hasSegments", "(I)Z"⟩
abbrev cX10_layOne : ByteArray := prog_12_method_79_code
def yX10_layOne : MethodName := ⟨RX10, "layOne", "(I)V"⟩
abbrev cX10_layOn : ByteArray := prog_12_method_80_code
def yX10_layOn : MethodName := ⟨RX10, "layOn", "(I)V"⟩
abbrev cX10_layLetters : ByteArray := prog_12_method_81_code
def yX10_layLetters : MethodName := ⟨RX10, "layLetters", "(I)V"⟩
abbrev cX10_letter : ByteArray := prog_12_method_82_code
def yX10_letter : MethodName := ⟨RX10, "letter", "(III)I"⟩
abbrev cX10_turnsBack : ByteArray := prog_12_method_83_code
def yX10_turnsBack : MethodName := ⟨RX10, "turnsBack", "(II)Z"⟩
abbrev cX10_placed : ByteArray := prog_12_method_84_code
def yX10_placed : MethodName := ⟨RX10, "placed", "(II)I"⟩
abbrev cX10_count : ByteArray := prog_12_method_85_code
def yX10_count : MethodName := ⟨RX10, "count", "(I)I"⟩
abbrev cX10_save : ByteArray := prog_12_method_86_code
def yX10_save : MethodName := ⟨RX10, "save", "(I)I"⟩
abbrev cX10_restore : ByteArray := prog_12_method_87_code
def yX10_restore : MethodName := ⟨RX10, "restore", "(I)I"⟩
def RJ11 : String := "java/lang/Character"
def TJ11 : u_T := fun k => match k with
  | _ => ("", "", "", false)
def tyJ11 : Nat → FieldType := fun k => match k with
  | _ => .int
abbrev wsJ110 : List Cond := u_ws RJ11 TJ11 0
theorem nmJ11 : ∀ a, a < 0 → ∀ b, b < 0 → a ≠ b → (TJ11 a).2.1 ≠ (TJ11 b).2.1 := by decide +kernel
theorem tyJ11_ok : ∀ k, k < 0 → parseFieldDescriptor (TJ11 k).2.2.1 = some (tyJ11 k) := by decide +kernel
abbrev cJ11_isValidCodePoint_9a6ad : ByteArray := prog_13_method_11_code
def yJ11_isValidCodePoint_9a6ad : MethodName := ⟨RJ11, "isValidCodePoint", "(I)Z"⟩
abbrev cJ11_highSurrogate_5068e : ByteArray := prog_13_method_28_code
def yJ11_highSurrogate_5068e : MethodName := ⟨RJ11, "highSurrogate", "(I)C"⟩
abbrev cJ11_lowSurrogate_5068e : ByteArray := prog_13_method_29_code
def yJ11_lowSurrogate_5068e : MethodName := ⟨RJ11, "lowSurrogate", "(I)C"⟩
def RJ9 : String := "java/lang/Math"
def TJ9 : u_T := fun k => match k with
  | _ => ("", "", "", false)
def tyJ9 : Nat → FieldType := fun k => match k with
  | _ => .int
abbrev wsJ90 : List Cond := u_ws RJ9 TJ9 0
theorem nmJ9 : ∀ a, a < 0 → ∀ b, b < 0 → a ≠ b → (TJ9 a).2.1 ≠ (TJ9 b).2.1 := by decide +kernel
theorem tyJ9_ok : ∀ k, k < 0 → parseFieldDescriptor (TJ9 k).2.2.1 = some (tyJ9 k) := by decide +kernel
abbrev cJ9_floorMod_7cf53 : ByteArray := prog_14_method_50_code
def yJ9_floorMod_7cf53 : MethodName := ⟨RJ9, "floorMod", "(II)I"⟩
abbrev cJ9_abs_0f7a4 : ByteArray := prog_14_method_59_code
def yJ9_abs_0f7a4 : MethodName := ⟨RJ9, "abs", "(I)I"⟩
abbrev cJ9_max_7cf53 : ByteArray := prog_14_method_65_code
def yJ9_max_7cf53 : MethodName := ⟨RJ9, "max", "(II)I"⟩
abbrev cJ9_max_f86c9 : ByteArray := prog_14_method_66_code
def yJ9_max_f86c9 : MethodName := ⟨RJ9, "max", "(JJ)J"⟩
abbrev cJ9_min_7cf53 : ByteArray := prog_14_method_69_code
def yJ9_min_7cf53 : MethodName := ⟨RJ9, "min", "(II)I"⟩
abbrev cJ9_min_f86c9 : ByteArray := prog_14_method_70_code
def yJ9_min_f86c9 : MethodName := ⟨RJ9, "min", "(JJ)J"⟩
def RJ0 : String := "java/lang/String"
def TJ0 : u_T := fun k => match k with
  | _ => ("", "", "", false)
def tyJ0 : Nat → FieldType := fun k => match k with
  | _ => .int
abbrev wsJ00 : List Cond := u_ws RJ0 TJ0 0
theorem nmJ0 : ∀ a, a < 0 → ∀ b, b < 0 → a ≠ b → (TJ0 a).2.1 ≠ (TJ0 b).2.1 := by decide +kernel
theorem tyJ0_ok : ∀ k, k < 0 → parseFieldDescriptor (TJ0 k).2.2.1 = some (tyJ0 k) := by decide +kernel
abbrev cJ0_length_8abf5 : ByteArray := prog_15_method_54_code
def yJ0_length_8abf5 : MethodName := ⟨RJ0, "length", "()I"⟩
abbrev cJ0_charAt_5068e : ByteArray := prog_15_method_56_code
def yJ0_charAt_5068e : MethodName := ⟨RJ0, "charAt", "(I)C"⟩
abbrev cJ0_indexOf_0f7a4 : ByteArray := prog_15_method_79_code
def yJ0_indexOf_0f7a4 : MethodName := ⟨RJ0, "indexOf", "(I)I"⟩
abbrev cJ0_indexOf_7cf53 : ByteArray := prog_15_method_80_code
def yJ0_indexOf_7cf53 : MethodName := ⟨RJ0, "indexOf", "(II)I"⟩
abbrev cJ0_coder_7d493 : ByteArray := prog_15_method_152_code
def yJ0_coder_7d493 : MethodName := ⟨RJ0, "coder", "()B"⟩
abbrev cJ0_isLatin1_aae02 : ByteArray := prog_15_method_154_code
def yJ0_isLatin1_aae02 : MethodName := ⟨RJ0, "isLatin1", "()Z"⟩
abbrev cJ0_checkIndex_df160 : ByteArray := prog_15_method_155_code
def yJ0_checkIndex_df160 : MethodName := ⟨RJ0, "checkIndex", "(II)V"⟩
abbrev cJ0_checkBoundsBeginEnd_23922 : ByteArray := prog_15_method_158_code
def yJ0_checkBoundsBeginEnd_23922 : MethodName := ⟨RJ0, "checkBoundsBeginEnd", "(III)V"⟩
def RJ1 : String := "java/lang/StringLatin1"
def TJ1 : u_T := fun k => match k with
  | _ => ("", "", "", false)
def tyJ1 : Nat → FieldType := fun k => match k with
  | _ => .int
abbrev wsJ10 : List Cond := u_ws RJ1 TJ1 0
theorem nmJ1 : ∀ a, a < 0 → ∀ b, b < 0 → a ≠ b → (TJ1 a).2.1 ≠ (TJ1 b).2.1 := by decide +kernel
theorem tyJ1_ok : ∀ k, k < 0 → parseFieldDescriptor (TJ1 k).2.2.1 = some (tyJ1 k) := by decide +kernel
abbrev cJ1_charAt_3b067 : ByteArray := prog_16_method_2_code
def yJ1_charAt_3b067 : MethodName := ⟨RJ1, "charAt", "([BI)C"⟩
abbrev cJ1_canEncode_9a6ad : ByteArray := prog_16_method_4_code
def yJ1_canEncode_9a6ad : MethodName := ⟨RJ1, "canEncode", "(I)Z"⟩
abbrev cJ1_indexOf_4cfef : ByteArray := prog_16_method_22_code
def yJ1_indexOf_4cfef : MethodName := ⟨RJ1, "indexOf", "([BIII)I"⟩
abbrev cJ1_indexOfChar_4cfef : ByteArray := prog_16_method_23_code
def yJ1_indexOfChar_4cfef : MethodName := ⟨RJ1, "indexOfChar", "([BIII)I"⟩
def RJ2 : String := "java/lang/StringUTF16"
def TJ2 : u_T := fun k => match k with
  | _ => ("", "", "", false)
def tyJ2 : Nat → FieldType := fun k => match k with
  | _ => .int
abbrev wsJ20 : List Cond := u_ws RJ2 TJ2 0
theorem nmJ2 : ∀ a, a < 0 → ∀ b, b < 0 → a ≠ b → (TJ2 a).2.1 ≠ (TJ2 b).2.1 := by decide +kernel
theorem tyJ2_ok : ∀ k, k < 0 → parseFieldDescriptor (TJ2 k).2.2.1 = some (tyJ2 k) := by decide +kernel
abbrev cJ2_getChar_3b067 : ByteArray := prog_17_method_5_code
def yJ2_getChar_3b067 : MethodName := ⟨RJ2, "getChar", "([BI)C"⟩
abbrev cJ2_length_9d52b : ByteArray := prog_17_method_6_code
def yJ2_length_9d52b : MethodName := ⟨RJ2, "length", "([B)I"⟩
abbrev cJ2_indexOf_4cfef : ByteArray := prog_17_method_40_code
def yJ2_indexOf_4cfef : MethodName := ⟨RJ2, "indexOf", "([BIII)I"⟩
abbrev cJ2_indexOfChar_4cfef : ByteArray := prog_17_method_47_code
def yJ2_indexOfChar_4cfef : MethodName := ⟨RJ2, "indexOfChar", "([BIII)I"⟩
abbrev cJ2_indexOfCharUnsafe_4cfef : ByteArray := prog_17_method_48_code
def yJ2_indexOfCharUnsafe_4cfef : MethodName := ⟨RJ2, "indexOfCharUnsafe", "([BIII)I"⟩
abbrev cJ2_indexOfSupplementary_4cfef : ByteArray := prog_17_method_49_code
def yJ2_indexOfSupplementary_4cfef : MethodName := ⟨RJ2, "indexOfSupplementary", "([BIII)I"⟩
abbrev cJ2_charAt_3b067 : ByteArray := prog_17_method_83_code
def yJ2_charAt_3b067 : MethodName := ⟨RJ2, "charAt", "([BI)C"⟩
abbrev cJ2_checkIndex_2214a : ByteArray := prog_17_method_91_code
def yJ2_checkIndex_2214a : MethodName := ⟨RJ2, "checkIndex", "(I[B)V"⟩
abbrev cJ2_checkBoundsBeginEnd_d044e : ByteArray := prog_17_method_93_code
def yJ2_checkBoundsBeginEnd_d044e : MethodName := ⟨RJ2, "checkBoundsBeginEnd", "(II[B)V"⟩
def RJ10 : String := "java/lang/System"
def TJ10 : u_T := fun k => match k with
  | _ => ("", "", "", false)
def tyJ10 : Nat → FieldType := fun k => match k with
  | _ => .int
abbrev wsJ100 : List Cond := u_ws RJ10 TJ10 0
theorem nmJ10 : ∀ a, a < 0 → ∀ b, b < 0 → a ≠ b → (TJ10 a).2.1 ≠ (TJ10 b).2.1 := by decide +kernel
theorem tyJ10_ok : ∀ k, k < 0 → parseFieldDescriptor (TJ10 k).2.2.1 = some (tyJ10 k) := by decide +kernel
def RJ3 : String := "jdk/internal/util/Preconditions"
def TJ3 : u_T := fun k => match k with
  | _ => ("", "", "", false)
def tyJ3 : Nat → FieldType := fun k => match k with
  | _ => .int
abbrev wsJ30 : List Cond := u_ws RJ3 TJ3 0
theorem nmJ3 : ∀ a, a < 0 → ∀ b, b < 0 → a ≠ b → (TJ3 a).2.1 ≠ (TJ3 b).2.1 := by decide +kernel
theorem tyJ3_ok : ∀ k, k < 0 → parseFieldDescriptor (TJ3 k).2.2.1 = some (tyJ3 k) := by decide +kernel
abbrev cJ3_checkIndex_8e157 : ByteArray := prog_19_method_11_code
def yJ3_checkIndex_8e157 : MethodName := ⟨RJ3, "checkIndex", "(IILjava/util/function/BiFunction;)I"⟩
abbrev cJ3_checkFromToIndex_8c36e : ByteArray := prog_19_method_12_code
def yJ3_checkFromToIndex_8c36e : MethodName := ⟨RJ3, "checkFromToIndex", "(IIILjava/util/function/BiFunction;)I"⟩
def RL : String := "PathFlattenerLaw"
abbrev cL_law : ByteArray := code
def yL_law : MethodName := ⟨RL, "law", "([I)Z"⟩
abbrev vwCl : List vw_C := [(RX0, TX0, 6), (RX1, TX1, 9), (RX2, TX2, 4), (RX3, TX3, 10), (RX4, TX4, 3), (RX5, TX5, 4), (RX6, TX6, 13), (RX7, TX7, 3), (RX8, TX8, 2), (RX9, TX9, 13), (RX10, TX10, 43)]
