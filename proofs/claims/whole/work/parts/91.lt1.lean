/-! letters: numbers, floorMod, where the letters come to lie -/
theorem x_ixor {g : gX} {J : MD} {Qf : List Frame → Array Value → State → State → Prop} {V : vM} {pc : Nat} {lv : List (Nat × Value)} {st : List Value} {x y : Int32} (hd : decode J.2.2.1 pc = .ok (.ixor, 1)) (k : YY g J Qf V (pc + 1) lv (.int (x ^^^ y) :: st)) : YY g J Qf V pc lv (.int y :: .int x :: st) :=
  fun p e s m args below meth c H locs ls E hP hS hl => lv_ixor E.1 E.2.1 hd (k p e s m args below meth c H locs ls E hP hS hl)
def plnF (J : MD) : Prop := plainFor J.2.1 = true ∧ J.2.1.cls = J.1 ∧ (rmO J).cells = 0 ∧ (rmO J).slots = 0 ∧ ∀ s a, J.2.2.2.2.2.2 s a
set_option maxHeartbeats 4000000 in
theorem MM.ofF {g : gX} {J : MD} {V : vM} {as : List Value} {Q : Option Value → vM → Prop} (hJ : plnF J) (hn : (lg_sl as).length ≤ J.2.2.2.1) (k : XX g J Q V 0 (lv_args 0 as) []) : MM g J V as Q := by
  obtain ⟨own, y, cc, maxL, ret, ⟨fr, ce, sl, lo⟩, X⟩ := J
  obtain ⟨h1, h2, h3, h4, h5⟩ := hJ
  dsimp only [rmO] at h1 h2 h3 h4 h5 hn
  subst h3
  subst h4
  refine va_MetF (cc := cc) (maxL := maxL) (ret := ret) h1 rfl ?_
  intro p e s m args below meth c s₁ B hml hv
  obtain ⟨rfl, hK, hZ, hA, hP⟩ := hv
  have hts := atoms_spec (ws := wsJ (own, y, cc, maxL, ret, ⟨fr, 0, 0, lo⟩, X)) B.pre
  have hown : s.vm.findClass own = some m.cls := by rw [← h2]; exact findClass_of_methodNamed B.named
  have hl := lv_entry as (n := maxL) hn
  rw [lg_entry_eq]
  exact k p e s m as.toArray below meth c s.heap [] _ ⟨B.exec, B.bytes, hml, B.returns, B.notSynchronized, hown, fun w hw => hts w (List.mem_cons_of_mem _ hw), hK, hZ, hA, h5 s _⟩ hP va_S.rf hl
theorem plFJ9_floorMod_7cf53 : plnF jJ9_floorMod_7cf53 := ⟨by decide +kernel, rfl, rfl, rfl, fun _ _ => trivial⟩
theorem xor_sg {x y : Int32} (hy : 0 ≤ y) : 0 ≤ x ^^^ y ↔ 0 ≤ x := by
  have e : ∀ z : Int32, 0 ≤ z ↔ z.toBitVec.msb = false := by
    intro z
    rw [Int32.le_iff_toInt_le, show (0 : Int32).toInt = 0 from rfl, BitVec.msb_eq_toInt, decide_eq_false_iff_not]
    show 0 ≤ z.toBitVec.toInt ↔ _
    omega
  rw [e, e, Int32.toBitVec_xor, BitVec.msb_xor, (e y).mp hy, Bool.xor_false]
theorem rem_i {x y : Int32} (hy : 0 < y.toInt) : (x - x / y * y).toInt = x.toInt.tmod y.toInt := by
  have hx := fb_rng x
  have h1 := Int.tmod_add_tdiv_mul x.toInt y.toInt
  have hd : (x / y).toInt = x.toInt.tdiv y.toInt := by
    have nat : (x.toInt.tdiv y.toInt).natAbs = x.toInt.natAbs / y.toInt.natAbs := Int.natAbs_tdiv x.toInt y.toInt
    have q := Nat.div_le_self x.toInt.natAbs y.toInt.natAbs
    have y1 := fb_rng y
    rw [Int32.toInt_div]
    by_cases c : x.toInt.tdiv y.toInt < 2147483648
    · exact fb_bmod (by omega) c
    · exfalso
      have b : 0 ≤ x.toInt := by
        rcases Int.lt_or_le x.toInt 0 with z | z
        · have n := Int.neg_tdiv (-x.toInt) y.toInt
          rw [Int.neg_neg] at n
          have nn := Int.tdiv_nonneg (a := -x.toInt) (b := y.toInt) (by omega) (by omega)
          omega
        · exact z
      omega
  have hm := Int.natAbs_tmod x.toInt y.toInt
  have hl := Nat.mod_le x.toInt.natAbs y.toInt.natAbs
  have ym := fb_rng y
  have b0 : 0 ≤ x.toInt → 0 ≤ x.toInt.tmod y.toInt := fun z => Int.tmod_nonneg _ z
  have b1 : x.toInt < 0 → x.toInt.tmod y.toInt ≤ 0 := fun z => by
    have n := Int.neg_tmod (-x.toInt) y.toInt
    rw [Int.neg_neg] at n
    have nn := Int.tmod_nonneg (a := -x.toInt) y.toInt (by omega)
    omega
  have hp : (x / y * y).toInt = x.toInt.tdiv y.toInt * y.toInt := by
    rw [fb_mulI] <;> rw [hd] <;> omega
  rw [fb_subI] <;> rw [hp] <;> omega
def modI (x L : Int32) : Int32 := Int32.ofInt (x.toInt % L.toInt)
theorem modI_i {x L : Int32} (h : 0 < L.toInt) : (modI x L).toInt = x.toInt % L.toInt := by
  have a := Int.emod_nonneg x.toInt (show L.toInt ≠ 0 by omega)
  have b := Int.emod_lt_of_pos x.toInt h
  have c := fb_rng L
  unfold modI
  rw [Int32.toInt_ofInt_of_le] <;> omega
theorem fm_pos {x L : Int32} (h : 0 < L.toInt) (hx : 0 ≤ x) : x - x / L * L = modI x L := by
  rw [Int32.le_iff_toInt_le, show (0 : Int32).toInt = 0 from rfl] at hx
  apply Int32.toInt_inj.mp
  rw [modI_i h, rem_i h, Int.tmod_eq_emod_of_nonneg hx]
theorem fm_neg {x L : Int32} (h : 0 < L.toInt) (hx : ¬ 0 ≤ x) : (x - x / L * L = 0 → x - x / L * L = modI x L) ∧ (¬ x - x / L * L = 0 → x - x / L * L + L = modI x L) := by
  rw [Int32.le_iff_toInt_le, show (0 : Int32).toInt = 0 from rfl] at hx
  have r := rem_i (x := x) h
  have a := Int.emod_nonneg x.toInt (show L.toInt ≠ 0 by omega)
  have b := Int.emod_lt_of_pos x.toInt h
  have c := fb_rng L
  rw [Int.tmod_eq_emod] at r
  have hor : ¬ 0 ≤ x.toInt := hx
  have lab : (L.toInt.natAbs : Int) = L.toInt := by omega
  refine ⟨fun q => ?_, fun q => ?_⟩
  · apply Int32.toInt_inj.mp
    have r0 : (x - x / L * L).toInt = 0 := by rw [q]; rfl
    rw [modI_i h]
    by_cases d : L.toInt ∣ x.toInt
    · rw [if_pos (Or.inr d)] at r; omega
    · rw [if_neg (fun z => z.elim hor d), lab] at r; omega
  · apply Int32.toInt_inj.mp
    rw [modI_i h]
    by_cases d : L.toInt ∣ x.toInt
    · exfalso
      rw [if_pos (Or.inr d), Int.emod_eq_zero_of_dvd d] at r
      exact q (Int32.toInt_inj.mp (by rw [r]; rfl))
    · rw [if_neg (fun z => z.elim hor d), lab] at r
      rw [fb_addI] <;> omega
theorem fm_mod {x L : Int32} (h : 0 < L.toInt) (hL : L.toInt ≤ 300000000) : (x - x / L * L + L) - (x - x / L * L + L) / L * L = modI x L := by
  have r := rem_i (x := x) h
  have a := Int.emod_nonneg x.toInt (show L.toInt ≠ 0 by omega)
  have b := Int.emod_lt_of_pos x.toInt h
  have lab : (L.toInt.natAbs : Int) = L.toInt := by omega
  rw [Int.tmod_eq_emod] at r
  have r2 : ∃ k : Int, (k = 0 ∨ k = 1) ∧ (x - x / L * L + L).toInt = x.toInt % L.toInt + k * L.toInt := by
    by_cases d : 0 ≤ x.toInt ∨ L.toInt ∣ x.toInt
    · rw [if_pos d] at r
      exact ⟨1, Or.inr rfl, by rw [fb_addI] <;> omega⟩
    · rw [if_neg d, lab] at r
      exact ⟨0, Or.inl rfl, by rw [fb_addI] <;> omega⟩
  obtain ⟨k, hk, e⟩ := r2
  have e0 : 0 ≤ (x - x / L * L + L).toInt := by rcases hk with rfl | rfl <;> omega
  apply Int32.toInt_inj.mp
  rw [rem_i h, Int.tmod_eq_emod_of_nonneg e0, e, modI_i h, Int.add_mul_emod_self_right, Int.emod_emod_of_dvd _ (Int.dvd_refl _)]
set_option maxHeartbeats 1000000 in
set_option maxRecDepth 100000 in
theorem mJ9_floorMod_7cf53 {g : gX} (V : vM) (x L : Int32) (hL : 0 < L.toInt) : MM g jJ9_floorMod_7cf53 V [.int x, .int L] (pI V (modI x L)) := by
  refine MM.ofF plFJ9_floorMod_7cf53 (Nat.le_of_ble_eq_true rfl) ?_
  obtain ⟨Q, hQ⟩ : ∃ Q : Option Value → vM → Prop, Q = (pI V (modI x L)) := ⟨_, rfl⟩
  rw [← hQ]
  show XX g jJ9_floorMod_7cf53 Q V 0 [(0, .int x), (1, .int L)] []
  have hL0 : (0 : Int32) ≤ L := Int32.le_iff_toInt_le.mpr (by show (0 : Int) ≤ _; omega)
  refine x_iload_n dJ9_floorMod_7cf53_0 0 rfl ?_
  refine x_iload_n dJ9_floorMod_7cf53_1 1 rfl ?_
  have nz1 : ¬ (L : Int32) = 0 := by intro q; rw [q] at hL; exact absurd hL (by decide)
  refine x_irem dJ9_floorMod_7cf53_2 nz1 ?_
  refine x_istore_n 2 [(2, .int (x - x / L * L)), (0, .int x), (1, .int L)] dJ9_floorMod_7cf53_3 rfl (by decide) rfl ?_
  refine x_iload_n dJ9_floorMod_7cf53_4 1 rfl ?_
  refine x_iload_n dJ9_floorMod_7cf53_5 2 rfl ?_
  refine x_ixor dJ9_floorMod_7cf53_6 ?_
  refine x_if_ge 18 dJ9_floorMod_7cf53_7 (by decide) (fun c2 => ?_) (fun c2 => ?_)
  · refine x_iload_n dJ9_floorMod_7cf53_18 0 rfl ?_
    refine x_iret dJ9_floorMod_7cf53_19 rfl ?_
    rw [hQ]
    first
      | exact ⟨rfl, by rw [fm_pos hL ((xor_sg hL0).mp (by assumption))]⟩
      | exact ⟨rfl, by rw [(fm_neg hL (fun q => absurd ((xor_sg hL0).mpr q) (by assumption))).1 (by assumption)]⟩
  · refine x_iload_n dJ9_floorMod_7cf53_10 0 rfl ?_
    refine x_if_eq 18 dJ9_floorMod_7cf53_11 (by decide) (fun c3 => ?_) (fun c3 => ?_)
    · refine x_iload_n dJ9_floorMod_7cf53_18 0 rfl ?_
      refine x_iret dJ9_floorMod_7cf53_19 rfl ?_
      rw [hQ]
      first
        | exact ⟨rfl, by rw [fm_pos hL ((xor_sg hL0).mp (by assumption))]⟩
        | exact ⟨rfl, by rw [(fm_neg hL (fun q => absurd ((xor_sg hL0).mpr q) (by assumption))).1 (by assumption)]⟩
    · refine x_iload_n dJ9_floorMod_7cf53_14 0 rfl ?_
      refine x_iload_n dJ9_floorMod_7cf53_15 2 rfl ?_
      refine x_iadd dJ9_floorMod_7cf53_16 ?_
      refine x_iret dJ9_floorMod_7cf53_17 rfl ?_
      rw [hQ]
      exact ⟨rfl, by rw [(fm_neg hL (fun q => absurd ((xor_sg hL0).mpr q) (by assumption))).2 (by assumption)]⟩
def ltB (o : Int32) (T : Nat → Int32) : Nat → Int32
  | 0 => o
  | i + 1 => ltB o T i + T i
def LB (n : Nat) (W T : Nat → Int32) (o : Int32) : Prop := n ≤ 24 ∧ (∀ i, i < n → (1 ≤ (W i).toInt ∧ (W i).toInt ≤ 4000) ∧ (-600 ≤ (T i).toInt ∧ (T i).toInt ≤ 5500)) ∧ -20000 ≤ o.toInt ∧ o.toInt ≤ 100000
theorem ltB_b {n : Nat} {W T : Nat → Int32} {o : Int32} (h : LB n W T o) : ∀ i, i ≤ n → -20000 - 600 * (i : Int) ≤ (ltB o T i).toInt ∧ (ltB o T i).toInt ≤ 100000 + 5500 * (i : Int)
  | 0, _ => by have := h.2.2; show _ ≤ o.toInt ∧ o.toInt ≤ _; omega
  | i + 1, hi => by
    have a := ltB_b h i (by omega)
    have b := (h.2.1 i (by omega)).2
    have n24 := h.1
    show _ ≤ (ltB o T i + T i).toInt ∧ (ltB o T i + T i).toInt ≤ _
    rw [fb_addI] <;> omega
theorem half_i {x : Int32} (h : 1 ≤ x.toInt ∧ x.toInt ≤ 4000) : (x / 2).toInt = x.toInt / 2 := by
  rw [Int32.toInt_div, show (2 : Int32).toInt = 2 from rfl, Int.tdiv_eq_ediv_of_nonneg (by omega), fb_bmod] <;> omega
def ltE (n : Nat) (o : Int32) (W T : Nat → Int32) : Int32 := if n = 0 then o else ltB o T (n - 1) + W (n - 1)
def ltQ (o L e c : Int32) : Int32 := o + ((c - o).toInt64 * (L - o).toInt64 / (e - o).toInt64).toInt32
def ltR (f md L : Int32) : Prop := md = 2 ∧ ¬ f = 0 ∧ ¬ L = 0
def ltZ (o md e L : Int32) : Prop := md = 1 ∧ L < e ∧ o < L
def ctr (f o md : Int32) (n : Nat) (W T : Nat → Int32) (L : Int32) (i : Nat) : Int32 := if md = 2 ∧ ¬ f = 0 ∧ ¬ L = 0 then modI (ltB o T i + W i / 2) L else if md = 1 ∧ L < ltE n o W T ∧ o < L then ltQ o L (ltE n o W T) (ltB o T i + W i / 2) else ltB o T i + W i / 2
abbrev LRS : Type := Nat → Option Nat × Int32
def hmC : Option Nat → Int32
  | none => -1
  | some h => nI h
def hmM : Option Nat → Int32
  | none => -1000006
  | some h => nI h
abbrev lnC (S : FS) (fb : Nat → Nat) (c : Nat) : Int32 := S.2.2 2 (fb (c + 1) - 1)
def ltOne (S : FS) (fb : Nat → Nat) (n : Nat) (W T : Nat → Int32) (o md : Int32) (c : Nat) : LRS := fun i => (if 1 < fb (c + 1) - fb c ∧ 0 ≤ ctr (S.2.2 6 c) o md n W T (lnC S fb c) i ∧ ctr (S.2.2 6 c) o md n W T (lnC S fb c) i ≤ lnC S fb c then some c else none, ctr (S.2.2 6 c) o md n W T (lnC S fb c) i)
def skN (S : FS) (fb : Nat → Nat) (w : Int32) : Nat → Nat → Int32 → Nat × Int32
  | 0, h, b => (h, b)
  | r + 1, h, b => if 1 < fb (h + 1) - fb h ∧ b + w ≤ lnC S fb h then (h, b) else skN S fb w r (h + 1) 0
def ltM (S : FS) (fb : Nat → Nat) (W T : Nat → Int32) (o : Int32) (c : Nat) : Nat → Nat × Int32
  | 0 => (c, o)
  | i + 1 => ((skN S fb (W i) (S.2.1 - (ltM S fb W T o c i).1) (ltM S fb W T o c i).1 (ltM S fb W T o c i).2).1, (skN S fb (W i) (S.2.1 - (ltM S fb W T o c i).1) (ltM S fb W T o c i).1 (ltM S fb W T o c i).2).2 + T i)
def ltK (S : FS) (fb : Nat → Nat) (W T : Nat → Int32) (o : Int32) (c i : Nat) : Nat × Int32 := skN S fb (W i) (S.2.1 - (ltM S fb W T o c i).1) (ltM S fb W T o c i).1 (ltM S fb W T o c i).2
theorem ltM_s (S : FS) (fb : Nat → Nat) (W T : Nat → Int32) (o : Int32) (c i : Nat) : ltM S fb W T o c (i + 1) = ((ltK S fb W T o c i).1, (ltK S fb W T o c i).2 + T i) := rfl
def ltMov (S : FS) (fb : Nat → Nat) (W T : Nat → Int32) (o : Int32) (c : Nat) : LRS := fun i => (if (ltK S fb W T o c i).1 < S.2.1 ∧ 0 ≤ (ltK S fb W T o c i).2 + W i / 2 then some (ltK S fb W T o c i).1 else none, (ltK S fb W T o c i).2 + W i / 2)
def ltRes (S : FS) (fb : Nat → Nat) (n : Nat) (W T : Nat → Int32) (o md : Int32) (c : Nat) : LRS := if md = 3 then ltMov S fb W T o c else ltOne S fb n W T o md c
theorem skN_hit {S : FS} {fb : Nat → Nat} {w : Int32} {r h : Nat} {b : Int32} (k : 1 < fb (h + 1) - fb h ∧ b + w ≤ lnC S fb h) : skN S fb w r h b = (h, b) := by
  cases r with
  | zero => rfl
  | succ r => rw [skN, if_pos k]
theorem skN_miss {S : FS} {fb : Nat → Nat} {w : Int32} {r h : Nat} {b : Int32} (k : ¬ (1 < fb (h + 1) - fb h ∧ b + w ≤ lnC S fb h)) : skN S fb w (r + 1) h b = skN S fb w r (h + 1) 0 := by
  rw [skN, if_neg k]
theorem skN_b (S : FS) (fb : Nat → Nat) (w : Int32) : ∀ r h b, h ≤ (skN S fb w r h b).1 ∧ (skN S fb w r h b).1 ≤ h + r ∧ ((skN S fb w r h b).2 = b ∨ (skN S fb w r h b).2 = 0) ∧ ((skN S fb w r h b).1 < h + r → 1 < fb ((skN S fb w r h b).1 + 1) - fb (skN S fb w r h b).1 ∧ (skN S fb w r h b).2 + w ≤ lnC S fb (skN S fb w r h b).1)
  | 0, h, b => ⟨Nat.le_refl _, Nat.le_refl _, Or.inl rfl, fun q => absurd q (Nat.lt_irrefl _)⟩
  | r + 1, h, b => by
    by_cases k : 1 < fb (h + 1) - fb h ∧ b + w ≤ lnC S fb h
    · rw [skN_hit k]
      exact ⟨Nat.le_refl _, by omega, Or.inl rfl, fun _ => k⟩
    · rw [skN_miss k]
      obtain ⟨a1, a2, a3, a4⟩ := skN_b S fb w r (h + 1) 0
      exact ⟨by omega, by omega, Or.inr (a3.elim id id), fun q => a4 (by omega)⟩
theorem ltM_b {S : FS} {fb : Nat → Nat} {n : Nat} {W T : Nat → Int32} {o : Int32} (h : LB n W T o) {c : Nat} (hc : c ≤ S.2.1) : ∀ i, i ≤ n → (ltM S fb W T o c i).1 ≤ S.2.1 ∧ -20000 - 600 * (i : Int) ≤ (ltM S fb W T o c i).2.toInt ∧ (ltM S fb W T o c i).2.toInt ≤ 100000 + 5500 * (i : Int)
  | 0, _ => by have := h.2.2; show c ≤ _ ∧ _ ≤ o.toInt ∧ o.toInt ≤ _; omega
  | i + 1, hi => by
    obtain ⟨a0, a⟩ := ltM_b h hc i (by omega)
    have b := (h.2.1 i (by omega)).2
    have n24 := h.1
    have sk := skN_b S fb (W i) (S.2.1 - (ltM S fb W T o c i).1) (ltM S fb W T o c i).1 (ltM S fb W T o c i).2
    have z : (0 : Int32).toInt = 0 := rfl
    have b2 : -20000 - 600 * (i : Int) ≤ (ltK S fb W T o c i).2.toInt ∧ (ltK S fb W T o c i).2.toInt ≤ 100000 + 5500 * (i : Int) := by
      unfold ltK
      rcases sk.2.2.1 with e | e
      · rw [e]; exact a
      · rw [e, z]; omega
    rw [ltM_s]
    refine ⟨?_, ?_⟩
    · show (skN S fb (W i) (S.2.1 - (ltM S fb W T o c i).1) (ltM S fb W T o c i).1 (ltM S fb W T o c i).2).1 ≤ _
      omega
    · show _ ≤ ((ltK S fb W T o c i).2 + T i).toInt ∧ ((ltK S fb W T o c i).2 + T i).toInt ≤ _
      rw [fb_addI] <;> omega
theorem ltK_b {S : FS} {fb : Nat → Nat} {n : Nat} {W T : Nat → Int32} {o : Int32} (h : LB n W T o) {c : Nat} (hc : c ≤ S.2.1) {i : Nat} (hi : i < n) : (ltK S fb W T o c i).1 ≤ S.2.1 ∧ (-20000 - 600 * (i : Int) ≤ (ltK S fb W T o c i).2.toInt ∧ (ltK S fb W T o c i).2.toInt ≤ 100000 + 5500 * (i : Int)) ∧ ((ltK S fb W T o c i).1 < S.2.1 → 1 < fb ((ltK S fb W T o c i).1 + 1) - fb (ltK S fb W T o c i).1 ∧ (ltK S fb W T o c i).2 + W i ≤ lnC S fb (ltK S fb W T o c i).1) := by
  obtain ⟨a0, a⟩ := ltM_b (S := S) (fb := fb) h hc i (by omega)
  have sk := skN_b S fb (W i) (S.2.1 - (ltM S fb W T o c i).1) (ltM S fb W T o c i).1 (ltM S fb W T o c i).2
  have z : (0 : Int32).toInt = 0 := rfl
  unfold ltK
  refine ⟨by omega, ?_, fun q => sk.2.2.2 (by omega)⟩
  rcases sk.2.2.1 with e | e
  · rw [e]; exact a
  · rw [e, z]; omega
/-- what is known of a placed letter -/
def LOK (S : FS) (fb : Nat → Nat) (n : Nat) (R : LRS) : Prop := ∀ i, i < n → ∀ h, (R i).1 = some h → h < S.2.1 ∧ 1 < fb (h + 1) - fb h ∧ 0 ≤ (R i).2 ∧ (R i).2 ≤ lnC S fb h
theorem ltRes_ok {S : FS} {fb : Nat → Nat} {n : Nat} {W T : Nat → Int32} {o md : Int32} (h : LB n W T o) {c : Nat} (hc : c < S.2.1) : LOK S fb n (ltRes S fb n W T o md c) := by
  intro i hi hh e
  unfold ltRes at e ⊢
  by_cases q : md = 3
  · rw [if_pos q] at e ⊢
    unfold ltMov at e ⊢
    have kb := ltK_b (S := S) (fb := fb) h (c := c) (by omega) hi
    have n24 := h.1
    have wb := (h.2.1 i hi).1
    have hf := half_i wb
    dsimp only at e ⊢
    by_cases p : (ltK S fb W T o c i).1 < S.2.1 ∧ 0 ≤ (ltK S fb W T o c i).2 + W i / 2
    · rw [if_pos p] at e
      cases e
      have k2 := kb.2.2 p.1
      refine ⟨p.1, k2.1, p.2, ?_⟩
      have k3 := k2.2
      rw [Int32.le_iff_toInt_le] at k3 ⊢
      rw [fb_addI] at k3 ⊢ <;> omega
    · rw [if_neg p] at e
      cases e
  · rw [if_neg q] at e ⊢
    unfold ltOne at e ⊢
    dsimp only at e ⊢
    by_cases p : 1 < fb (c + 1) - fb c ∧ 0 ≤ ctr (S.2.2 6 c) o md n W T (lnC S fb c) i ∧ ctr (S.2.2 6 c) o md n W T (lnC S fb c) i ≤ lnC S fb c
    · rw [if_pos p] at e
      cases e
      exact ⟨hc, p⟩
    · rw [if_neg p] at e
      cases e
/-- the letters on the class's side -/
def LCc (V : vM) (n : Nat) (W T : Nat → Int32) (o md : Int32) : Prop := V 9 5 = nI n ∧ V 9 7 = o ∧ V 9 9 = md ∧ LB n W T o ∧ (∀ j, j < n → 0 ≤ V 31 j ∧ V 31 j ≤ 25) ∧ (∀ i, i < n → V 32 (V 31 i).toNatClampNeg = W i) ∧ ∀ i, i < n → stpA V n i = T i
theorem LCc.ag {V U : vM} {n : Nat} {W T : Nat → Int32} {o md : Int32} (h : LCc V n W T o md) (q : ∀ a i, ((a = 9 ∧ 5 ≤ i) ∨ a = 31 ∨ a = 32 ∨ a = 33) → U a i = V a i) : LCc U n W T o md := by
  obtain ⟨h1, h2, h3, h4, h5, h6, h7⟩ := h
  refine ⟨by rw [q 9 5 (by omega)]; exact h1, by rw [q 9 7 (by omega)]; exact h2, by rw [q 9 9 (by omega)]; exact h3, h4, fun j hj => by rw [q 31 j (by omega)]; exact h5 j hj, fun i hi => by rw [q 31 i (by omega), q 32 _ (by omega)]; exact h6 i hi, fun i hi => ?_⟩
  rw [← h7 i hi]
  unfold stpA keO
  rw [q 31 i (by omega), q 32 _ (by omega), q 9 8 (by omega), q 31 (i + 1) (by omega), q 33 _ (by omega)]
theorem LCc.B {V : vM} {n : Nat} {W T : Nat → Int32} {o md : Int32} (h : LCc V n W T o md) : ∀ i, i ≤ n → lbg V n i = ltB o T i
  | 0, _ => h.2.1
  | i + 1, hi => by rw [lbg, ltB, h.B i (by omega), h.2.2.2.2.2.2 i (by omega)]
def LRc (V : vM) (n : Nat) (R : LRS) : Prop := ∀ i, i < n → V 34 i = (R i).2 ∧ V 35 i = hmC (R i).1
theorem LRc.put {V U : vM} {j : Nat} {R : LRS} (h : LRc V j R) {x y : Int32} (e : U = uM (uM V 34 j x) 35 j y) (hx : x = (R j).2) (hy : y = hmC (R j).1) : LRc U (j + 1) R := by
  intro i hi
  rw [e]
  by_cases q : i = j
  · subst q; rw [uM_na (by decide), uM_hit, uM_hit]; exact ⟨hx, hy⟩
  · rw [uM_na (by decide), uM_ni q, uM_ni q, uM_na (by decide)]; exact h i (by omega)
def fr9 (V U : vM) : Prop := ∀ a i, a ≠ 34 → a ≠ 35 → U a i = V a i
theorem fr9.refl (V : vM) : fr9 V V := fun _ _ _ _ => rfl
theorem fr9.st {V U U' : vM} (h : fr9 V U) {i j : Nat} {x y : Int32} (e : U' = uM (uM U 34 i x) 35 j y) : fr9 V U' := by
  intro b k h1 h2
  rw [e, uM_na h2, uM_na h1]
  exact h b k h1 h2
theorem fr9.K {V U : vM} (h : fr9 V U) : frK V U := fun a i p => by
  obtain ⟨p1, p2, p3, p4, p5, p6, p7, p8, p9, p10, p11, p12, p13, p14⟩ := p
  exact h a i p10 p11
