/-! THE LOGIC OF THIS PROOF: a method that makes no cell, over a world of cells that are numbered: 'EV G μ args hh Q' (it returns r, the cells hh become hh', and Q r hh'), 'RR' (the same from a place inside it) -/
abbrev GG : Type := Launch × va_G × (ClassId × ClassId × ClassId × ClassId) × (Nat → Nat) × Nat × (Nat → Nat) × (Nat → Nat)
def gl (G : GG) : Launch := G.1
def gD (G : GG) : va_G := G.2.1
def gI (G : GG) : ClassId := G.2.2.1.1
def gZ (G : GG) : ClassId := G.2.2.1.2.1
def gS (G : GG) : ClassId := G.2.2.1.2.2.1
def gL (G : GG) : ClassId := G.2.2.1.2.2.2
def ad (G : GG) : Nat → Nat := G.2.2.2.1
def gn (G : GG) : Nat := G.2.2.2.2.1
def kK (G : GG) : Nat → Nat := G.2.2.2.2.2.1
def kV (G : GG) : Nat → Nat := G.2.2.2.2.2.2
abbrev HH : Type := Nat → va_E
def clsX : List vw_C := [(RX0, TX0, 3), (RX1, TX1, 2), (RX2, TX2, 15), (RX3, TX3, 5), (RX4, TX4, 12), (RX5, TX5, 20)]
def gty (G : GG) : List (ClassId × FieldType) := [(gI G, .int), (gZ G, .boolean), (gS G, .object "CaseWheel$State"), (gL G, .object "CaseWheel$Letters")]
def wd (G : GG) (hh : HH) : va_W := (List.range (gn G)).map (fun i => (ad G i, hh i))
def gA (G : GG) : Nat → Prop := fun q => ∃ i, i < gn G ∧ q = ad G i
def XW : List Cond := lw_tbl.filter goodWord
def nestW : List Cond := [.methodLinkNest "CaseWheel$TextReader" 48 yX4_isSmallLetter "CaseWheel", .methodLinkNest "CaseWheel$TextReader" 51 yX4_isDigit "CaseWheel", .methodLinkNest "CaseWheel$TextReader" 108 yX4_isSubject "CaseWheel", .methodLinkNest "CaseWheel$Letters" 52 yX4_ruleName "CaseWheel", .methodLinkNest "CaseWheel$State" 110 yX4_turned "CaseWheel"]
def strW : List (String × Nat × String) := [("CaseWheel$TextReader", 62, "wheel"), ("CaseWheel$TextReader", 73, "judge"), ("CaseWheel$TextReader", 78, "bar"), ("CaseWheel$TextReader", 83, "away"), ("CaseWheel$TextReader", 88, "rule"), ("CaseWheel", 252, "plain"), ("CaseWheel", 254, "versed"), ("CaseWheel", 255, "owing"), ("CaseWheel", 257, "both")]
def lenS : List Nat := [5, 5, 3, 4, 4, 5, 6, 5, 4]
def bytS : List (List Int32) := [[119, 104, 101, 101, 108], [106, 117, 100, 103, 101], [98, 97, 114], [97, 119, 97, 121], [114, 117, 108, 101], [112, 108, 97, 105, 110], [118, 101, 114, 115, 101, 100], [111, 119, 105, 110, 103], [98, 111, 116, 104]]
/-- what holds of every state that a method of the world begins in, its cells apart -/
def GF (G : GG) (U : State) : Prop := va_K (gD G) clsX (gty G) U ∧ (∀ i j, i < gn G → j < gn G → ad G i = ad G j → i = j) ∧ (∀ w ∈ nestW, va_Nw w U) ∧
  (∀ i q, strW[i]? = some q → vk_R q.1 q.2.1 q.2.2 (kK G i) U) ∧ vk_S 9 lenS bytS (kK G) (kV G) (gA G) U U.heap ∧
  va_Z "java/lang/String" "COMPACT_STRINGS" "Z" (.int 1) (gA G) U U.heap ∧ va_Zq "jdk/internal/util/Preconditions" "SIOOBE_FORMATTER" "Ljava/util/function/BiFunction;" (gA G) U U.heap
abbrev MI : Type := MethodName × ByteArray × Nat × Option FieldType × Nat
def rmH (h : Nat) : Room := { frames := h, cells := 0, slots := 0, locals := 40 * h }
def mcd (μ : MI) : Cond := .code μ.1 μ.2.1 μ.2.2.1 μ.2.2.2.1
abbrev QQ : Type := Option Value → HH → Prop
def QV (G : GG) (Q : QQ) : Array Value → State → Outcome → State → Prop := fun _ st oc t => (∃ r hh', oc = .returned r ∧ Q r hh' ∧ va_P (gD G) clsX (wd G hh') t.heap) ∧ va_F (gA G) st t
def PV (G : GG) (args : List Value) (hh : HH) : Array Value → State → Prop := fun v U => v = args.toArray ∧ va_P (gD G) clsX (wd G hh) U.heap ∧ GF G U
def EV (G : GG) (μ : MI) (args : List Value) (hh : HH) (Q : QQ) : Prop := Met (gl G) μ.1 (mcd μ :: XW) (rmH μ.2.2.2.2) (PV G args hh) (QV G Q) 0 0 (gA G)
def EVi (G : GG) (μ : MI) (args : List Value) (hh : HH) (P : Int32 → HH → Prop) : Prop := EV G μ args hh (fun r h => ∃ v, r = some (.int v) ∧ P v h)
def EVp (G : GG) (μ : MI) (args : List Value) (hh : HH) (w : Int32) : Prop := EVi G μ args hh (fun v h => v = w ∧ h = hh)
def EVr (G : GG) (μ : MI) (args : List Value) (hh : HH) (P : Nat → HH → Prop) : Prop := EV G μ args hh (fun r h => ∃ v, r = some (.ref v) ∧ P v h)
def EVv (G : GG) (μ : MI) (args : List Value) (hh : HH) (P : HH → Prop) : Prop := EV G μ args hh (fun r h => r = none ∧ P h)
def CX (G : GG) (μ : MI) (p : Program) (s : State) (m : MethodId) (args : Array Value) (meth : Method) (c : Code) : Prop := p.tables.exec = Jvm.exec ∧ c.code = μ.2.1 ∧ meth.sig.returnType = μ.2.2.2.1 ∧ c.maxLocals = μ.2.2.1 ∧ s.vm.findClass μ.1.cls = some m.cls ∧ meth.locks = false ∧ (∀ w ∈ mcd μ :: XW, w.before args s = true) ∧ GF G s
def RR (G : GG) (μ : MI) (pc : Nat) (lv : List (Nat × Value)) (st : List Value) (hh : HH) (Q : QQ) : Prop :=
  ∀ (p : Program) (e : Env) (s : State) (m : MethodId) (args : Array Value) (below : List Frame) (meth : Method) (c : Code), CX G μ p s m args meth c → ∀ (H : Heap) (locs : List Loc) (ls : Array Slot), va_P (gD G) clsX (wd G hh) H → va_S (gA G) s.heap H locs → lv_has ls μ.2.2.1 lv →
    W p (gl G) e (rmH μ.2.2.2.2) s m args below meth c H locs 0 0 (MQ below (QV G Q) args s 0 0 (gA G)) (F0 m pc ls st)
theorem GF.warm {G : GG} {s U : State} {H : Heap} {locs : List Loc} (h : GF G s) (hU : U.heap = H) (hW : s.WarmedH U.vm) (hS : va_S (gA G) s.heap H locs) : GF G U := by
  obtain ⟨h1, h2, h3, h4, h5, h6, h7⟩ := h
  have hal := hW.alike
  refine ⟨va_K.moved hal h1, h2, fun w hw => ?_, fun i q hq => (h4 i q hq).warm hW, ?_, ?_, ?_⟩
  · have hz := h3 w hw
    simp only [nestW, List.mem_cons, List.not_mem_nil, or_false] at hw
    rcases hw with rfl | rfl | rfl | rfl | rfl <;> exact hz.warmM hW
  · rw [hU]; exact (h5.moved hal).kept hS.2.1
  · rw [hU]; exact (h6.moved hal).kept hS.2.1
  · rw [hU]; exact (h7.moved hal).kept hS.2.1
theorem GF.calling {G : GG} {U : State} {g : JFrame} {mk : MethodId} {a : Array Value} (h : GF G U) : GF G (U.calling g mk a) := by
  obtain ⟨h1, h2, h3, h4, h5, h6, h7⟩ := h
  have hal : U.vm.Alike (U.calling g mk a).vm := Vm.Alike.refl U.vm
  refine ⟨va_K.moved hal h1, h2, fun w hw => ?_, fun i q hq => vk_R.same rfl (h4 i q hq), h5.moved hal, h6.moved hal, h7.moved hal⟩
  have hz := h3 w hw
  simp only [nestW, List.mem_cons, List.not_mem_nil, or_false] at hw
  rcases hw with rfl | rfl | rfl | rfl | rfl <;> exact va_Nw.same rfl rfl hz
theorem PV.blind {G : GG} {args : List Value} {hh : HH} : FrameBlind (PV G args hh) := fun _ _ _ _ h => ⟨h.1, h.2.1, h.2.2.calling⟩
theorem wd_get {G : GG} {hh : HH} {k : Nat} (hk : k < gn G) : (wd G hh)[k]? = some (ad G k, hh k) := by simp [wd, hk]
theorem wd_set {G : GG} {hh : HH} {k : Nat} (hk : k < gn G) (e : va_E) : (wd G hh).set k (ad G k, e) = wd G (va_up hh k e) := by
  apply List.ext_getElem?
  intro i
  by_cases hi : i = k
  · subst hi
    rw [wd_get hk]
    simp [wd, hk, va_up]
  · rw [List.getElem?_set_ne (fun h => hi h.symm)]
    by_cases hn : i < gn G
    · rw [wd_get hn, wd_get hn]
      simp [va_up, hi]
    · simp [wd, hn]
theorem GF.D {G : GG} {s : State} (h : GF G s) (hh : HH) : va_D (gA G) (wd G hh) := by
  refine ⟨fun i j x y hi hj hxy => ?_, fun k q hq => ?_⟩
  · have hi' : i < gn G := by
      have := (List.getElem?_eq_some_iff.mp hi).1
      simpa [wd] using this
    have hj' : j < gn G := by
      have := (List.getElem?_eq_some_iff.mp hj).1
      simpa [wd] using this
    rw [wd_get hi'] at hi
    rw [wd_get hj'] at hj
    cases hi; cases hj
    exact h.2.1 i j hi' hj' hxy
  · have hk' : k < gn G := by
      have := (List.getElem?_eq_some_iff.mp hq).1
      simpa [wd] using this
    rw [wd_get hk'] at hq
    cases hq
    exact ⟨k, hk', rfl⟩
/-- the cell k -/
def hAt (G : GG) (hh : HH) (k : Nat) (e : va_E) : Prop := k < gn G ∧ hh k = e
theorem hAt.get {G : GG} {hh : HH} {k : Nat} {e : va_E} (h : hAt G hh k e) : (wd G hh)[k]? = some (ad G k, e) := by rw [← h.2]; exact wd_get h.1
theorem hAt.up {G : GG} {hh : HH} {k : Nat} {e : va_E} (h : k < gn G) : hAt G (va_up hh k e) k e := ⟨h, by simp [va_up]⟩
theorem hAt.ne {G : GG} {hh : HH} {k j : Nat} {e e' : va_E} (h : hAt G hh k e) (hn : k ≠ j) : hAt G (va_up hh j e') k e := ⟨h.1, by simp [va_up, hn, h.2]⟩
/-- a method out of its body -/
theorem EV.of {G : GG} {μ : MI} {args : List Value} {hh : HH} {Q : QQ} (lv : List (Nat × Value)) (hy : plainName μ.1.cls = true) (hn : (lg_sl args).length ≤ μ.2.2.1) (hl : lv_args 0 args = lv) (k : RR G μ 0 lv [] hh Q) : EV G μ args hh Q := by
  subst hl
  refine Met.ofW (cc := μ.2.1) (maxL := μ.2.2.1) (ret := μ.2.2.2.1) hy rfl ?_
  intro p e s m args' below meth c s₁ B hml hv
  obtain ⟨rfl, hP, hG⟩ := hv
  have hts := atoms_spec (ws := mcd μ :: XW) B.pre
  have hown : s.vm.findClass μ.1.cls = some m.cls := findClass_of_methodNamed B.named
  rw [lg_entry_eq]
  exact k p e s m _ below meth c ⟨B.exec, B.bytes, B.returns, hml, hown, B.notSynchronized, hts, hG⟩ s.heap [] _ hP va_S.rf (lv_entry args hn)
/-! locals -/
def lvGet (lv : List (Nat × Value)) (i : Nat) : Option Value := (lv.find? (fun q => q.1 == i)).map (fun q => q.2)
def lvPut (lv : List (Nat × Value)) (i : Nat) (v : Value) : List (Nat × Value) := (i, v) :: lv.filter (fun q => !(q.1 == i) && !(q.1 + 1 == i && q.2.category == 2))
def lvPutL (lv : List (Nat × Value)) (i : Nat) (v : Value) : List (Nat × Value) := (i, v) :: lv.filter (fun q => !(q.1 == i) && (!(q.1 == i + 1) && !(q.1 + 1 == i && q.2.category == 2)))
theorem lvGet_has {ls : Array Slot} {nL : Nat} {lv : List (Nat × Value)} {i : Nat} {v : Value} (h : lv_has ls nL lv) (hg : lvGet lv i = some v) : ls[i]? = some (.val v) := by
  unfold lvGet at hg
  cases hf : lv.find? (fun q => q.1 == i) with
  | none => rw [hf] at hg; cases hg
  | some q =>
    rw [hf] at hg
    have h1 := List.find?_some hf
    have h2 := List.mem_of_find?_eq_some hf
    have h3 := h.2.2 q h2
    have e1 : q.1 = i := by simpa using h1
    have e2 : q.2 = v := by simpa using hg
    rw [e1, e2] at h3
    exact h3
theorem lvGet_mem {lv : List (Nat × Value)} {i : Nat} {v : Value} (hg : lvGet lv i = some v) : ∃ k : Nat, lv[k]? = some (i, v) := by
  unfold lvGet at hg
  cases hf : lv.find? (fun q => q.1 == i) with
  | none => rw [hf] at hg; cases hg
  | some q =>
    rw [hf] at hg
    have h1 := List.find?_some hf
    have h2 := List.mem_of_find?_eq_some hf
    have e1 : q.1 = i := by simpa using h1
    have e2 : q.2 = v := by simpa using hg
    obtain ⟨k, hk⟩ := List.getElem?_of_mem h2
    refine ⟨k, ?_⟩
    rw [hk, ← e1, ← e2]
