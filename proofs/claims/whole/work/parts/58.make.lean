/-! A LOGIC FOR CONSTRUCTORS: a world of n cells at the addresses ad 0, ad 1 .., which grows; 'EN' the contract, 'MR' from a place on -/
def wdN (ad : Nat → Nat) (n : Nat) (hh : HH) : va_W := (List.range n).map (fun i => (ad i, hh i))
def gy (G : GG) (ad : Nat → Nat) (n : Nat) : GG := (gl G, gD G, (gI G, gZ G, gS G, gL G), ad, n, kK G, kV G)
def abA (b : Nat) : Nat → Prop := fun q => b ≤ q
def nestI : List Cond := [.methodLinkNest "CaseWheel" 40 yX2_init "CaseWheel", .methodLinkNest "CaseWheel$History" 17 yX2_init "CaseWheel"]
def GFm (G : GG) (b : Nat) (U : State) : Prop := va_K (gD G) clsX (gty G) U ∧ (∀ w ∈ nestW, va_Nw w U) ∧
  (∀ i q, strW[i]? = some q → vk_R q.1 q.2.1 q.2.2 (kK G i) U) ∧ vk_S 9 lenS bytS (kK G) (kV G) (abA b) U U.heap ∧
  va_Z "java/lang/String" "COMPACT_STRINGS" "Z" (.int 1) (abA b) U U.heap ∧ va_Zq "jdk/internal/util/Preconditions" "SIOOBE_FORMATTER" "Ljava/util/function/BiFunction;" (abA b) U U.heap ∧ (∀ w ∈ nestI, va_Nw w U) ∧ va_AO "CaseWheel$State" U ∧ va_AO "CaseWheel$Letters" U ∧ b ≤ U.heap.size
def rmM (h rc rs : Nat) : Room := { frames := h, cells := rc, slots := rs, locals := 40 * h }
abbrev QN : Type := (Nat → Nat) → Nat → HH → Prop
def QM (G : GG) (b : Nat) (Q : QN) : Array Value → State → Outcome → State → Prop := fun _ st oc t => (∃ ad n hh, oc = .returned none ∧ Q ad n hh ∧ va_P (gD G) clsX (wdN ad n hh) t.heap ∧ va_D (abA b) (wdN ad n hh)) ∧ va_F (abA b) st t
def PM (G : GG) (b : Nat) (args : List Value) (ad : Nat → Nat) (n : Nat) (hh : HH) : Array Value → State → Prop := fun v U => v = args.toArray ∧ va_P (gD G) clsX (wdN ad n hh) U.heap ∧ va_D (abA b) (wdN ad n hh) ∧ GFm G b U
def EN (G : GG) (b : Nat) (μ : MI) (args : List Value) (ad : Nat → Nat) (n : Nat) (hh : HH) (rc rs : Nat) (Q : QN) : Prop := Met (gl G) μ.1 (mcd μ :: XW) (rmM μ.2.2.2.2 rc rs) (PM G b args ad n hh) (QM G b Q) rc rs (abA b)
def CM (G : GG) (b : Nat) (μ : MI) (p : Program) (s : State) (m : MethodId) (args : Array Value) (meth : Method) (c : Code) : Prop := p.tables.exec = Jvm.exec ∧ c.code = μ.2.1 ∧ meth.sig.returnType = μ.2.2.2.1 ∧ c.maxLocals = μ.2.2.1 ∧ s.vm.findClass μ.1.cls = some m.cls ∧ meth.locks = false ∧ (∀ w ∈ mcd μ :: XW, w.before args s = true) ∧ GFm G b s ∧ meth.name = μ.1.name
def MR (G : GG) (b : Nat) (μ : MI) (rc rs pc : Nat) (lv : List (Nat × Value)) (st : List Value) (ad : Nat → Nat) (n : Nat) (hh : HH) (ck sk : Nat) (Q : QN) : Prop :=
  ∀ (p : Program) (e : Env) (s : State) (m : MethodId) (args : Array Value) (below : List Frame) (meth : Method) (c : Code), CM G b μ p s m args meth c → ∀ (H : Heap) (locs : List Loc) (ls : Array Slot), va_P (gD G) clsX (wdN ad n hh) H → va_D (abA b) (wdN ad n hh) → va_S (abA b) s.heap H locs → lv_has ls μ.2.2.1 lv →
    W p (gl G) e (rmM μ.2.2.2.2 rc rs) s m args below meth c H locs ck sk (MQ below (QM G b Q) args s rc rs (abA b)) (F0 m pc ls st)
theorem GFm.warm {G : GG} {b : Nat} {s U : State} {H : Heap} {locs : List Loc} (h : GFm G b s) (hU : U.heap = H) (hW : s.WarmedH U.vm) (hS : va_S (abA b) s.heap H locs) : GFm G b U := by
  obtain ⟨h1, h3, h4, h5, h6, h7, h8, h9, h10, h11⟩ := h
  have hal := hW.alike
  refine ⟨va_K.moved hal h1, fun w hw => ?_, fun i q hq => (h4 i q hq).warm hW, ?_, ?_, ?_, fun w hw => ?_, h9.moved hal, h10.moved hal, by rw [hU]; exact Nat.le_trans h11 hS.1⟩
  · have hz := h3 w hw
    simp only [nestW, List.mem_cons, List.not_mem_nil, or_false] at hw
    rcases hw with rfl | rfl | rfl | rfl | rfl <;> exact hz.warmM hW
  · rw [hU]; exact (h5.moved hal).kept hS.2.1
  · rw [hU]; exact (h6.moved hal).kept hS.2.1
  · rw [hU]; exact (h7.moved hal).kept hS.2.1
  · have hz := h8 w hw
    simp only [nestI, List.mem_cons, List.not_mem_nil, or_false] at hw
    rcases hw with rfl | rfl <;> exact hz.warmM hW
theorem GFm.calling {G : GG} {b : Nat} {U : State} {g : JFrame} {mk : MethodId} {a : Array Value} (h : GFm G b U) : GFm G b (U.calling g mk a) := by
  obtain ⟨h1, h3, h4, h5, h6, h7, h8, h9, h10, h11⟩ := h
  have hal : U.vm.Alike (U.calling g mk a).vm := Vm.Alike.refl U.vm
  refine ⟨va_K.moved hal h1, fun w hw => ?_, fun i q hq => vk_R.same rfl (h4 i q hq), h5.moved hal, h6.moved hal, h7.moved hal, fun w hw => ?_, h9.moved hal, h10.moved hal, h11⟩
  · have hz := h3 w hw
    simp only [nestW, List.mem_cons, List.not_mem_nil, or_false] at hw
    rcases hw with rfl | rfl | rfl | rfl | rfl <;> exact va_Nw.same rfl rfl hz
  · have hz := h8 w hw
    simp only [nestI, List.mem_cons, List.not_mem_nil, or_false] at hw
    rcases hw with rfl | rfl <;> exact va_Nw.same rfl rfl hz
theorem PM.blind {G : GG} {b : Nat} {args : List Value} {ad : Nat → Nat} {n : Nat} {hh : HH} : FrameBlind (PM G b args ad n hh) := fun _ _ _ _ h => ⟨h.1, h.2.1, h.2.2.1, h.2.2.2.calling⟩
theorem wdN_get {ad : Nat → Nat} {n : Nat} {hh : HH} {k : Nat} (hk : k < n) : (wdN ad n hh)[k]? = some (ad k, hh k) := by simp [wdN, hk]
theorem wdN_set {ad : Nat → Nat} {n : Nat} {hh : HH} {k : Nat} (hk : k < n) (e : va_E) : (wdN ad n hh).set k (ad k, e) = wdN ad n (va_up hh k e) := by
  apply List.ext_getElem?
  intro i
  by_cases hi : i = k
  · subst hi
    rw [wdN_get hk]
    simp [wdN, hk, va_up]
  · rw [List.getElem?_set_ne (fun h => hi h.symm)]
    by_cases hn : i < n
    · rw [wdN_get hn, wdN_get hn]
      simp [va_up, hi]
    · simp [wdN, hn]
theorem wdN_push (ad : Nat → Nat) (n : Nat) (hh : HH) (q : Nat) (e : va_E) : wdN ad n hh ++ [(q, e)] = wdN (va_up ad n q) (n + 1) (va_up hh n e) := by
  unfold wdN
  rw [List.range_succ, List.map_append]
  congr 1
  · apply List.map_congr_left
    intro i hi
    have hn : i ≠ n := by have := List.mem_range.mp hi; omega
    simp [va_up, hn]
  · simp [va_up]
theorem wdN_D {A : Nat → Prop} {ad : Nat → Nat} {n : Nat} {hh hh' : HH} (h : va_D A (wdN ad n hh)) : va_D A (wdN ad n hh') := by
  have key : ∀ {hh : HH} (i : Nat) (x : Nat × va_E), (wdN ad n hh)[i]? = some x → i < n ∧ x.1 = ad i := fun {hh} i x hx => by
    have hi : i < n := by
      have := (List.getElem?_eq_some_iff.mp hx).1
      simpa [wdN] using this
    rw [wdN_get hi] at hx
    cases hx
    exact ⟨hi, rfl⟩
  refine ⟨fun i j x y hx hy hxy => ?_, fun k q hq => ?_⟩
  · obtain ⟨hi, ei⟩ := key i x hx
    obtain ⟨hj, ej⟩ := key j y hy
    exact h.1 i j _ _ (wdN_get hi) (wdN_get hj) (by rw [← ei, ← ej]; exact hxy)
  · obtain ⟨hi, ei⟩ := key k q hq
    rw [ei]
    exact h.2 k _ (wdN_get hi)
/-- a cell of the growing world: its place, its address, what it holds -/
def nAt (ad : Nat → Nat) (n : Nat) (hh : HH) (k a : Nat) (e : va_E) : Prop := k < n ∧ ad k = a ∧ hh k = e
theorem nAt.get {ad : Nat → Nat} {n : Nat} {hh : HH} {k a : Nat} {e : va_E} (h : nAt ad n hh k a e) : (wdN ad n hh)[k]? = some (a, e) := by rw [wdN_get h.1, h.2.1, h.2.2]
theorem nAt.set {ad : Nat → Nat} {n : Nat} {hh : HH} {k a : Nat} {e0 : va_E} (h : nAt ad n hh k a e0) (e : va_E) : (wdN ad n hh).set k (a, e) = wdN ad n (va_up hh k e) := by rw [← h.2.1]; exact wdN_set h.1 e
theorem nAt.new {ad : Nat → Nat} {n : Nat} {hh : HH} (q : Nat) (e : va_E) : nAt (va_up ad n q) (n + 1) (va_up hh n e) n q e := ⟨Nat.lt_succ_self n, by simp [va_up], by simp [va_up]⟩
theorem nAt.push {ad : Nat → Nat} {n : Nat} {hh : HH} {k a : Nat} {e : va_E} (h : nAt ad n hh k a e) (q : Nat) (e2 : va_E) : nAt (va_up ad n q) (n + 1) (va_up hh n e2) k a e := by
  have hk : k ≠ n := by have := h.1; omega
  exact ⟨by have := h.1; omega, by simp [va_up, hk, h.2.1], by simp [va_up, hk, h.2.2]⟩
theorem nAt.up {ad : Nat → Nat} {n : Nat} {hh : HH} {k a : Nat} {e0 : va_E} (h : nAt ad n hh k a e0) (e : va_E) : nAt ad n (va_up hh k e) k a e := ⟨h.1, h.2.1, by simp [va_up]⟩
theorem nAt.ne {ad : Nat → Nat} {n : Nat} {hh : HH} {k a j : Nat} {e : va_E} (h : nAt ad n hh k a e) (e2 : va_E) (hj : k ≠ j) : nAt ad n (va_up hh j e2) k a e := ⟨h.1, h.2.1, by simp [va_up, hj, h.2.2]⟩
/-- a constructor out of its body -/
theorem EN.of {G : GG} {b : Nat} {μ : MI} {args : List Value} {ad : Nat → Nat} {n : Nat} {hh : HH} {rc rs : Nat} {Q : QN} (lv : List (Nat × Value)) (hy : plainName μ.1.cls = true) (hn : (lg_sl args).length ≤ μ.2.2.1) (hl : lv_args 0 args = lv) (k : MR G b μ rc rs 0 lv [] ad n hh 0 0 Q) : EN G b μ args ad n hh rc rs Q := by
  subst hl
  refine Met.ofW (cc := μ.2.1) (maxL := μ.2.2.1) (ret := μ.2.2.2.1) hy rfl ?_
  intro p e s m args' below meth c s₁ B hml hv
  obtain ⟨rfl, hP, hD, hG⟩ := hv
  have hts := atoms_spec (ws := mcd μ :: XW) B.pre
  have hown : s.vm.findClass μ.1.cls = some m.cls := findClass_of_methodNamed B.named
  rw [lg_entry_eq]
  exact k p e s m _ below meth c ⟨B.exec, B.bytes, B.returns, hml, hown, B.notSynchronized, hts, hG, (name_of_methodNamed B.named B.method).1⟩ s.heap [] _ hP hD va_S.rf (lv_entry args hn)
section MakeRules
variable {G : GG} {b : Nat} {μ : MI} {rc rs pc : Nat} {lv : List (Nat × Value)} {st : List Value} {ad : Nat → Nat} {n : Nat} {hh : HH} {ck sk : Nat} {Q : QN}
theorem M_iconst {z : Int} {v : Int32} (hd : decode μ.2.1 pc = .ok (.iconst z, 1)) (hv : Int32.ofInt z = v) (k : MR G b μ rc rs (pc + 1) lv (.int v :: st) ad n hh ck sk Q) : MR G b μ rc rs pc lv (st) ad n hh ck sk Q := fun p e s m args below meth c C H locs ls hP hD hS hl => lv_iconst C.1 C.2.1 hd hv (k p e s m args below meth c C H locs ls hP hD hS hl)
theorem M_bipush {z : Int} {v : Int32} (hd : decode μ.2.1 pc = .ok (.bipush z, 2)) (hv : (Int8.ofInt z).toInt32 = v) (k : MR G b μ rc rs (pc + 2) lv (.int v :: st) ad n hh ck sk Q) : MR G b μ rc rs pc lv (st) ad n hh ck sk Q := fun p e s m args below meth c C H locs ls hP hD hS hl => lv_bipush C.1 C.2.1 hd hv (k p e s m args below meth c C H locs ls hP hD hS hl)
theorem M_sipush {z : Int} {v : Int32} (hd : decode μ.2.1 pc = .ok (.sipush z, 3)) (hv : (Int16.ofInt z).toInt32 = v) (k : MR G b μ rc rs (pc + 3) lv (.int v :: st) ad n hh ck sk Q) : MR G b μ rc rs pc lv (st) ad n hh ck sk Q := fun p e s m args below meth c C H locs ls hP hD hS hl => lv_sipush C.1 C.2.1 hd hv (k p e s m args below meth c C H locs ls hP hD hS hl)
theorem M_iload_n {i : Fin 4} {x : Int32} (hd : decode μ.2.1 pc = .ok (.iload_n i, 1)) (hg : lvGet lv (i : Nat) = some (.int x)) (k : MR G b μ rc rs (pc + 1) lv (.int x :: st) ad n hh ck sk Q) : MR G b μ rc rs pc lv (st) ad n hh ck sk Q := fun p e s m args below meth c C H locs ls hP hD hS hl => lv_iload_n C.1 C.2.1 hd rfl (lvGet_has hl hg) (k p e s m args below meth c C H locs ls hP hD hS hl)
theorem M_aload_n {i : Fin 4} {x : Nat} (hd : decode μ.2.1 pc = .ok (.aload_n i, 1)) (hg : lvGet lv (i : Nat) = some (.ref x)) (k : MR G b μ rc rs (pc + 1) lv (.ref x :: st) ad n hh ck sk Q) : MR G b μ rc rs pc lv (st) ad n hh ck sk Q := fun p e s m args below meth c C H locs ls hP hD hS hl => lv_aload_n C.1 C.2.1 hd rfl (lvGet_has hl hg) (k p e s m args below meth c C H locs ls hP hD hS hl)
theorem M_dup {v : Value} (hd : decode μ.2.1 pc = .ok (.dup, 1)) (hc : v.category = 1) (k : MR G b μ rc rs (pc + 1) lv (v :: v :: st) ad n hh ck sk Q) : MR G b μ rc rs pc lv (v :: st) ad n hh ck sk Q := fun p e s m args below meth c C H locs ls hP hD hS hl => lv_dup C.1 C.2.1 hd hc (k p e s m args below meth c C H locs ls hP hD hS hl)
theorem M_istore_n {i : Fin 4} {x : Int32} (hd : decode μ.2.1 pc = .ok (.istore_n i, 1)) (hi : (i : Nat) < μ.2.2.1) (k : MR G b μ rc rs (pc + 1) (lvPut lv (i : Nat) (.int x)) st ad n hh ck sk Q) : MR G b μ rc rs pc lv (.int x :: st) ad n hh ck sk Q := fun p e s m args below meth c C H locs ls hP hD hS hl => lv_istore_n C.1 C.2.1 hd rfl hl hi rfl (fun ls' hl' => k p e s m args below meth c C H locs ls' hP hD hS hl')
theorem M_iinc {i : Nat} {z : Int} {x y : Int32} (hd : decode μ.2.1 pc = .ok (.iinc i z, 3)) (hg : lvGet lv i = some (.int x)) (hi : i < μ.2.2.1) (hy : x + Int32.ofInt z = y) (k : MR G b μ rc rs (pc + 3) (lvPut lv i (.int y)) st ad n hh ck sk Q) : MR G b μ rc rs pc lv st ad n hh ck sk Q := fun p e s m args below meth c C H locs ls hP hD hS hl => by
  obtain ⟨j, hj⟩ := lvGet_mem hg
  exact lv_iinc C.1 C.2.1 hd hl hj hy hi rfl (fun ls' hl' => k p e s m args below meth c C H locs ls' hP hD hS hl')
theorem M_icmp_ge {x y : Int32} {off : Int} {tgt : Nat} (hd : decode μ.2.1 pc = .ok (.if_icmp .ge off, 3)) (ht : (pc : Int) + off = (tgt : Int)) (kt : y ≤ x → MR G b μ rc rs tgt lv st ad n hh ck sk Q) (kf : ¬ (y ≤ x) → MR G b μ rc rs (pc + 3) lv st ad n hh ck sk Q) : MR G b μ rc rs pc lv (.int y :: .int x :: st) ad n hh ck sk Q := fun p e s m args below meth c C H locs ls hP hD hS hl => lv_icmp_ge C.1 C.2.1 hd ht (fun q => kt q p e s m args below meth c C H locs ls hP hD hS hl) (fun q => kf q p e s m args below meth c C H locs ls hP hD hS hl)
theorem M_goto {off : Int} {tgt : Nat} (hd : decode μ.2.1 pc = .ok (.goto off, 3)) (ht : (pc : Int) + off = (tgt : Int)) (k : MR G b μ rc rs tgt lv st ad n hh ck sk Q) : MR G b μ rc rs pc lv st ad n hh ck sk Q := fun p e s m args below meth c C H locs ls hP hD hS hl => lv_goto C.1 C.2.1 hd ht (k p e s m args below meth c C H locs ls hP hD hS hl)
theorem M_pick {lv' : List (Nat × Value)} (ks : List Nat) (h : lv_pick lv ks = lv') (k : MR G b μ rc rs pc lv' st ad n hh ck sk Q) : MR G b μ rc rs pc lv st ad n hh ck sk Q := fun p e s m args below meth c C H locs ls hP hD hS hl => k p e s m args below meth c C H locs ls hP hD hS (lv_sub hl ks h)
theorem M_widen {ck' sk' : Nat} (h1 : ck ≤ ck') (h2 : sk ≤ sk') (k : MR G b μ rc rs pc lv st ad n hh ck' sk' Q) : MR G b μ rc rs pc lv st ad n hh ck sk Q := fun p e s m args below meth c C H locs ls hP hD hS hl => W.widen (k := ck') (n := sk') h1 h2 (k p e s m args below meth c C H locs ls hP hD hS hl)
theorem M_get {idx ci f k a : Nat} {fs : List Value} {v : Value} (hd : decode μ.2.1 pc = .ok (.getfield idx, 3)) (hw : gfOK μ.1.cls idx ci f) (ha : nAt ad n hh k a (.inr (ci, fs))) (hv : fs[f]? = some v) (k1 : MR G b μ rc rs (pc + 3) lv (v :: st) ad n hh ck sk Q) : MR G b μ rc rs pc lv (.ref a :: st) ad n hh ck sk Q := fun p e s m args below meth c C H locs ls hP hD hS hl => by
  obtain ⟨⟨Cn, T, N⟩, hc, hin, hf, hlk⟩ := hw
  obtain ⟨hx, hb, hr, hml, hown, hlocks, hts, hG, hnm⟩ := id C
  exact va_get (Ts := mcd μ :: XW) hx hb hts (fun w h => List.mem_cons_of_mem _ (hin w h)) hown hG.1 hP k ha.get hc f hf (hts _ (List.mem_cons_of_mem _ hlk)) (fun _ h => h) hv hd (k1 p e s m args below meth c C H locs ls hP hD hS hl)
theorem M_put {idx ci f k a : Nat} {fs : List Value} {v : Value} {ty : FieldType} (hd : decode μ.2.1 pc = .ok (.putfield idx, 3)) (hw : pfOK μ.1.cls idx ci f ty) (ha : nAt ad n hh k a (.inr (ci, fs))) (hn : narrow ty v = v) (hfit : fits ty v = true) (hlen : f < fs.length) (k1 : MR G b μ rc rs (pc + 3) lv st ad n (va_up hh k (.inr (ci, fs.set f v))) ck sk Q) : MR G b μ rc rs pc lv (v :: .ref a :: st) ad n hh ck sk Q := fun p e s m args below meth c C H locs ls hP hD hS hl => by
  obtain ⟨⟨Cn, T, N⟩, hc, hin, hf, hlk, hfin, hty, hnm, ty0, hty0⟩ := hw
  obtain ⟨hx, hb, hr, hml, hown, hlocks, hts, hG, hnm2⟩ := id C
  refine va_put (Ts := mcd μ :: XW) hx hb hts (fun w h => List.mem_cons_of_mem _ (hin w h)) ty0 hty0 hnm hown hG.1 hP hD hS k ha.get hc f hf (hts _ (List.mem_cons_of_mem _ hlk)) (fun _ h => h) hfin hty hn hfit hlen hd (fun H1 locs1 hP1 hD1 hS1 => ?_)
  rw [ha.set] at hP1 hD1
  exact k1 p e s m args below meth c C H1 locs1 ls hP1 hD1 hS1 hl
/-- a final field of the constructor's own class -/
def ffOK (own : String) (idx ci f : Nat) (ty : FieldType) : Prop := ∃ q : vw_C, clsX[ci]? = some q ∧ (∀ w ∈ u_ws q.1 q.2.1 q.2.2, w ∈ XW) ∧ f < q.2.2 ∧ Cond.fieldLink own idx (q.2.1 f).1 (q.2.1 f).2.1 (q.2.1 f).2.2.1 ∈ XW ∧ (q.2.1 f).2.2.2 = true ∧ (q.2.1 f).1 = own ∧ parseFieldDescriptor (q.2.1 f).2.2.1 = some ty ∧ (∀ a, a < q.2.2 → ∀ b, b < q.2.2 → a ≠ b → (q.2.1 a).2.1 ≠ (q.2.1 b).2.1) ∧ ∃ ty0 : Nat → FieldType, ∀ k, k < q.2.2 → parseFieldDescriptor (q.2.1 k).2.2.1 = some (ty0 k)
theorem M_putF {idx ci f k a : Nat} {fs : List Value} {v : Value} {ty : FieldType} (hd : decode μ.2.1 pc = .ok (.putfield idx, 3)) (hw : ffOK μ.1.cls idx ci f ty) (hi : μ.1.name = "<init>") (ha : nAt ad n hh k a (.inr (ci, fs))) (hn : narrow ty v = v) (hfit : fits ty v = true) (hlen : f < fs.length) (k1 : MR G b μ rc rs (pc + 3) lv st ad n (va_up hh k (.inr (ci, fs.set f v))) ck sk Q) : MR G b μ rc rs pc lv (v :: .ref a :: st) ad n hh ck sk Q := fun p e s m args below meth c C H locs ls hP hD hS hl => by
  obtain ⟨⟨Cn, T, N⟩, hc, hin, hf, hlk, hfin, hdecl, hty, hnm, ty0, hty0⟩ := hw
  obtain ⟨hx, hb, hr, hml, hown, hlocks, hts, hG, hnm2⟩ := id C
  refine va_putF (Ts := mcd μ :: XW) hx hb hts (fun w h => List.mem_cons_of_mem _ (hin w h)) ty0 hty0 hnm hown hG.1 hP hD hS k ha.get hc f hf (hts _ (List.mem_cons_of_mem _ hlk)) (fun _ h => h) hfin (hnm2.trans hi) hdecl hty hn hfit hlen hd (fun H1 locs1 hP1 hD1 hS1 => ?_)
  rw [ha.set] at hP1 hD1
  exact k1 p e s m args below meth c C H1 locs1 ls hP1 hD1 hS1 hl
theorem M_iast {k a N : Nat} {f : Nat → Int32} {j : Nat} {x : Int32} (hd : decode μ.2.1 pc = .ok (.iastore, 1)) (ha : nAt ad n hh k a (eI G N f)) (hj : j < N) (hN : N < 2 ^ 31) (k1 : MR G b μ rc rs (pc + 1) lv st ad n (va_up hh k (eI G N (upd f j x))) ck sk Q) : MR G b μ rc rs pc lv (.int x :: .int (nI j) :: .ref a :: st) ad n hh ck sk Q := fun p e s m args below meth c C H locs ls hP hD hS hl => by
  obtain ⟨hx, hb, hr, hml, hown, hlocks, hts, hG, hnm2⟩ := id C
  refine va_iast hx hb hG.1 hP hD hS k 0 ha.get rfl (vp_in_nI hj hN) hd (fun H1 locs1 hP1 hD1 hS1 => ?_)
  rw [nI_clamp (by omega)] at hP1 hD1
  rw [ha.set] at hP1 hD1
  exact k1 p e s m args below meth c C H1 locs1 ls hP1 hD1 hS1 hl
theorem M_aastS {k a k2 v N : Nat} {f : Nat → Option Nat} {vs : List Value} {j : Nat} (hd : decode μ.2.1 pc = .ok (.aastore, 1)) (ha : nAt ad n hh k a (eS G N f)) (hv : nAt ad n hh k2 v (.inr (2, vs))) (hj : j < N) (hN : N < 2 ^ 31) (k1 : MR G b μ rc rs (pc + 1) lv st ad n (va_up hh k (eS G N (va_up f j (some v)))) ck sk Q) : MR G b μ rc rs pc lv (.ref v :: .int (nI j) :: .ref a :: st) ad n hh ck sk Q := fun p e s m args below meth c C H locs ls hP hD hS hl => by
  obtain ⟨hx, hb, hr, hml, hown, hlocks, hts, hG, hnm2⟩ := id C
  refine va_astq (r := (RX2, TX2, 15)) hx hb hG.1 hP hD hS k 2 k2 2 ha.get rfl hv.get rfl (vp_in_nI hj hN) hd (fun H1 locs1 hP1 hD1 hS1 => ?_)
  rw [nI_clamp (by omega)] at hP1 hD1
  rw [ha.set] at hP1 hD1
  exact k1 p e s m args below meth c C H1 locs1 ls hP1 hD1 hS1 hl
theorem M_aastL {k a k2 v N : Nat} {f : Nat → Option Nat} {vs : List Value} {j : Nat} (hd : decode μ.2.1 pc = .ok (.aastore, 1)) (ha : nAt ad n hh k a (eL G N f)) (hv : nAt ad n hh k2 v (.inr (1, vs))) (hj : j < N) (hN : N < 2 ^ 31) (k1 : MR G b μ rc rs (pc + 1) lv st ad n (va_up hh k (eL G N (va_up f j (some v)))) ck sk Q) : MR G b μ rc rs pc lv (.ref v :: .int (nI j) :: .ref a :: st) ad n hh ck sk Q := fun p e s m args below meth c C H locs ls hP hD hS hl => by
  obtain ⟨hx, hb, hr, hml, hown, hlocks, hts, hG, hnm2⟩ := id C
  refine va_astq (r := (RX1, TX1, 2)) hx hb hG.1 hP hD hS k 3 k2 1 ha.get rfl hv.get rfl (vp_in_nI hj hN) hd (fun H1 locs1 hP1 hD1 hS1 => ?_)
  rw [nI_clamp (by omega)] at hP1 hD1
  rw [ha.set] at hP1 hD1
  exact k1 p e s m args below meth c C H1 locs1 ls hP1 hD1 hS1 hl
theorem M_newi {N : Nat} (hd : decode μ.2.1 pc = .ok (.newarray .int, 2)) (hw : Cond.arrayClass .int ∈ XW) (hN : N ≤ 2000) (hck : ck + 1 ≤ rc) (hsk : sk + N ≤ rs) (k1 : ∀ q, MR G b μ rc rs (pc + 2) lv (.ref q :: st) (va_up ad n q) (n + 1) (va_up hh n (eI G N (fun _ => 0))) (ck + 1) (sk + N) Q) : MR G b μ rc rs pc lv (.int (nI N) :: st) ad n hh ck sk Q := fun p e s m args below meth c C H locs ls hP hD hS hl => by
  obtain ⟨hx, hb, hr, hml, hown, hlocks, hts, hG, hnm2⟩ := id C
  refine va_newa (atype := .int) (ty := .int) (a0 := (N, .inl (fun _ => 0))) hx hb (hts _ (List.mem_cons_of_mem _ hw)) rfl hG.1 hP hD hS (fun q h => Nat.le_trans hG.2.2.2.2.2.2.2.2.2 h) (fun cA => rfl) (fun h => absurd ((nI_ltI (b := 0) (by omega) (by decide)).mp h) (by omega)) (nI_clamp (by omega)) (by show N * 4 ≤ _; omega) hck hsk hd (fun q cA H1 hK1 hP1 hD1 hS1 => ?_)
  have e9 : cA = gI G := by
    have r1 : s.vm.findClass ("[" ++ FieldType.int.toString) = some cA := (hK1.2 4 (cA, .int) rfl).2
    have r2 : s.vm.findClass ("[" ++ FieldType.int.toString) = some (gI G) := (hG.1.2 0 (gI G, .int) rfl).2
    exact Option.some.inj (r1.symm.trans r2)
  subst e9
  rw [wdN_push] at hP1 hD1
  exact k1 q p e s m args below meth c C H1 locs ls hP1 hD1 hS1 hl
theorem M_newz {N : Nat} (hd : decode μ.2.1 pc = .ok (.newarray .boolean, 2)) (hw : Cond.arrayClass .boolean ∈ XW) (hN : N ≤ 2000) (hck : ck + 1 ≤ rc) (hsk : sk + N ≤ rs) (k1 : ∀ q, MR G b μ rc rs (pc + 2) lv (.ref q :: st) (va_up ad n q) (n + 1) (va_up hh n (eZ G N (fun _ => 0))) (ck + 1) (sk + N) Q) : MR G b μ rc rs pc lv (.int (nI N) :: st) ad n hh ck sk Q := fun p e s m args below meth c C H locs ls hP hD hS hl => by
  obtain ⟨hx, hb, hr, hml, hown, hlocks, hts, hG, hnm2⟩ := id C
  refine va_newa (atype := .boolean) (ty := .boolean) (a0 := (N, .inl (fun _ => 0))) hx hb (hts _ (List.mem_cons_of_mem _ hw)) rfl hG.1 hP hD hS (fun q h => Nat.le_trans hG.2.2.2.2.2.2.2.2.2 h) (fun cA => rfl) (fun h => absurd ((nI_ltI (b := 0) (by omega) (by decide)).mp h) (by omega)) (nI_clamp (by omega)) (by show N * 1 ≤ _; omega) hck hsk hd (fun q cA H1 hK1 hP1 hD1 hS1 => ?_)
  have e9 : cA = gZ G := by
    have r1 : s.vm.findClass ("[" ++ FieldType.boolean.toString) = some cA := (hK1.2 4 (cA, .boolean) rfl).2
    have r2 : s.vm.findClass ("[" ++ FieldType.boolean.toString) = some (gZ G) := (hG.1.2 1 (gZ G, .boolean) rfl).2
    exact Option.some.inj (r1.symm.trans r2)
  subst e9
  rw [wdN_push] at hP1 hD1
  exact k1 q p e s m args below meth c C H1 locs ls hP1 hD1 hS1 hl
theorem M_newqS {idx N : Nat} (hd : decode μ.2.1 pc = .ok (.anewarray idx, 3)) (hw : Cond.classLink μ.1.cls idx "CaseWheel$State" ∈ XW) (hN : N ≤ 2000) (hck : ck + 1 ≤ rc) (hsk : sk + N ≤ rs) (k1 : ∀ q, MR G b μ rc rs (pc + 3) lv (.ref q :: st) (va_up ad n q) (n + 1) (va_up hh n (eS G N (fun _ => none))) (ck + 1) (sk + N) Q) : MR G b μ rc rs pc lv (.int (nI N) :: st) ad n hh ck sk Q := fun p e s m args below meth c C H locs ls hP hD hS hl => by
  obtain ⟨hx, hb, hr, hml, hown, hlocks, hts, hG, hnm2⟩ := id C
  refine va_newq hx hb hown (hts _ (List.mem_cons_of_mem _ hw)) hG.2.2.2.2.2.2.2.1 hG.1 hP hD hS (fun q h => Nat.le_trans hG.2.2.2.2.2.2.2.2.2 h) (fun h => absurd ((nI_ltI (b := 0) (by omega) (by decide)).mp h) (by omega)) (nI_clamp (by omega)) (by omega) hck hsk hd (fun q cA H1 hK1 hP1 hD1 hS1 => ?_)
  have e9 : cA = gS G := by
    obtain ⟨_, _, _, _, _, r1⟩ := (hK1.2 4 (cA, .object "CaseWheel$State") rfl).2
    obtain ⟨_, _, _, _, _, r2⟩ := (hG.1.2 2 (gS G, .object "CaseWheel$State") rfl).2
    exact Option.some.inj (r1.symm.trans r2)
  subst e9
  rw [wdN_push] at hP1 hD1
  exact k1 q p e s m args below meth c C H1 locs ls hP1 hD1 hS1 hl
theorem M_newqL {idx N : Nat} (hd : decode μ.2.1 pc = .ok (.anewarray idx, 3)) (hw : Cond.classLink μ.1.cls idx "CaseWheel$Letters" ∈ XW) (hN : N ≤ 2000) (hck : ck + 1 ≤ rc) (hsk : sk + N ≤ rs) (k1 : ∀ q, MR G b μ rc rs (pc + 3) lv (.ref q :: st) (va_up ad n q) (n + 1) (va_up hh n (eL G N (fun _ => none))) (ck + 1) (sk + N) Q) : MR G b μ rc rs pc lv (.int (nI N) :: st) ad n hh ck sk Q := fun p e s m args below meth c C H locs ls hP hD hS hl => by
  obtain ⟨hx, hb, hr, hml, hown, hlocks, hts, hG, hnm2⟩ := id C
  refine va_newq hx hb hown (hts _ (List.mem_cons_of_mem _ hw)) hG.2.2.2.2.2.2.2.2.1 hG.1 hP hD hS (fun q h => Nat.le_trans hG.2.2.2.2.2.2.2.2.2 h) (fun h => absurd ((nI_ltI (b := 0) (by omega) (by decide)).mp h) (by omega)) (nI_clamp (by omega)) (by omega) hck hsk hd (fun q cA H1 hK1 hP1 hD1 hS1 => ?_)
  have e9 : cA = gL G := by
    obtain ⟨_, _, _, _, _, r1⟩ := (hK1.2 4 (cA, .object "CaseWheel$Letters") rfl).2
    obtain ⟨_, _, _, _, _, r2⟩ := (hG.1.2 3 (gL G, .object "CaseWheel$Letters") rfl).2
    exact Option.some.inj (r1.symm.trans r2)
  subst e9
  rw [wdN_push] at hP1 hD1
  exact k1 q p e s m args below meth c C H1 locs ls hP1 hD1 hS1 hl
/-- a class of the world that own's entry idx makes, its fields then -/
def nwOK (own : String) (idx ci N : Nat) (fs : List Value) : Prop := ∃ q : vw_C, clsX[ci]? = some q ∧ q.2.2 = N ∧ (∀ w ∈ u_ws q.1 q.2.1 q.2.2, w ∈ XW) ∧ Cond.classLink own idx q.1 ∈ XW ∧ Cond.instantiable q.1 q.2.2 ∈ XW ∧ Cond.initialized q.1 ∈ XW ∧ ∃ ty : Nat → FieldType, (∀ k, k < q.2.2 → parseFieldDescriptor (q.2.1 k).2.2.1 = some (ty k)) ∧ ∀ j, j < q.2.2 → defaultValue (ty j) = vp_V fs j
theorem M_new {idx ci N : Nat} {fs : List Value} (hd : decode μ.2.1 pc = .ok (.new idx, 3)) (hw : nwOK μ.1.cls idx ci N fs) (hck : ck + 1 ≤ rc) (hsk : sk + N ≤ rs) (k1 : ∀ q, MR G b μ rc rs (pc + 3) lv (.ref q :: st) (va_up ad n q) (n + 1) (va_up hh n (.inr (ci, fs))) (ck + 1) (sk + N) Q) : MR G b μ rc rs pc lv st ad n hh ck sk Q := fun p e s m args below meth c C H locs ls hP hD hS hl => by
  obtain ⟨⟨Cn, T, N0⟩, hc, hN, hin, w1, w2, w3, ty, hty, hfs⟩ := hw
  obtain ⟨hx, hb, hr, hml, hown, hlocks, hts, hG, hnm2⟩ := id C
  have hN : N0 = N := hN
  subst hN
  have t : ∀ w ∈ XW, w.before args s = true := fun w h => hts w (List.mem_cons_of_mem _ h)
  refine va_new (Ts := mcd μ :: XW) (ci := ci) (fs := fs) (C := Cn) (T := T) (N := N0) hx hb hts (fun w h => List.mem_cons_of_mem _ (hin w h)) ty hty hown (t _ w1) (t _ w2) (t _ w3) hG.1 hP hD hS (fun q h => Nat.le_trans hG.2.2.2.2.2.2.2.2.2 h) hc hfs hck hsk hd (fun q H1 hP1 hD1 hS1 => ?_)
  rw [wdN_push] at hP1 hD1
  exact k1 q p e s m args below meth c C H1 locs ls hP1 hD1 hS1 hl
theorem M_objInit {idx a : Nat} (hd : decode μ.2.1 pc = .ok (.invokespecial idx, 3)) (w1 : Cond.methodLink μ.1.cls idx Lib.objectInit ∈ XW) (w2 : Cond.instanceMethod Lib.objectInit ∈ XW) (w3 : Cond.code Lib.objectInit ⟨#[0xb1]⟩ 1 none ∈ XW) (hh0 : 1 ≤ μ.2.2.2.2) (hcat : (st.map fun v => v.category).sum ≤ 8) (k : MR G b μ rc rs (pc + 3) lv st ad n hh ck sk Q) : MR G b μ rc rs pc lv (.ref a :: st) ad n hh ck sk Q := fun p e s m args below meth c C H locs ls hP hD hS hl => by
  obtain ⟨hx, hb, hr, hml, hown, hlocks, hts, hG, hnm2⟩ := id C
  have t : ∀ w ∈ XW, w.before args s = true := fun w h => hts w (List.mem_cons_of_mem _ h)
  refine W.objInit hx hb hown (t _ w1) (t _ w2) (t _ w3) (g := F0 m pc ls (.ref a :: st)) rfl (by rw [hml]; exact hl.1) rfl hd hh0 (by show 2 * 0 + _ + 12 ≤ 40 * μ.2.2.2.2; omega) ?_
  exact k p e s m args below meth c C H locs ls hP hD hS hl
theorem M_mmax {idx : Nat} {x y : Int32} (hd : decode μ.2.1 pc = .ok (.invokestatic idx, 3)) (w1 : Cond.methodLink μ.1.cls idx Lib.Math.max.name ∈ XW) (w2 : Cond.static Lib.Math.max.name ∈ XW) (w3 : Cond.initialized "java/lang/Math" ∈ XW) (w4 : Cond.code Lib.Math.max.name Lib.Math.max.code 2 (some .int) ∈ XW) (hh0 : 1 ≤ μ.2.2.2.2) (hcat : (st.map fun v => v.category).sum ≤ 8) (hck : ck ≤ rc ∧ sk ≤ rs) (k : MR G b μ rc rs (pc + 3) lv (.int (if x < y then y else x) :: st) ad n hh ck sk Q) : MR G b μ rc rs pc lv (.int y :: .int x :: st) ad n hh ck sk Q := fun p e s m args below meth c C H locs ls hP hD hS hl => by
  obtain ⟨hx, hb, hr, hml, hown, hlocks, hts, hG, hnm2⟩ := id C
  have t : ∀ w ∈ XW, w.before args s = true := fun w h => hts w (List.mem_cons_of_mem _ h)
  exact va_mmax hx hb (hml.trans hl.1.symm) hown (t _ w1) (t _ w2) (t _ w3) (t _ w4) hh0 (by show _ + 13 ≤ 40 * μ.2.2.2.2; omega) hck.1 hck.2 hd (k p e s m args below meth c C H locs ls hP hD hS hl)
theorem M_vret (hd : decode μ.2.1 pc = .ok (.return_, 1)) (hr : μ.2.2.2.1 = none) (h : Q ad n hh) : MR G b μ rc rs pc lv [] ad n hh rc rs Q := fun p e s m args below meth c C H locs ls hP hD hS hl => by
  exact W.vret C.1 C.2.1 (C.2.2.1.trans hr) (fun t ht hW => ⟨⟨_, _, _, rfl, h, by rw [ht]; exact hP, hD⟩, hS.F ht⟩) hS.2.2 hd C.2.2.2.2.2.1
theorem nq_call {p : Program} {l : Launch} {e : Env} {R : Room} {s : State} {m : MethodId} {args : Array Value} {below : List Frame} {meth : Method} {c : Code} {H : Heap} {locs : List Loc} {Qw : State → Prop} {ls : Array Slot} {st0 rest : List Value} {a : Array Value} {mc ms : Nat} {Q1 : QN} (hr : va_Run p l e R s m args below meth c H locs ck sk mc ms (F0 m pc ls st0) rest (QM G b Q1 a) (abA b)) (hS : va_S (abA b) s.heap H locs)
    (kk : ∀ (ad : Nat → Nat) (n : Nat) (hh : HH) (H1 : Heap) (locs1 : List Loc), Q1 ad n hh → va_P (gD G) clsX (wdN ad n hh) H1 → va_D (abA b) (wdN ad n hh) → va_S (abA b) s.heap H1 locs1 → W p l e R s m args below meth c H1 locs1 (ck + mc) (sk + ms) Qw (F0 m (pc + 3) ls rest)) : W p l e R s m args below meth c H locs ck sk Qw (F0 m pc ls st0) := by
  intro T hT X
  obtain ⟨v, st₀, t, T', L, h0, X', hL, e1, e2, ⟨⟨ad1, n1, hh1, hv, hq, hp, hd⟩, hz, hk⟩, st⟩ := hr T hT X
  cases hv
  rw [h0] at hz hk
  obtain ⟨t2, a1, b1⟩ := kk ad1 n1 hh1 T'.heap (locs ++ L) hq (by rw [e1]; exact hp) hd
    ⟨Nat.le_trans hS.1 (by rw [e1]; exact hz), fun q h1 h2 => by rw [e1, hk q (Nat.lt_of_lt_of_le h1 hS.1) h2]; exact hS.2.1 q h1 h2, fun q hq => by
      rcases List.mem_append.mp hq with h | h
      · exact hS.2.2 q h
      · exact hL q h⟩ T' rfl X'
  exact ⟨t2, st t2 a1, b1⟩
/-- an own entry idx names the constructor of μ', na arguments -/
def ciOK (own : String) (μ' : MI) (idx na : Nat) : Prop := Cond.methodLink own idx μ'.1 ∈ XW ∧ Cond.instanceMethod μ'.1 ∈ XW ∧ Cond.initialized μ'.1.cls ∈ XW ∧ mcd μ' ∈ XW ∧ μ'.1.name = "<init>" ∧ ckOK μ'.1 na ∧ μ'.2.2.2.1 = none
def cjOK (own : String) (μ' : MI) (idx na : Nat) : Prop := Cond.methodLinkNest own idx μ'.1 "CaseWheel" ∈ nestI ∧ Cond.instanceMethod μ'.1 ∈ XW ∧ Cond.initialized μ'.1.cls ∈ XW ∧ mcd μ' ∈ XW ∧ μ'.1.name = "<init>" ∧ ckOK μ'.1 na ∧ μ'.2.2.2.1 = none
theorem M_callI {μ' : MI} {idx na a rc' rs' : Nat} {As rest st0 : List Value} {Q1 : QN} (hd : decode μ.2.1 pc = .ok (.invokespecial idx, 3)) (hw : ciOK μ.1.cls μ' idx na) (hrm : rmOK μ μ') (hE : EN G b μ' (.ref a :: As) ad n hh rc' rs' Q1) (hn : As.length = na) (hst : st0 = As.reverse ++ .ref a :: rest) (hcat : (rest.map fun v => v.category).sum ≤ 8) (hck : ck + rc' ≤ rc ∧ sk + rs' ≤ rs) (k1 : ∀ ad1 n1 hh1, Q1 ad1 n1 hh1 → MR G b μ rc rs (pc + 3) lv rest ad1 n1 hh1 (ck + rc') (sk + rs') Q) : MR G b μ rc rs pc lv st0 ad n hh ck sk Q := fun p e s m args below meth c C H locs ls hP hD hS hl => by
  subst hst
  obtain ⟨hx, hb, hr, hml, hown, hlocks, hts, hG, hnm2⟩ := id C
  obtain ⟨w1, w2, w3, w4, w5, w6, w7⟩ := hw
  have t : ∀ w ∈ XW, w.before args s = true := fun w h => hts w (List.mem_cons_of_mem _ h)
  refine nq_call (va_runI (bytes := μ'.2.1) (maxL := μ'.2.2.1) (As := As) (rest := rest) ⟨hx, hb, hml, hown, hts⟩ hE (cwI na hts (XW_good w4) (by show mcd μ' :: XW = _; unfold mcd; rw [w7]) rfl rfl (t _ w3) (t _ w1) (t _ w2) w5 w6 hrm.use) ⟨PM.blind, (fun U hU hW => ⟨rfl, by rw [hU]; exact hP, hD, hG.warm hU hW hS⟩)⟩ rfl hn hl.1 rfl (lv_room hcat) hd hck) hS (fun ad1 n1 hh1 H1 locs1 hq hP1 hD1 hS1 => k1 ad1 n1 hh1 hq p e s m args below meth c C H1 locs1 ls hP1 hD1 hS1 hl)
theorem M_callJ {μ' : MI} {idx na a rc' rs' : Nat} {As rest st0 : List Value} {Q1 : QN} (hd : decode μ.2.1 pc = .ok (.invokespecial idx, 3)) (hw : cjOK μ.1.cls μ' idx na) (hrm : rmOK μ μ') (hE : EN G b μ' (.ref a :: As) ad n hh rc' rs' Q1) (hn : As.length = na) (hst : st0 = As.reverse ++ .ref a :: rest) (hcat : (rest.map fun v => v.category).sum ≤ 8) (hck : ck + rc' ≤ rc ∧ sk + rs' ≤ rs) (k1 : ∀ ad1 n1 hh1, Q1 ad1 n1 hh1 → MR G b μ rc rs (pc + 3) lv rest ad1 n1 hh1 (ck + rc') (sk + rs') Q) : MR G b μ rc rs pc lv st0 ad n hh ck sk Q := fun p e s m args below meth c C H locs ls hP hD hS hl => by
  subst hst
  obtain ⟨hx, hb, hr, hml, hown, hlocks, hts, hG, hnm2⟩ := id C
  obtain ⟨w1, w2, w3, w4, w5, w6, w7⟩ := hw
  have t : ∀ w ∈ XW, w.before args s = true := fun w h => hts w (List.mem_cons_of_mem _ h)
  refine nq_call (va_runIN (bytes := μ'.2.1) (maxL := μ'.2.2.1) (As := As) (rest := rest) ⟨hx, hb, hml, hown, hts⟩ hE ⟨va_cnB na hts (XW_good w4) (by show mcd μ' :: XW = _; unfold mcd; rw [w7]) rfl rfl (hG.2.2.2.2.2.2.1 _ w1) (t _ w3) w6 hrm.use, w5, t _ w2⟩ ⟨PM.blind, (fun U hU hW => ⟨rfl, by rw [hU]; exact hP, hD, hG.warm hU hW hS⟩)⟩ rfl hn hl.1 rfl (lv_room hcat) hd hck) hS (fun ad1 n1 hh1 H1 locs1 hq hP1 hD1 hS1 => k1 ad1 n1 hh1 hq p e s m args below meth c C H1 locs1 ls hP1 hD1 hS1 hl)
theorem GFm.GF {G : GG} {b : Nat} {U : State} (h : GFm G b U) {ad : Nat → Nat} {n : Nat} {hh : HH} (hD : va_D (abA b) (wdN ad n hh)) : GF (gy G ad n) U := by
  obtain ⟨h1, h3, h4, h5, h6, h7, -⟩ := h
  have hAB : ∀ q, gA (gy G ad n) q → abA b q := fun q ⟨i, hi, e9⟩ => by
    rw [e9]; exact hD.2 i _ (wdN_get hi)
  exact ⟨h1, fun i j hi hj e9 => hD.1 i j _ _ (wdN_get hi) (wdN_get hj) e9, h3, h4, h5.narrow hAB, h6.narrow hAB, h7.narrow hAB⟩
/-- a call of a method that makes no cell -/
theorem M_callV {μ' : MI} {idx na ci k a : Nat} {fs As rest st0 : List Value} {P : HH → Prop} (hd : decode μ.2.1 pc = .ok (.invokevirtual idx, 3)) (hw : cvOK μ.1.cls μ' idx na) (hrm : rmOK μ μ') (hE : EVv (gy G ad n) μ' (.ref a :: As) hh P) (ha : nAt ad n hh k a (.inr (ci, fs))) (hc : (clsX[ci]?).map (fun q => q.1) = some μ'.1.cls) (hn : As.length = na) (hst : st0 = As.reverse ++ .ref a :: rest) (hcat : (rest.map fun v => v.category).sum ≤ 8) (hck : ck ≤ rc ∧ sk ≤ rs) (k1 : ∀ h, P h → MR G b μ rc rs (pc + 3) lv rest ad n h ck sk Q) : MR G b μ rc rs pc lv st0 ad n hh ck sk Q := fun p e s m args below meth c C H locs ls hP hD hS hl => by
  subst hst
  obtain ⟨hx, hb, hr, hml, hown, hlocks, hts, hG, hnm2⟩ := id C
  obtain ⟨w1, w2, w3, w4, w5, w6⟩ := hw
  obtain ⟨q, hq, hq1⟩ := Option.map_eq_some_iff.mp hc
  have hT : GoodIn (mcd μ :: XW) (wsV μ.1.cls idx μ'.1.cls μ'.1 (mcd μ' :: XW)) := by
    intro w h
    rcases List.mem_append.mp h with h | h
    · simp only [List.mem_cons, List.not_mem_nil, or_false] at h
      rcases h with rfl | rfl | rfl | rfl
      · exact XW_w w1
      · exact XW_w w2
      · exact XW_w w3
      · exact XW_w w4
    · exact XW_good w5 w h
  have hrecv := va_recv hG.1 hP hq ha.get
  rw [hq1] at hrecv
  have hAB : ∀ q, gA (gy G ad n) q → abA b q := fun q ⟨i, hi, e9⟩ => by
    rw [e9]; exact hD.2 i _ (wdN_get hi)
  have hrun := va_runV (C := μ'.1.cls) (bytes := μ'.2.1) (maxL := μ'.2.2.1) (ret := μ'.2.2.2.1) (R := rmM μ.2.2.2.2 rc rs) (below := below) (meth := meth) (cells := ck) (slots := sk) (locs := locs) (As := As) (rest := rest) (g := F0 m pc ls (As.reverse ++ .ref a :: rest)) (e := e) ⟨hx, hb, hml, hown, hts⟩ hE (cwV na hts hT rfl rfl rfl ⟨rfl, w6⟩ hrm.use) ⟨PV.blind, hrecv, (fun U hU hW => ⟨rfl, by rw [hU]; exact hP, (hG.warm hU hW hS).GF hD⟩)⟩ rfl hn hl.1 rfl (lv_room hcat) hd hck
  intro T hT2 X
  obtain ⟨v, st₀, t, T', L, h0, X', hL, e1, e2, ⟨⟨r1, hh1, hv, hq, hp⟩, hz, hk⟩, st⟩ := hrun T hT2 X
  cases hv
  obtain ⟨rfl, hq⟩ := hq
  rw [h0] at hz hk
  obtain ⟨t2, a1, b1⟩ := k1 hh1 hq p e s m args below meth c C T'.heap (locs ++ L) ls (by rw [e1]; exact hp) (wdN_D hD)
    ⟨Nat.le_trans hS.1 (by rw [e1]; exact hz), fun q h1 h2 => by rw [e1, hk q (Nat.lt_of_lt_of_le h1 hS.1) (fun h => h2 (hAB q h))]; exact hS.2.1 q h1 h2, fun q hq => by
      rcases List.mem_append.mp hq with h | h
      · exact hS.2.2 q h
      · exact hAB _ (hL q h)⟩ hl T' rfl X'
  exact ⟨t2, st t2 a1, b1⟩
end MakeRules
