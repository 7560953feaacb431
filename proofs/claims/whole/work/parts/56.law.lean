/-! THE LAW: its own words, out of the skeleton; then a small logic for its loop -/
def R_law : String := "CaseWheelLaw"
def lw_P (b : Addr) (xs : List Int32) (args : Array Value) (s : State) : Prop := args = #[.ref b] ∧ s.IntsAt b xs ∧ xs.length ≤ 2560 ∧ (Jvm.Cond.and given_1 narrow_1).before args s = true
def lw_Q (_ : Array Value) (s : State) (o : Outcome) (t : State) : Prop := o = .returned (some (.int 1)) ∧ Framed s o t [] 600000 7302250
def lw_Z (below : List Frame) (a : Array Value) (s : State) : State → Prop := fun t => ∃ o, t.status = .running ∧ Ended t below o ∧ lw_Q a s o t
/-- the law's own end, with 1 on the stack, nothing written that was there before, its room as the claim has it -/
theorem lw_ret {p : Program} {l : Launch} {e : Env} {s : State} {m : MethodId} {below : List Frame} {meth : Method} {c : Code} {b : Nat} (hx : p.tables.exec = Jvm.exec) (hb : c.code = code) (hr : meth.sig.returnType = ret) (hlocks : meth.locks = false) {pc : Nat} {H : Heap} {ls : Array Slot} (hdg : decode code pc = .ok (.ireturn, 1)) : W p l e room_1 s m #[Value.ref b] below meth c H [] 600000 7302250 (lw_Z below #[Value.ref b] s) (F0 m pc ls [.int 1]) := by
  intro T hT X
  obtain ⟨fs, hret, hrun, hended, hW, hframe⟩ := X.leave (v := some (.int 1)) (hlocks := hlocks) (fun h => by rw [hr] at h; cases h)
  have hmeth' : T.vm.method? m = some meth := X.method'
  refine ⟨T.setFrames fs, ?_, .returned (some (.int 1)), hrun, hended, rfl, ⟨_, rfl⟩, hW, hframe⟩
  jvm_step X.here [X.here.top, hx, hb, hdg, hmeth', hr, ret, narrow_b1]
  (try refine ⟨rfl, ?_⟩); (try refine ⟨rfl, ?_⟩)
  first | (intro acts; rw [hret _ acts rfl rfl rfl]) | rw [hret _ _ rfl rfl rfl]
  exact Steps.refl _
/-- what holds at the law's entry: the machine, the code, the tables' words (any of lw_tbl by 'hts w (by decide +kernel)'), the script of L ints xs at the cell b, what the Statement gives of the start (any of its parts by flat_of_before) -/
def lw_At (p : Program) (s : State) (m : MethodId) (meth : Method) (c : Code) (b L : Nat) (xs : Nat → Int32) : Prop :=
  p.tables.exec = Jvm.exec ∧ c.code = code ∧ meth.sig.returnType = ret ∧ c.maxLocals = 4 ∧ s.vm.findClass R_law = some m.cls ∧ (∀ w ∈ lw_tbl, w.before #[Value.ref b] s = true) ∧ va_X b L xs s s.heap ∧ b < s.heap.size ∧ meth.locks = false ∧ (Jvm.Cond.and given_1 narrow_1).before #[Value.ref b] s = true
def LR (G : GG) (b L : Nat) (xs : Nat → Int32) (ck sk pc : Nat) (lv : List (Nat × Value)) (st : List Value) (hh : HH) : Prop :=
  ∀ (p : Program) (e : Env) (s : State) (m : MethodId) (below : List Frame) (meth : Method) (c : Code), lw_At p s m meth c b L xs → GF G s → (∀ i, i < gn G → s.heap.size ≤ ad G i) → ∀ (H : Heap) (locs : List Loc) (ls : Array Slot), va_P (gD G) clsX (wd G hh) H → va_S (gA G) s.heap H locs → lv_has ls 4 lv →
    W p (gl G) e room_1 s m #[Value.ref b] below meth c H locs ck sk (lw_Z below #[Value.ref b] s) (F0 m pc ls st)
theorem J_call {p : Program} {l : Launch} {e : Env} {R : Room} {s : State} {m : MethodId} {args : Array Value} {below : List Frame} {meth : Method} {c : Code} {H : Heap} {locs : List Loc} {Qw : State → Prop} {ls : Array Slot} {st0 rest : List Value} {a : Array Value} {Q1 : QQ} {G : GG} {ck sk pc : Nat} (hr : va_Run p l e R s m args below meth c H locs ck sk 0 0 (F0 m pc ls st0) rest (QV G Q1 a) (gA G)) (hS : va_S (gA G) s.heap H locs)
    (kk : ∀ (r1 : Option Value) (hh1 : HH) (H1 : Heap) (locs1 : List Loc), Q1 r1 hh1 → va_P (gD G) clsX (wd G hh1) H1 → va_S (gA G) s.heap H1 locs1 → W p l e R s m args below meth c H1 locs1 ck sk Qw (F0 m (pc + 3) ls (r1.toList ++ rest))) : W p l e R s m args below meth c H locs ck sk Qw (F0 m pc ls st0) := by
  intro T hT X
  obtain ⟨v, st₀, t, T', L, h0, X', hL, e1, e2, ⟨⟨r1, hh1, hv, hq, hp⟩, hz, hk⟩, st⟩ := hr T hT X
  cases hv
  rw [h0] at hz hk
  obtain ⟨t2, a1, b1⟩ := kk _ hh1 T'.heap (locs ++ L) hq (by rw [e1]; exact hp)
    ⟨Nat.le_trans hS.1 (by rw [e1]; exact hz), fun q h1 h2 => by rw [e1, hk q (Nat.lt_of_lt_of_le h1 hS.1) h2]; exact hS.2.1 q h1 h2, fun q hq => by
      rcases List.mem_append.mp hq with h | h
      · exact hS.2.2 q h
      · exact hL q h⟩ T' rfl X'
  exact ⟨t2, st t2 a1, b1⟩
section LawRules
variable {G : GG} {b L : Nat} {xs : Nat → Int32} {ck sk pc : Nat} {lv : List (Nat × Value)} {st : List Value} {hh : HH}
theorem LR.pick {lv' : List (Nat × Value)} (ks : List Nat) (h : lv_pick lv ks = lv') (k : LR G b L xs ck sk pc lv' st hh) : LR G b L xs ck sk pc lv st hh := fun p e s m below meth c C hG hA H locs ls hP hS hl => k p e s m below meth c C hG hA H locs ls hP hS (lv_sub hl ks h)
theorem LR.top {x y : Int32} (h : x = y) (k : LR G b L xs ck sk pc lv (.int y :: st) hh) : LR G b L xs ck sk pc lv (.int x :: st) hh := by subst h; exact k
theorem J_iconst {n : Int} {v : Int32} (hd : decode code pc = .ok (.iconst n, 1)) (hv : Int32.ofInt n = v) (k : LR G b L xs ck sk (pc + 1) lv (.int v :: st) hh) : LR G b L xs ck sk pc lv (st) hh := fun p e s m below meth c C hG hA H locs ls hP hS hl => lv_iconst C.1 C.2.1 hd hv (k p e s m below meth c C hG hA H locs ls hP hS hl)
theorem J_bipush {n : Int} {v : Int32} (hd : decode code pc = .ok (.bipush n, 2)) (hv : (Int8.ofInt n).toInt32 = v) (k : LR G b L xs ck sk (pc + 2) lv (.int v :: st) hh) : LR G b L xs ck sk pc lv (st) hh := fun p e s m below meth c C hG hA H locs ls hP hS hl => lv_bipush C.1 C.2.1 hd hv (k p e s m below meth c C hG hA H locs ls hP hS hl)
theorem J_iload_n {i : Fin 4} {x : Int32} (hd : decode code pc = .ok (.iload_n i, 1)) (hg : lvGet lv (i : Nat) = some (.int x)) (k : LR G b L xs ck sk (pc + 1) lv (.int x :: st) hh) : LR G b L xs ck sk pc lv (st) hh := fun p e s m below meth c C hG hA H locs ls hP hS hl => lv_iload_n C.1 C.2.1 hd rfl (lvGet_has hl hg) (k p e s m below meth c C hG hA H locs ls hP hS hl)
theorem J_aload_n {i : Fin 4} {x : Nat} (hd : decode code pc = .ok (.aload_n i, 1)) (hg : lvGet lv (i : Nat) = some (.ref x)) (k : LR G b L xs ck sk (pc + 1) lv (.ref x :: st) hh) : LR G b L xs ck sk pc lv (st) hh := fun p e s m below meth c C hG hA H locs ls hP hS hl => lv_aload_n C.1 C.2.1 hd rfl (lvGet_has hl hg) (k p e s m below meth c C hG hA H locs ls hP hS hl)
theorem J_iadd {x y : Int32} (hd : decode code pc = .ok (.iadd, 1)) (k : LR G b L xs ck sk (pc + 1) lv (.int (x + y) :: st) hh) : LR G b L xs ck sk pc lv (.int y :: .int x :: st) hh := fun p e s m below meth c C hG hA H locs ls hP hS hl => lv_iadd C.1 C.2.1 hd (k p e s m below meth c C hG hA H locs ls hP hS hl)
theorem J_isub {x y : Int32} (hd : decode code pc = .ok (.isub, 1)) (k : LR G b L xs ck sk (pc + 1) lv (.int (x - y) :: st) hh) : LR G b L xs ck sk pc lv (.int y :: .int x :: st) hh := fun p e s m below meth c C hG hA H locs ls hP hS hl => lv_isub C.1 C.2.1 hd (k p e s m below meth c C hG hA H locs ls hP hS hl)
theorem J_iand {x y : Int32} (hd : decode code pc = .ok (.iand, 1)) (k : LR G b L xs ck sk (pc + 1) lv (.int (x &&& y) :: st) hh) : LR G b L xs ck sk pc lv (.int y :: .int x :: st) hh := fun p e s m below meth c C hG hA H locs ls hP hS hl => lv_iand C.1 C.2.1 hd (k p e s m below meth c C hG hA H locs ls hP hS hl)
theorem J_istore_n {i : Fin 4} {x : Int32} (hd : decode code pc = .ok (.istore_n i, 1)) (hi : (i : Nat) < 4) (k : LR G b L xs ck sk (pc + 1) (lvPut lv (i : Nat) (.int x)) st hh) : LR G b L xs ck sk pc lv (.int x :: st) hh := fun p e s m below meth c C hG hA H locs ls hP hS hl => lv_istore_n C.1 C.2.1 hd rfl hl hi rfl (fun ls' hl' => k p e s m below meth c C hG hA H locs ls' hP hS hl')
theorem J_icmp_eq {x y : Int32} {off : Int} {tgt : Nat} (hd : decode code pc = .ok (.if_icmp .eq off, 3)) (ht : (pc : Int) + off = (tgt : Int)) (kt : x = y → LR G b L xs ck sk tgt lv st hh) (kf : ¬ (x = y) → LR G b L xs ck sk (pc + 3) lv st hh) : LR G b L xs ck sk pc lv (.int y :: .int x :: st) hh := fun p e s m below meth c C hG hA H locs ls hP hS hl => lv_icmp_eq C.1 C.2.1 hd ht (fun q => kt q p e s m below meth c C hG hA H locs ls hP hS hl) (fun q => kf q p e s m below meth c C hG hA H locs ls hP hS hl)
theorem J_icmp_gt {x y : Int32} {off : Int} {tgt : Nat} (hd : decode code pc = .ok (.if_icmp .gt off, 3)) (ht : (pc : Int) + off = (tgt : Int)) (kt : y < x → LR G b L xs ck sk tgt lv st hh) (kf : ¬ (y < x) → LR G b L xs ck sk (pc + 3) lv st hh) : LR G b L xs ck sk pc lv (.int y :: .int x :: st) hh := fun p e s m below meth c C hG hA H locs ls hP hS hl => lv_icmp_gt C.1 C.2.1 hd ht (fun q => kt q p e s m below meth c C hG hA H locs ls hP hS hl) (fun q => kf q p e s m below meth c C hG hA H locs ls hP hS hl)
theorem J_goto {off : Int} {tgt : Nat} (hd : decode code pc = .ok (.goto off, 3)) (ht : (pc : Int) + off = (tgt : Int)) (k : LR G b L xs ck sk tgt lv st hh) : LR G b L xs ck sk pc lv st hh := fun p e s m below meth c C hG hA H locs ls hP hS hl => lv_goto C.1 C.2.1 hd ht (k p e s m below meth c C hG hA H locs ls hP hS hl)
theorem J_tabOut {dflt lo hi : Int} {offs : Array Int} {len : Nat} {x : Int32} {tgt : Nat} (hd : decode code pc = .ok (.tableswitch dflt lo hi offs, len)) (h : x.toInt < lo ∨ hi < x.toInt) (ht : (pc : Int) + dflt = (tgt : Int)) (k : LR G b L xs ck sk tgt lv st hh) : LR G b L xs ck sk pc lv (.int x :: st) hh := fun p e s m below meth c C hG hA H locs ls hP hS hl => lv_tableOut C.1 C.2.1 hd h ht (k p e s m below meth c C hG hA H locs ls hP hS hl)
theorem J_tabIn {dflt lo hi : Int} {offs : Array Int} {len : Nat} {x : Int32} {off : Int} {tgt : Nat} (hd : decode code pc = .ok (.tableswitch dflt lo hi offs, len)) (h1 : ¬ x.toInt < lo) (h2 : ¬ hi < x.toInt) (ho : offs[(x.toInt - lo).toNat]? = some off) (ht : (pc : Int) + off = (tgt : Int)) (k : LR G b L xs ck sk tgt lv st hh) : LR G b L xs ck sk pc lv (.int x :: st) hh := fun p e s m below meth c C hG hA H locs ls hP hS hl => lv_tableIn C.1 C.2.1 hd h1 h2 ho ht (k p e s m below meth c C hG hA H locs ls hP hS hl)
theorem J_iinc {i : Nat} {n : Int} {x y : Int32} (hd : decode code pc = .ok (.iinc i n, 3)) (hg : lvGet lv i = some (.int x)) (hi : i < 4) (hy : x + Int32.ofInt n = y) (k : LR G b L xs ck sk (pc + 3) (lvPut lv i (.int y)) st hh) : LR G b L xs ck sk pc lv st hh := fun p e s m below meth c C hG hA H locs ls hP hS hl => by
  obtain ⟨j, hj⟩ := lvGet_mem hg
  exact lv_iinc C.1 C.2.1 hd hl hj hy hi rfl (fun ls' hl' => k p e s m below meth c C hG hA H locs ls' hP hS hl')
theorem J_slen (hd : decode code pc = .ok (.arraylength, 1)) (k : LR G b L xs ck sk (pc + 1) lv (.int (nI L) :: st) hh) : LR G b L xs ck sk pc lv (.ref b :: st) hh := fun p e s m below meth c C hG hA H locs ls hP hS hl =>
  va_slen C.1 C.2.1 C.2.2.2.2.2.2.1 C.2.2.2.2.2.2.2.1 (fun ⟨i, hi, e9⟩ => by have := hA i hi; have := C.2.2.2.2.2.2.2.1; omega) hS hd (k p e s m below meth c C hG hA H locs ls hP hS hl)
theorem J_sld {j : Nat} (hj : j < L) (hL : L < 2 ^ 31) (hd : decode code pc = .ok (.iaload, 1)) (k : LR G b L xs ck sk (pc + 1) lv (.int (xs j) :: st) hh) : LR G b L xs ck sk pc lv (.int (nI j) :: .ref b :: st) hh := fun p e s m below meth c C hG hA H locs ls hP hS hl =>
  va_sld C.1 C.2.1 C.2.2.2.2.2.2.1 C.2.2.2.2.2.2.2.1 (fun ⟨i, hi, e9⟩ => by have := hA i hi; have := C.2.2.2.2.2.2.2.1; omega) hS (vp_in_nI hj hL) hd (by rw [nI_clamp (by omega)]; exact k p e s m below meth c C hG hA H locs ls hP hS hl)
theorem J_callVi {μ' : MI} {idx n ci k : Nat} {fs As rest st0 : List Value} {P : Int32 → HH → Prop} (hd : decode code pc = .ok (.invokevirtual idx, 3)) (hw : cvOK RL μ' idx n) (hrm : (rmH μ'.2.2.2.2).frames + 1 ≤ room_1.frames ∧ 8 + (μ'.2.2.1 + 11) + (rmH μ'.2.2.2.2).locals ≤ room_1.locals) (hck : ck ≤ 600000 ∧ sk ≤ 7302250) (hE : EVi G μ' (.ref (ad G k) :: As) hh P) (ha : hAt G hh k (.inr (ci, fs))) (hc : (clsX[ci]?).map (fun q => q.1) = some μ'.1.cls) (hn : As.length = n) (hst : st0 = As.reverse ++ .ref (ad G k) :: rest) (hcat : (rest.map fun v => v.category).sum ≤ 8) (k1 : ∀ v h, P v h → LR G b L xs ck sk (pc + 3) lv (.int v :: rest) h) : LR G b L xs ck sk pc lv st0 hh := fun p e s m below meth c C hG hA H locs ls hP hS hl => by
  subst hst
  obtain ⟨hx, hb, hr, hml, hown, hts, hX, hbl, hlocks, hgv⟩ := id C
  obtain ⟨w1, w2, w3, w4, w5, w6⟩ := hw
  obtain ⟨q, hq, hq1⟩ := Option.map_eq_some_iff.mp hc
  have hg : ∀ w ∈ XW, w ∈ lw_tbl ∧ ((w.onTables && w.keeps) = true ∨ ∃ ty, w = .arrayClass ty) := fun w hw => ⟨(List.mem_filter.mp hw).1, good_of_word (List.mem_filter.mp hw).2⟩
  have hT : GoodIn lw_tbl (wsV RL idx μ'.1.cls μ'.1 (mcd μ' :: XW)) := by
    intro w h
    rcases List.mem_append.mp h with h | h
    · simp only [List.mem_cons, List.not_mem_nil, or_false] at h
      rcases h with rfl | rfl | rfl | rfl
      · exact hg _ w1
      · exact hg _ w2
      · exact hg _ w3
      · exact hg _ w4
    · rcases List.mem_cons.mp h with rfl | h
      · exact hg _ w5
      · exact hg _ h
  have hrecv := va_recv hG.1 hP hq ha.get
  rw [hq1] at hrecv
  refine J_call (va_runV (C := μ'.1.cls) (bytes := μ'.2.1) (maxL := μ'.2.2.1) (ret := μ'.2.2.2.1) (As := As) (rest := rest) (own := RL) ⟨hx, hb, hml, hown, hts⟩ hE (cwV n hts hT rfl rfl rfl ⟨rfl, w6⟩ hrm) ⟨PV.blind, hrecv, (fun U hU hW => ⟨rfl, by rw [hU]; exact hP, hG.warm hU hW hS⟩)⟩ rfl hn hl.1 rfl (lv_room hcat) hd hck) hS (fun r1 hh1 H1 locs1 hq hP1 hS1 => ?_)
  obtain ⟨v, rfl, hp⟩ := hq
  exact k1 v hh1 hp p e s m below meth c C hG hA H1 locs1 ls hP1 hS1 hl
theorem J_end (hcs : ck ≤ 600000) (hss : sk ≤ 7302250) (hd : decode code pc = .ok (.ireturn, 1)) : LR G b L xs ck sk pc lv [.int 1] hh := fun p e s m below meth c C hG hA H locs ls hP hS hl => by
  refine va_forget (fun q hq => ?_) (W.widen (k := 600000) (n := 7302250) hcs hss (lw_ret C.1 C.2.1 C.2.2.1 C.2.2.2.2.2.2.2.2.1 hd))
  obtain ⟨i, hi, e9⟩ := hS.2.2 q hq
  rw [e9]; exact hA i hi
end LawRules
