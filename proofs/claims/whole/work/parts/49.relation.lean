/-! THE RELATION: what the class's cells and the reference's cells have to do with each other between two calls -/
theorem hAt.rg {G : GG} {hh hh' : HH} {k : Nat} {e : va_E} (h : hAt G hh k e) (hr : hh' k = hh k) : hAt G hh' k e := ⟨h.1, hr.trans h.2⟩
theorem LeAt.rg {G : GG} {hh hh' : HH} {k n : Nat} {f : Nat → Int32} {len : Int32} (h : LeAt G hh k n f len) (hr : ∀ i, k ≤ i → i < k + 2 → hh' i = hh i) : LeAt G hh' k n f len := ⟨h.1.rg (hr _ (by omega) (by omega)), h.2.rg (hr _ (by omega) (by omega))⟩
theorem StAt.rg {G : GG} {hh hh' : HH} {k : Nat} {a : AA} {v : VV} (h : StAt G hh k a v) (hr : ∀ i, k ≤ i → i < k + 9 → hh' i = hh i) : StAt G hh' k a v := ⟨h.1.rg (hr _ (by omega) (by omega)), h.a0.rg (hr _ (by omega) (by omega)), h.a1.rg (hr _ (by omega) (by omega)), h.a2.rg (hr _ (by omega) (by omega)), h.a3.rg (hr _ (by omega) (by omega)), h.a4.rg (hr _ (by omega) (by omega)), h.a5.rg (hr _ (by omega) (by omega)), h.a6.rg (hr _ (by omega) (by omega)), h.a7.rg (hr _ (by omega) (by omega))⟩
theorem MdAt.rg {G : GG} {hh hh' : HH} {k : Nat} {a : AA} {v : VV} (h : MdAt G hh k a v) (hr : ∀ i, k ≤ i → i < k + 11 → hh' i = hh i) : MdAt G hh' k a v := ⟨h.1.rg (hr _ (by omega) (by omega)), h.a0.rg (hr _ (by omega) (by omega)), h.a3.rg (hr _ (by omega) (by omega)), h.a4.rg (hr _ (by omega) (by omega)), h.a6.rg (hr _ (by omega) (by omega)), h.a7.rg (hr _ (by omega) (by omega)), h.a9.rg (hr _ (by omega) (by omega)), h.a10.rg (hr _ (by omega) (by omega)), h.a16.rg (hr _ (by omega) (by omega)), h.a17.rg (hr _ (by omega) (by omega)), h.a18.rg (hr _ (by omega) (by omega))⟩
theorem FrS.e1 {p q : Nat} {h1 h2 : HH} (h : FrS [(p, q)] h1 h2) (i : Nat) (c : i < p ∨ q ≤ i) : h2 i = h1 i := h i (fun x hx => by simp only [List.mem_cons, List.not_mem_nil, or_false] at hx; subst hx; exact c)
theorem FrS.e2 {p q r s : Nat} {h1 h2 : HH} (h : FrS [(p, q), (r, s)] h1 h2) (i : Nat) (c : (i < p ∨ q ≤ i) ∧ (i < r ∨ s ≤ i)) : h2 i = h1 i := h i (fun x hx => by
  simp only [List.mem_cons, List.not_mem_nil, or_false] at hx
  rcases hx with rfl | rfl
  · exact c.1
  · exact c.2)
theorem FrS.e4 {p q r s t u w x : Nat} {h1 h2 : HH} (h : FrS [(p, q), (r, s), (t, u), (w, x)] h1 h2) (i : Nat) (c : (i < p ∨ q ≤ i) ∧ (i < r ∨ s ≤ i) ∧ (i < t ∨ u ≤ i) ∧ (i < w ∨ x ≤ i)) : h2 i = h1 i := h i (fun y hy => by
  simp only [List.mem_cons, List.not_mem_nil, or_false] at hy
  rcases hy with rfl | rfl | rfl | rfl
  · exact c.1
  · exact c.2.1
  · exact c.2.2.1
  · exact c.2.2.2)
/-- a state of the class beside the reference's part of its row from B on -/
def SR (n m : Nat) (a : AA) (v : VV) (am : AA) (vm : VV) (B : Nat) : Prop := agS n m a v (mA am B) (mV am vm B) ∧ gd n m a v
theorem mA_cg {am am' : AA} {B B' : Nat} (h0 : ∀ i, i < 77 → am' 0 (B' + i) = am 0 (B + i)) (h3 : am' 3 = am 3) (h4 : am' 4 = am 4) : (∀ f j, f < 4 → j < 6 → mA am' B' f j = mA am B f j) ∧ ∀ f c, 4 ≤ f → f < 7 → c < 20 → mA am' B' f c = mA am B f c := by
  constructor
  · intro f j hf hj
    rcases (show f = 0 ∨ f = 1 ∨ f = 2 ∨ f = 3 by omega) with rfl | rfl | rfl | rfl
    · exact congrFun h3 j
    · exact congrFun h4 j
    · show am' 0 (B' + 5 + j) = am 0 (B + 5 + j)
      have := h0 (5 + j) (by omega)
      rw [← Nat.add_assoc, ← Nat.add_assoc] at this
      exact this
    · show am' 0 (B' + 11 + j) = am 0 (B + 11 + j)
      have := h0 (11 + j) (by omega)
      rw [← Nat.add_assoc, ← Nat.add_assoc] at this
      exact this
  · intro f j h4' hf hj
    rcases (show f = 4 ∨ f = 5 ∨ f = 6 by omega) with rfl | rfl | rfl
    · show am' 0 (B' + 17 + j) = am 0 (B + 17 + j)
      have := h0 (17 + j) (by omega)
      rw [← Nat.add_assoc, ← Nat.add_assoc] at this
      exact this
    · show am' 0 (B' + 37 + j) = am 0 (B + 37 + j)
      have := h0 (37 + j) (by omega)
      rw [← Nat.add_assoc, ← Nat.add_assoc] at this
      exact this
    · show am' 0 (B' + 57 + j) = am 0 (B + 57 + j)
      have := h0 (57 + j) (by omega)
      rw [← Nat.add_assoc, ← Nat.add_assoc] at this
      exact this
theorem mV_cg {am am' : AA} {vm vm' : VV} {B B' : Nat} (h0 : ∀ i, i < 77 → am' 0 (B' + i) = am 0 (B + i)) (h1 : vm' 1 = vm 1) (h2 : vm' 2 = vm 2) : eqV (mV am' vm' B') (mV am vm B) := by
  intro i g1 g2
  rcases (show i = 8 ∨ i = 9 ∨ i = 10 ∨ i = 11 ∨ i = 12 ∨ i = 13 ∨ i = 14 by omega) with rfl | rfl | rfl | rfl | rfl | rfl | rfl
  · exact h1
  · exact h0 4 (by omega)
  · exact h2
  · exact h0 0 (by omega)
  · exact h0 1 (by omega)
  · exact h0 2 (by omega)
  · exact h0 3 (by omega)
theorem SR.cg {n m : Nat} {a : AA} {v : VV} {am am' : AA} {vm vm' : VV} {B B' : Nat} (h : SR n m a v am vm B) (h0 : ∀ i, i < 77 → am' 0 (B' + i) = am 0 (B + i)) (h3 : am' 3 = am 3) (h4 : am' 4 = am 4) (h1 : vm' 1 = vm 1) (h2 : vm' 2 = vm 2) : SR n m a v am' vm' B' := by
  obtain ⟨⟨g1, g2, g3⟩, g4⟩ := h
  have hn := g4.1.1
  have hm := g4.2.2.2.1
  obtain ⟨k1, k2⟩ := mA_cg h0 h3 h4
  exact ⟨⟨fun f j hf hj => (g1 f j hf hj).trans (k1 f j hf (by omega)).symm, fun f c hf1 hf hc => (g2 f c hf1 hf hc).trans (k2 f c hf1 hf (by omega)).symm, fun i a1 a2 => (g3 i a1 a2).trans (mV_cg h0 h1 h2 i a1 a2).symm⟩, g4⟩
theorem gd.ca {n m : Nat} {a a' : AA} {v v' : VV} (h : gd n m a v) (ha : ∀ f, f < 7 → a' f = a f) (hv : eqV v' v) : gd n m a' v' := by
  obtain ⟨g1, g2, g3, g4, g5⟩ := h
  refine ⟨g1.cg (fun j _ => congrFun (ha 0 (by omega)) j) (fun j _ => congrFun (ha 3 (by omega)) j) (hv 10 (by omega) (by omega)) (by rw [hv 12 (by omega) (by omega)]; exact g1.2.2.1), (hv 8 (by omega) (by omega)).trans g2, (hv 14 (by omega) (by omega)).trans g3, g4, fun c hc => ?_⟩
  rw [ha 6 (by omega)]; exact g5 c hc
theorem SR.ca {n m : Nat} {a a' : AA} {v v' : VV} {am : AA} {vm : VV} {B : Nat} (h : SR n m a v am vm B) (ha : ∀ f, f < 7 → a' f = a f) (hv : eqV v' v) : SR n m a' v' am vm B := by
  obtain ⟨⟨g1, g2, g3⟩, g4⟩ := h
  exact ⟨⟨fun f j hf hj => (congrFun (ha f (by omega)) j).trans (g1 f j hf hj), fun f c h1 h2 hc => (congrFun (ha f (by omega)) c).trans (g2 f c h1 h2 hc), fun i h1 h2 => (hv i h1 h2).trans (g3 i h1 h2)⟩, g4.ca ha hv⟩
theorem eqV.rf {v : VV} : eqV v v := fun _ _ _ => rfl
theorem up7 (a : AA) (g : Nat → Int32) : ∀ f, f < 7 → va_up a 7 g f = a f := fun f hf => if_neg (by omega)
/-- SR by a view: what the reference's row shows is (b, u), and so is the class's state -/
theorem SR.of {n m : Nat} {a b : AA} {v u : VV} {am : AA} {vm : VV} {B : Nat} (hg : gd n m a v) (h : agS n m a v b u) (hv : agS 6 20 (mA am B) (mV am vm B) b u) : SR n m a v am vm B := by
  have hn := hg.1.1
  have hm := hg.2.2.2.1
  exact ⟨⟨fun f j hf hj => (h.1 f j hf hj).trans (hv.1 f j hf (by omega)).symm, fun f c h1 h2 hc => (h.2.1 f c h1 h2 hc).trans (hv.2.1 f c h1 h2 (by omega)).symm, fun i h1 h2 => (h.2.2 i h1 h2).trans (hv.2.2 i h1 h2).symm⟩, hg⟩
def txR (tf : Nat → Int32) (tL : Nat) (am : AA) (vm : VV) : Prop := vm 8 = nI tL ∧ am 7 = tf
def slR (b : Nat → Bool) (lf : Nat → Nat → Int32) (lL : Nat → Nat) (am : AA) : Prop := (∀ t, t < 3 → am 9 t = szI (b t) (lL t)) ∧ ∀ t, t < 3 → b t = true → ∀ j, j < lL t → mL am t j = lf t j ∧ ¬ lf t j = 0
def wdR (am : AA) : Prop := ∀ j, j < 54 → am 17 j = wdA j
def tlR (n : Nat) (c : AA) (u : VV) (am : AA) (vm : VV) : Prop := Tl n c u (fun j => am 0 (847 + j)) (am 3) (am 4) (vm 1) (vm 2)
def hiR (n x z : Nat) (A : Nat → AA) (W : Nat → VV) (am : AA) (vm : VV) : Prop := vm 5 = nI z ∧ ∀ i, i < z → ∃ m, SR n m (A ((x + i) % 8)) (W ((x + i) % 8)) am vm (77 + 77 * i)
def keR (n : Nat) (kb : Nat → Bool) (A2 : Nat → AA) (W2 : Nat → VV) (am : AA) (vm : VV) : Prop := ∀ i, i < 2 → am 6 i = bl (kb i) ∧ (kb i = true → ∃ m, SR n m (A2 i) (W2 i) am vm (693 + 77 * i))
def Inv (G : GG) (hh : HH) : Prop := ∃ (tf : Nat → Int32) (tL : Nat) (lf : Nat → Nat → Int32) (lL : Nat → Nat) (b : Nat → Bool) (a1 : AA) (v1 : VV) (a : AA) (v : VV) (x z : Nat) (A : Nat → AA) (W : Nat → VV) (A2 : Nat → AA) (W2 : Nat → VV) (kb : Nat → Bool) (am : AA) (vm : VV) (n m : Nat),
  hAt G hh 0 (cwO G) ∧ LeAt G hh 1 200 tf (nI tL) ∧ tL ≤ 200 ∧ (∃ (df : Nat → Int32) (dL : Nat), LeAt G hh 3 130 df (nI dL) ∧ dL ≤ 130) ∧ hAt G hh 5 (eL G 3 (fun i => some (ad G (6 + 2 * i)))) ∧ (∀ i, i < 3 → LeAt G hh (6 + 2 * i) 40 (lf i) (nI (lL i))) ∧ (∀ i, i < 3 → lL i ≤ 40) ∧ hAt G hh 12 (eZ G 3 (fun i => bl (b i))) ∧ (∃ (rk re rc : Int32) (rs : Nat), RdAt G hh 13 1 rk (nI rs) re rc) ∧ StAt G hh 14 a1 v1 ∧ (∃ (a2 : AA) (v2 : VV), StAt G hh 23 a2 v2) ∧ StAt G hh 32 a v ∧ (∃ (a3 : AA) (v3 : VV), StAt G hh 41 a3 v3) ∧ HoAt G hh 50 (nI x) (nI z) ∧ x < 8 ∧ z ≤ 8 ∧ HrAt G hh 50 ∧ HsAt G hh 50 A W ∧ hAt G hh 124 (eS G 2 (fun i => some (ad G (125 + 9 * i)))) ∧ (∀ i, i < 2 → StAt G hh (125 + 9 * i) (A2 i) (W2 i)) ∧ hAt G hh 143 (eZ G 2 (fun i => bl (kb i))) ∧ MdAt G hh 144 am vm ∧
  txR tf tL am vm ∧ slR b lf lL am ∧ wdR am ∧ SR n m a v am vm 0 ∧ tlR n a1 v1 am vm ∧ hiR n x z A W am vm ∧ keR n kb A2 W2 am vm
/-- a call of both: the class's and the reference's answers are the same, and the relation stands again -/
def SS (G : GG) (μ1 μ2 : MI) (As : List Value) (hh : HH) : Prop := EVi G μ1 (.ref (ad G 0) :: As) hh (fun y h1 => (∃ fs, hAt G h1 144 (.inr (5, fs))) ∧ EVi G μ2 (.ref (ad G 144) :: As) h1 (fun y2 h2 => y2 = y ∧ Inv G h2))
theorem EVi.mono {G : GG} {μ : MI} {args : List Value} {hh : HH} {P P' : Int32 → HH → Prop} (h : EVi G μ args hh P) (hp : ∀ y h1, P y h1 → P' y h1) : EVi G μ args hh P' := EV.mono h (fun _ h1 ⟨v, e, q⟩ => ⟨v, e, hp v h1 q⟩)
theorem EVp.mono {G : GG} {μ : MI} {args : List Value} {hh : HH} {w : Int32} {P' : Int32 → HH → Prop} (h : EVp G μ args hh w) (hp : P' w hh) : EVi G μ args hh P' := EVi.mono h (fun _ _ ⟨e1, e2⟩ => by subst e1; subst e2; exact hp)
/-! the relation does not look at what the reference keeps only while it works -/
theorem hiR.cg {n x z : Nat} {A : Nat → AA} {W : Nat → VV} {am am' : AA} {vm vm' : VV} (h : hiR n x z A W am vm) (h0 : ∀ j, 77 ≤ j → j < 693 → am' 0 j = am 0 j) (h3 : am' 3 = am 3) (h4 : am' 4 = am 4) (h1 : vm' 1 = vm 1) (h2 : vm' 2 = vm 2) (h5 : vm' 5 = vm 5) (hz : z ≤ 8) : hiR n x z A W am' vm' := ⟨h5.trans h.1, fun i hi => by
  obtain ⟨m, hm⟩ := h.2 i hi
  exact ⟨m, hm.cg (fun j hj => h0 _ (by omega) (by omega)) h3 h4 h1 h2⟩⟩
theorem keR.cg {n : Nat} {kb : Nat → Bool} {A2 : Nat → AA} {W2 : Nat → VV} {am am' : AA} {vm vm' : VV} (h : keR n kb A2 W2 am vm) (h0 : ∀ j, 693 ≤ j → j < 847 → am' 0 j = am 0 j) (h3 : am' 3 = am 3) (h4 : am' 4 = am 4) (h1 : vm' 1 = vm 1) (h2 : vm' 2 = vm 2) (h6 : am' 6 = am 6) : keR n kb A2 W2 am' vm' := fun i hi => by
  obtain ⟨g1, g2⟩ := h i hi
  refine ⟨by rw [h6]; exact g1, fun hk => ?_⟩
  obtain ⟨m, hm⟩ := g2 hk
  exact ⟨m, hm.cg (fun j hj => h0 _ (by omega) (by omega)) h3 h4 h1 h2⟩
theorem tlR.cg {n : Nat} {c : AA} {u : VV} {am am' : AA} {vm vm' : VV} (h : tlR n c u am vm) (h0 : ∀ j, 847 ≤ j → j < 864 → am' 0 j = am 0 j) (h3 : am' 3 = am 3) (h4 : am' 4 = am 4) (h1 : vm' 1 = vm 1) (h2 : vm' 2 = vm 2) : tlR n c u am' vm' := by
  unfold tlR at h ⊢
  rw [h3, h4, h1, h2]
  exact Tl.cg h (fun j hj => h0 _ (by omega) (by omega))
theorem txR.cg {tf : Nat → Int32} {tL : Nat} {am am' : AA} {vm vm' : VV} (h : txR tf tL am vm) (h7 : am' 7 = am 7) (h8 : vm' 8 = vm 8) : txR tf tL am' vm' := ⟨h8.trans h.1, h7.trans h.2⟩
theorem slR.cg {b : Nat → Bool} {lf : Nat → Nat → Int32} {lL : Nat → Nat} {am am' : AA} (h : slR b lf lL am) (h9 : am' 9 = am 9) (h10 : am' 10 = am 10) : slR b lf lL am' := ⟨fun t ht => by rw [h9]; exact h.1 t ht, fun t ht hb j hj => by rw [show mL am' t j = mL am t j from congrFun h10 _]; exact h.2 t ht hb j hj⟩
theorem SR.n {n m : Nat} {a : AA} {v : VV} {am : AA} {vm : VV} {B : Nat} (h : SR n m a v am vm B) : n ≤ 6 ∧ v 8 = nI n ∧ v 14 = nI m ∧ m ≤ 20 ∧ vm 1 = nI n ∧ am 0 (B + 3) = nI m ∧ ruleOK (vm 2) := ⟨h.2.1.1, h.2.2.1, h.2.2.2.1, h.2.2.2.2.1, (h.1.2.2 8 (by omega) (by omega)).symm.trans h.2.2.1, (h.1.2.2 14 (by omega) (by omega)).symm.trans h.2.2.2.1, by rw [show vm 2 = v 10 from (h.1.2.2 10 (by omega) (by omega)).symm]; exact h.2.1.2.1⟩
