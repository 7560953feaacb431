/-! WHAT THE DRAWS REST ON: HARDP (proved at the end) gives HX of every state that a run of calls comes to -/
/-- the chain never falls to 0, and within 1000000 turns each remainder of each n ≤ 586 comes, by an accepted number -/
def HARDP : Prop := (∀ c : Int32, ¬ c = 0 → ¬ tw c = 0) ∧ ∀ (c : Int32) (n r : Nat), ¬ c = 0 → 1 ≤ n → n ≤ 586 → r < n → ∃ K, 1 ≤ K ∧ K ≤ 1000000 ∧ accI (nI n) (itT K c) ∧ rmI (halfI (itT K c)) (nI n) = nI r
theorem itT_ne0 (hd : HARDP) : ∀ (K : Nat) {c : Int32}, ¬ c = 0 → ¬ itT K c = 0
  | 0, _, h => h
  | K + 1, c, h => itT_ne0 hd K (hd.1 c h)
theorem i32_add {x y : Int32} (h1 : -1000000 ≤ x.toInt) (h2 : x.toInt ≤ 1000000) (h3 : -1000000 ≤ y.toInt) (h4 : y.toInt ≤ 1000000) : (x + y).toInt = x.toInt + y.toInt := by
  rw [Int32.toInt_add]
  exact Int.bmod_eq_of_le_mul_two (by omega) (by omega)
theorem i32_sub {x y : Int32} (h1 : -1000000 ≤ x.toInt) (h2 : x.toInt ≤ 1000000) (h3 : -1000000 ≤ y.toInt) (h4 : y.toInt ≤ 1000000) : (x - y).toInt = x.toInt - y.toInt := by
  rw [Int32.toInt_sub]
  exact Int.bmod_eq_of_le_mul_two (by omega) (by omega)
theorem i32_nat {x : Int32} {k : Nat} (h : x.toInt = (k : Int)) (hk : k < 2 ^ 31) : x = nI k := Int32.toInt_inj.mp (h.trans (nI_toInt hk).symm)
def sumN (g : Nat → Nat) : Nat → Nat → Nat
  | _, 0 => 0
  | i, d + 1 => g i + sumN g (i + 1) d
theorem foldS_nI {f : Nat → Int32} {g : Nat → Nat} : ∀ (d i s : Nat), (∀ j, i ≤ j → j < i + d → f j = nI (g j)) → foldS f i d (nI s) = nI (s + sumN g i d)
  | 0, _, _, _ => rfl
  | d + 1, i, s, h => by
    show foldS f (i + 1) d (nI s + f i) = nI (s + (g i + sumN g (i + 1) d))
    rw [h i (Nat.le_refl i) (by omega), nI_add, foldS_nI d (i + 1) (s + g i) (fun j h1 h2 => h j (by omega) (by omega)), Nat.add_assoc]
theorem sumN_last (g : Nat → Nat) : ∀ (d i : Nat), sumN g i (d + 1) = sumN g i d + g (i + d)
  | 0, i => by show g i + 0 = 0 + g i; omega
  | d + 1, i => by
    show g i + sumN g (i + 1) (d + 1) = (g i + sumN g (i + 1) d) + g (i + (d + 1))
    rw [sumN_last g d (i + 1), show i + 1 + d = i + (d + 1) by omega]
    omega
theorem sumN_mono (g : Nat → Nat) {d e : Nat} (h : d ≤ e) : sumN g 0 d ≤ sumN g 0 e := by
  induction e with
  | zero => rw [show d = 0 by omega]; exact Nat.le_refl _
  | succ e ih =>
    rcases Nat.eq_or_lt_of_le h with q | q
    · rw [q]; exact Nat.le_refl _
    · rw [sumN_last]; have := ih (by omega); omega
/-- what a state's judges keep to -/
def gdJ (n : Nat) (a : AA) (v : VV) : Prop := n ≤ 6 ∧ ruleOK (v 10) ∧ ¬ v 12 = 0 ∧ (∀ j, j < n → 1 ≤ (a 0 j).toInt ∧ (a 0 j).toInt ≤ 9 ∧ -99 ≤ (a 3 j).toInt ∧ (a 3 j).toInt ≤ 99) ∧ (n = 6 → (a 3 0).toInt + (a 3 1).toInt + (a 3 2).toInt + (a 3 3).toInt + (a 3 4).toInt + (a 3 5).toInt ≤ 396)
theorem wt_nat {n : Nat} {a : AA} {v : VV} (h : gdJ n a v) {j : Nat} (hj : j < n) (s : Int32) : ∃ w : Nat, wt a v j s = nI w ∧ (hasB (v 9) (nI j) = true → w = 0) ∧ (¬ hasB (v 9) (nI j) = true → 1 ≤ w) ∧ w ≤ 117 ∧ (v 10 &&& 2 = 0 → w ≤ 18) ∧ (¬ v 10 &&& 2 = 0 → w ≤ 1 ∨ (w : Int) ≤ 18 + (a 3 j).toInt) := by
  obtain ⟨hn, hr, hc, hs, -⟩ := h
  obtain ⟨s1, s2, s3, s4⟩ := hs j hj
  unfold wt
  by_cases q : hasB (v 9) (nI j) = true
  · rw [if_pos q]
    exact ⟨0, rfl, fun _ => rfl, fun z => absurd q z, by omega, fun _ => by omega, fun _ => Or.inl (by omega)⟩
  · rw [if_neg q]
    have e1 : ∃ x : Int32, x = (if ¬ (v 10 &&& 1 = 0) ∧ hasB (a 1 j) s = true then a 0 j + a 0 j else a 0 j) ∧ 1 ≤ x.toInt ∧ x.toInt ≤ 18 := by
      refine ⟨_, rfl, ?_⟩
      split
      · rw [i32_add (by omega) (by omega) (by omega) (by omega)]; omega
      · omega
    obtain ⟨x, ex, x1, x2⟩ := e1
    dsimp only
    rw [← ex]
    have e2 : ∃ y : Int32, y = (if ¬ (v 10 &&& 2 = 0) then x + a 3 j else x) ∧ -100 ≤ y.toInt ∧ y.toInt ≤ 117 ∧ (v 10 &&& 2 = 0 → y.toInt ≤ 18) ∧ (¬ v 10 &&& 2 = 0 → y.toInt ≤ 18 + (a 3 j).toInt) := by
      refine ⟨_, rfl, ?_⟩
      by_cases r : v 10 &&& 2 = 0
      · rw [if_neg (fun z => z r)]
        exact ⟨by omega, by omega, fun _ => by omega, fun z => absurd r z⟩
      · rw [if_pos r, i32_add (by omega) (by omega) (by omega) (by omega)]
        exact ⟨by omega, by omega, fun z => absurd z r, fun _ => by omega⟩
    obtain ⟨y, ey, y1, y2, y3, y4⟩ := e2
    rw [← ey]
    by_cases r : y < 1
    · rw [if_pos r]
      exact ⟨1, rfl, fun z => absurd z q, fun _ => by omega, by omega, fun _ => by omega, fun _ => Or.inl (by omega)⟩
    · rw [if_neg r]
      have r1 : (1 : Int) ≤ y.toInt := by
        have := Int32.not_lt.mp r
        rw [Int32.le_iff_toInt_le] at this
        exact this
      refine ⟨y.toInt.toNat, i32_nat (by omega) (by omega), fun z => absurd z q, fun _ => by omega, by omega, fun z => ?_, fun z => ?_⟩
      · have := y3 z; omega
      · have := y4 z; exact Or.inr (by omega)
theorem sumN_5 {g : Nat → Nat} {b : Nat} : ∀ (d i : Nat), (∀ j, i ≤ j → j < i + d → g j ≤ b) → sumN g i d ≤ d * b
  | 0, _, _ => by show 0 ≤ 0 * b; omega
  | d + 1, i, h => by
    show g i + sumN g (i + 1) d ≤ (d + 1) * b
    have h1 := h i (Nat.le_refl i) (by omega)
    have h2 := sumN_5 d (i + 1) (fun j a1 a2 => h j (by omega) (by omega))
    rw [Nat.succ_mul]
    omega
theorem tot_nat {n : Nat} {a : AA} {v : VV} (h : gdJ n a v) (s : Int32) : ∃ w : Nat → Nat, (∀ j, j < n → wt a v j s = nI (w j) ∧ (¬ hasB (v 9) (nI j) = true → 1 ≤ w j)) ∧ sumN w 0 n ≤ 586 := by
  have hw : ∀ j, ∃ w : Nat, j < n → wt a v j s = nI w ∧ (hasB (v 9) (nI j) = true → w = 0) ∧ (¬ hasB (v 9) (nI j) = true → 1 ≤ w) ∧ w ≤ 117 ∧ (v 10 &&& 2 = 0 → w ≤ 18) ∧ (¬ v 10 &&& 2 = 0 → w ≤ 1 ∨ (w : Int) ≤ 18 + (a 3 j).toInt) := fun j => by
    by_cases q : j < n
    · obtain ⟨w, hw⟩ := wt_nat h q s
      exact ⟨w, fun _ => hw⟩
    · exact ⟨0, fun z => absurd z q⟩
  obtain ⟨w, hw⟩ := Classical.axiomOfChoice hw
  refine ⟨w, fun j hj => ⟨(hw j hj).1, (hw j hj).2.2.1⟩, ?_⟩
  have h6 := h.1
  rcases Nat.lt_or_ge n 6 with q | q
  · have := sumN_5 (g := w) (b := 117) n 0 (fun j _ h2 => (hw j (by omega)).2.2.2.1)
    have h5 : n * 117 ≤ 5 * 117 := Nat.mul_le_mul_right 117 (by omega)
    omega
  · have e6 : n = 6 := by omega
    subst e6
    have hsum := h.2.2.2.2 rfl
    have g0 := hw 0 (by omega)
    have g1 := hw 1 (by omega)
    have g2 := hw 2 (by omega)
    have g3 := hw 3 (by omega)
    have g4 := hw 4 (by omega)
    have g5 := hw 5 (by omega)
    show w 0 + (w 1 + (w 2 + (w 3 + (w 4 + (w 5 + 0))))) ≤ 586
    by_cases r : v 10 &&& 2 = 0
    · have k0 := g0.2.2.2.2.1 r
      have k1 := g1.2.2.2.2.1 r
      have k2 := g2.2.2.2.2.1 r
      have k3 := g3.2.2.2.2.1 r
      have k4 := g4.2.2.2.2.1 r
      have k5 := g5.2.2.2.2.1 r
      omega
    · have k0 := g0.2.2.2.2.2 r
      have k1 := g1.2.2.2.2.2 r
      have k2 := g2.2.2.2.2.2 r
      have k3 := g3.2.2.2.2.2 r
      have k4 := g4.2.2.2.2.2 r
      have k5 := g5.2.2.2.2.2 r
      have m0 := g0.2.2.2.1
      have m1 := g1.2.2.2.1
      have m2 := g2.2.2.2.1
      have m3 := g3.2.2.2.1
      have m4 := g4.2.2.2.1
      have m5 := g5.2.2.2.1
      clear g0 g1 g2 g3 g4 g5 hw h
      omega
theorem any_free {a : AA} {v : VV} {p b : Int32} {n : Nat} (h : anyFor a v p b 0 n = true) : ∃ j, j < n ∧ ¬ nI j = b ∧ fre a v j p = true := by
  unfold anyFor at h
  rw [List.any_eq_true] at h
  obtain ⟨j, hj, h⟩ := h
  rw [List.mem_range'] at hj
  obtain ⟨i, hi, rfl⟩ := hj
  rw [Bool.and_eq_true] at h
  refine ⟨0 + 1 * i, by omega, fun e => ?_, h.2⟩
  have h1 := h.1
  rw [decide_eq_true e] at h1
  cases h1
theorem HX_of (hd : HARDP) {n : Nat} {a : AA} {v : VV} (h : gdJ n a v) (s p : Int32) {j : Nat} (hj : j < n) (hf : fre a v j p = true) : HX a v s p n := by
  obtain ⟨w, hw, hT⟩ := tot_nat h s
  have hna : ¬ hasB (v 9) (nI j) = true := fun q => by
    unfold fre at hf
    rw [q] at hf
    cases hf
  have hpre : ∀ d, d ≤ n → foldS (wtj a v s) 0 d 0 = nI (sumN w 0 d) := fun d hd' => by
    have := foldS_nI (f := wtj a v s) (g := w) d 0 0 (fun i _ h2 => (hw i (by omega)).1)
    rw [Nat.zero_add] at this
    exact this
  have hwj := (hw j hj).2 hna
  have hS1 : sumN w 0 (j + 1) = sumN w 0 j + w j := by
    have := sumN_last w j 0
    rw [Nat.zero_add] at this
    exact this
  have hle := sumN_mono w (d := j + 1) (e := n) (by omega)
  have eT : totW a v s n = nI (sumN w 0 n) := hpre n (Nat.le_refl n)
  obtain ⟨K, k1, k2, k3, k4⟩ := hd.2 (v 12) (sumN w 0 n) (sumN w 0 j) h.2.2.1 (by omega) hT (by omega)
  have hgood : goodI a v s p n (itT K (v 12)) := by
    refine ⟨by rw [eT]; exact k3, ?_⟩
    have ej : judOf a v s n (itT K (v 12)) = j := by
      unfold judOf
      rw [eT, k4]
      have hlt : nI (sumN w 0 j) < (fun i => foldS (wtj a v s) 0 (i + 1) 0) j := by
        show nI (sumN w 0 j) < foldS (wtj a v s) 0 (j + 1) 0
        rw [hpre (j + 1) (by omega)]
        exact (nI_ltI (by omega) (by omega)).mpr (by omega)
      have sp := reach_sp (g := fun i => foldS (wtj a v s) 0 (i + 1) 0) (x := nI (sumN w 0 j)) n 0 ⟨j, by omega, by omega, hlt⟩
      obtain ⟨-, p2, p3, p4⟩ := sp
      revert p2 p3 p4
      generalize reach (fun i => foldS (wtj a v s) 0 (i + 1) 0) (nI (sumN w 0 j)) 0 n = i
      intro p2 p3 p4
      rcases Nat.lt_trichotomy i j with q | q | q
      · have p3 : nI (sumN w 0 j) < foldS (wtj a v s) 0 (i + 1) 0 := p3
        rw [hpre (i + 1) (by omega)] at p3
        have m := sumN_mono w (d := i + 1) (e := j) (by omega)
        have m2 := sumN_mono w (d := j) (e := n) (by omega)
        exact absurd ((nI_ltI (by omega) (by omega)).mp p3) (by omega)
      · exact q
      · exact absurd hlt (p4 j (by omega) q)
    rw [ej]; exact hf
  refine ⟨by rw [eT]; exact (nI_leI (a := 1) (by decide) (by omega)).mpr (by omega), ?_⟩
  obtain ⟨L, ⟨l1, l2⟩, l3⟩ := pk_least (fun k => 1 ≤ k ∧ goodI a v s p n (itT k (v 12))) ⟨K, k1, hgood⟩
  refine ⟨L, ?_, l1, l2, fun i i1 i2 g => l3 i i2 ⟨i1, g⟩⟩
  rcases Nat.lt_or_ge K L with q | q
  · exact absurd ⟨k1, hgood⟩ (l3 K q)
  · omega
theorem HX_any (hd : HARDP) {n : Nat} {a : AA} {v : VV} (h : gdJ n a v) (s : Int32) {p b : Int32} (ha : anyFor a v p b 0 n = true) : HX a v s p n := by
  obtain ⟨j, hj, -, hf⟩ := any_free ha
  exact HX_of hd h s p hj hf
