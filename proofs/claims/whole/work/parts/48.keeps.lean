/-! what every change of a state keeps -/
theorem clp_toInt (x : Int32) : (clpI x).toInt = if x.toInt < -99 then -99 else if 99 < x.toInt then 99 else x.toInt := by
  by_cases q1 : x.toInt < -99
  · rw [if_pos q1, clp_lo (fun z => by rw [Int32.le_iff_toInt_le] at z; exact absurd (show (-99 : Int) ≤ x.toInt from z) (by omega))]; rfl
  · rw [if_neg q1]
    by_cases q2 : 99 < x.toInt
    · rw [if_pos q2, clp_hi (fun z => by rw [Int32.le_iff_toInt_le] at z; exact absurd (show x.toInt ≤ (99 : Int) from z) (by omega))]; rfl
    · rw [if_neg q2, clp_md (Int32.le_iff_toInt_le.mpr (show (-99 : Int) ≤ x.toInt by omega)) (Int32.le_iff_toInt_le.mpr (show x.toInt ≤ (99 : Int) by omega))]
theorem stA_nat {n : Nat} {a : AA} {v : VV} (h : gdJ n a v) {j : Nat} (hj : j < n) : ∃ e : Nat, stA a v j = nI e ∧ e ≤ 9 := by
  obtain ⟨s1, s2, -, -⟩ := h.2.2.2.1 j hj
  unfold stA
  split
  · exact ⟨0, rfl, by omega⟩
  · exact ⟨(a 0 j).toInt.toNat, i32_nat (by omega) (by omega), by omega⟩
theorem gdJ.set {n : Nat} {a : AA} {v : VV} (h : gdJ n a v) {J : Nat} (hJ : J < n) : gdJ n (setD a v (nI J) n) v := by
  have hw : ∀ j, ∃ e : Nat, j < n → stA a v j = nI e ∧ e ≤ 9 := fun j => by
    by_cases q : j < n
    · obtain ⟨e, he⟩ := stA_nat h q
      exact ⟨e, fun _ => he⟩
    · exact ⟨0, fun z => absurd z q⟩
  obtain ⟨e, he⟩ := Classical.axiomOfChoice hw
  have ht : togS a v n = nI (sumN e 0 n) := by
    have := foldS_nI (f := stA a v) (g := e) n 0 0 (fun i _ h2 => (he i (by omega)).1)
    rw [Nat.zero_add] at this
    exact this
  have hn6 := h.1
  have htl : sumN e 0 n ≤ 54 := by
    have := sumN_5 (g := e) (b := 9) n 0 (fun j _ h2 => (he j (by omega)).2)
    have : n * 9 ≤ 6 * 9 := Nat.mul_le_mul_right 9 hn6
    omega
  have hD : ∀ j, j < n → (setD a v (nI J) n 3 j).toInt = (if (a 3 j).toInt + (e j : Int) - (if j = J then (sumN e 0 n : Int) else 0) < -99 then -99 else if 99 < (a 3 j).toInt + (e j : Int) - (if j = J then (sumN e 0 n : Int) else 0) then 99 else (a 3 j).toInt + (e j : Int) - (if j = J then (sumN e 0 n : Int) else 0)) := by
    intro j hj
    obtain ⟨s1, s2, s3, s4⟩ := h.2.2.2.1 j hj
    obtain ⟨e1, e2⟩ := he j hj
    have e3 : (nI (e j)).toInt = (e j : Int) := nI_toInt (by omega)
    have e4 : (nI (sumN e 0 n)).toInt = (sumN e 0 n : Int) := nI_toInt (by omega)
    have hd : setD a v (nI J) n 3 j = nwD a v (nI J) n j := if_pos hj
    rw [hd]
    unfold nwD
    rw [clp_toInt, e1, ht]
    have k1 : (a 3 j + nI (e j)).toInt = (a 3 j).toInt + (e j : Int) := by
      rw [i32_add (by omega) (by omega) (by omega) (by omega), e3]
    by_cases q : j = J
    · rw [if_pos (show nI j = nI J by rw [q]), if_pos q, i32_sub (by omega) (by omega) (by omega) (by omega), k1, e4]
    · rw [if_neg (fun z => q ((nI_eq (by omega) (by omega)).mp z)), if_neg q, k1, Int.sub_zero]
  refine ⟨hn6, h.2.1, h.2.2.1, fun j hj => ?_, fun e6 => ?_⟩
  · obtain ⟨s1, s2, s3, s4⟩ := h.2.2.2.1 j hj
    refine ⟨s1, s2, ?_⟩
    rw [hD j hj]
    repeat' split
    all_goals omega
  · subst e6
    have hsum := h.2.2.2.2 rfl
    have r0 := h.2.2.2.1 0 (by omega)
    have r1 := h.2.2.2.1 1 (by omega)
    have r2 := h.2.2.2.1 2 (by omega)
    have r3 := h.2.2.2.1 3 (by omega)
    have r4 := h.2.2.2.1 4 (by omega)
    have r5 := h.2.2.2.1 5 (by omega)
    rw [hD 0 (by omega), hD 1 (by omega), hD 2 (by omega), hD 3 (by omega), hD 4 (by omega), hD 5 (by omega)]
    have es : sumN e 0 6 = e 0 + (e 1 + (e 2 + (e 3 + (e 4 + (e 5 + 0))))) := rfl
    rw [es]
    clear hD htl ht he hw h es
    rcases (show J = 0 ∨ J = 1 ∨ J = 2 ∨ J = 3 ∨ J = 4 ∨ J = 5 by omega) with rfl | rfl | rfl | rfl | rfl | rfl
    all_goals simp only [if_true, if_neg (show ¬ (1 : Nat) = 0 by omega), if_neg (show ¬ (2 : Nat) = 0 by omega), if_neg (show ¬ (3 : Nat) = 0 by omega), if_neg (show ¬ (4 : Nat) = 0 by omega), if_neg (show ¬ (5 : Nat) = 0 by omega), if_neg (show ¬ (0 : Nat) = 1 by omega), if_neg (show ¬ (2 : Nat) = 1 by omega), if_neg (show ¬ (3 : Nat) = 1 by omega), if_neg (show ¬ (4 : Nat) = 1 by omega), if_neg (show ¬ (5 : Nat) = 1 by omega), if_neg (show ¬ (0 : Nat) = 2 by omega), if_neg (show ¬ (1 : Nat) = 2 by omega), if_neg (show ¬ (3 : Nat) = 2 by omega), if_neg (show ¬ (4 : Nat) = 2 by omega), if_neg (show ¬ (5 : Nat) = 2 by omega), if_neg (show ¬ (0 : Nat) = 3 by omega), if_neg (show ¬ (1 : Nat) = 3 by omega), if_neg (show ¬ (2 : Nat) = 3 by omega), if_neg (show ¬ (4 : Nat) = 3 by omega), if_neg (show ¬ (5 : Nat) = 3 by omega), if_neg (show ¬ (0 : Nat) = 4 by omega), if_neg (show ¬ (1 : Nat) = 4 by omega), if_neg (show ¬ (2 : Nat) = 4 by omega), if_neg (show ¬ (3 : Nat) = 4 by omega), if_neg (show ¬ (5 : Nat) = 4 by omega), if_neg (show ¬ (0 : Nat) = 5 by omega), if_neg (show ¬ (1 : Nat) = 5 by omega), if_neg (show ¬ (2 : Nat) = 5 by omega), if_neg (show ¬ (3 : Nat) = 5 by omega), if_neg (show ¬ (4 : Nat) = 5 by omega), Int.sub_zero]
    all_goals omega
/-- draws see the judges, the rule, the chain alone -/
theorem gdJ.cg {n : Nat} {a b : AA} {v u : VV} (h : gdJ n a v) (h0 : ∀ j, j < n → b 0 j = a 0 j) (h3 : ∀ j, j < n → b 3 j = a 3 j) (hr : u 10 = v 10) (hc : ¬ u 12 = 0) : gdJ n b u := by
  obtain ⟨g1, g2, g3, g4, g5⟩ := h
  refine ⟨g1, by rw [hr]; exact g2, hc, fun j hj => by rw [h0 j hj, h3 j hj]; exact g4 j hj, fun e => ?_⟩
  subst e
  rw [h3 0 (by omega), h3 1 (by omega), h3 2 (by omega), h3 3 (by omega), h3 4 (by omega), h3 5 (by omega)]
  exact g5 rfl
theorem gdJ.seal {n : Nat} {a : AA} {v : VV} (h : gdJ n a v) {s : Int32} (hs : ¬ s = 0) : gdJ n (sealA a) (sealV v s) := by
  obtain ⟨g1, g2, g3, g4, g5⟩ := h
  refine ⟨g1, g2, hs, fun j hj => ?_, fun _ => ?_⟩
  · obtain ⟨s1, s2, -, -⟩ := g4 j hj
    exact ⟨s1, s2, (by decide : (-99 : Int) ≤ (0 : Int32).toInt), (by decide : (0 : Int32).toInt ≤ 99)⟩
  · exact (by decide : (0 : Int32).toInt + (0 : Int32).toInt + (0 : Int32).toInt + (0 : Int32).toInt + (0 : Int32).toInt + (0 : Int32).toInt ≤ 396)
theorem gdJ.add (hd : HARDP) {n : Nat} {a : AA} {v : VV} (h : gdJ n a v) (s p : Int32) {J : Nat} (hJ : J < n) (K c : Nat) : gdJ n (addA a v s p n J c) (addV v K c) := (h.set hJ).cg (fun _ _ => rfl) (fun _ _ => rfl) rfl (itT_ne0 hd K h.2.2.1)
theorem gdJ.bar {n : Nat} {a : AA} {v : VV} (h : gdJ n a v) (i : Nat) : gdJ n (brA a i) v := h.cg (fun _ _ => rfl) (fun _ _ => rfl) rfl h.2.2.1
theorem gdJ.agn (hd : HARDP) {n : Nat} {a : AA} {v : VV} (h : gdJ n a v) {J : Nat} (hJ : J < n) (i K : Nat) (t : Int32) : gdJ n (agnA a v n J i) (vct v (itT K (v 12)) t) := (h.set hJ).cg (fun _ _ => rfl) (fun _ _ => rfl) rfl (itT_ne0 hd K h.2.2.1)
theorem anyFor_cg {a b : AA} {v u : VV} (h2 : b 2 = a 2) (h9 : u 9 = v 9) (p q : Int32) (i d : Nat) : anyFor b u p q i d = anyFor a v p q i d := by
  unfold anyFor fre
  rw [h2, h9]
theorem okR_ok (hd : HARDP) {a : AA} {n : Nat} : ∀ (d i : Nat) (b : AA) (u : VV), gdJ n b u → (∀ c, i ≤ c → c < i + d → anyFor b u (a 5 c) (-1) 0 n = true) → okR a n d i b u
  | 0, _, _, _, _, _ => trivial
  | d + 1, i, b, u, hg, ha => by
    have hX : HX b u (a 4 i) (a 5 i) n := HX_any hd hg (a 4 i) (ha i (Nat.le_refl i) (by omega))
    refine ⟨hX, okR_ok hd d (i + 1) _ _ (hg.add hd (a 4 i) (a 5 i) (jud_lt hX.n0) _ i) (fun c h1 h2 => ?_)⟩
    exact (anyFor_cg (a := b) (v := u) rfl rfl _ _ _ _).trans (ha c (by omega) (by omega))
theorem all_any {a : AA} {v : VV} {n m : Nat} (h : allFor a v n 0 m = true) : ∀ c, c < m → anyFor a v (a 5 c) (-1) 0 n = true := by
  intro c hc
  unfold allFor at h
  rw [List.all_eq_true] at h
  exact h c (by rw [List.mem_range']; exact ⟨c, hc, by omega⟩)
theorem okR_seal (hd : HARDP) {a : AA} {v : VV} {n m : Nat} (hg : gdJ n a v) (h : allFor a v n 0 m = true) {s : Int32} (hs : ¬ s = 0) : okR a n m 0 (sealA a) (sealV v s) :=
  okR_ok hd m 0 _ _ (hg.seal hs) (fun c _ h2 => by
    exact (anyFor_cg (a := a) (v := v) rfl rfl _ _ _ _).trans (all_any h c (by omega)))
theorem any_bar {a : AA} {v : VV} {n i jo : Nat} (hjo : jo < 6) (h6 : a 6 i = nI jo) (h : anyFor a v (a 5 i) (a 6 i) 0 n = true) : ∃ j, j < n ∧ fre (brA a i) v j (a 5 i) = true := by
  obtain ⟨j, hj, hne, hf⟩ := any_free h
  refine ⟨j, hj, ?_⟩
  have e : brA a i 2 j = a 2 j := by
    unfold brA barA
    show upd (a 2) (a 6 i).toNatClampNeg _ j = a 2 j
    refine if_neg (fun z => hne ?_)
    rw [z, h6, nI_clamp (by omega)]
  unfold fre at hf ⊢
  rw [e]; exact hf
/-- a state of n judges, m cases -/
def gd (n m : Nat) (a : AA) (v : VV) : Prop := gdJ n a v ∧ v 8 = nI n ∧ v 14 = nI m ∧ m ≤ 20 ∧ ∀ c, c < m → ∃ jo, jo < n ∧ a 6 c = nI jo
