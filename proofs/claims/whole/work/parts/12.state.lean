/-- is judge i neither away nor barred from p -/
def fre (a : AA) (v : VV) (i : Nat) (p : Int32) : Bool := !hasB (v 9) (nI i) && !hasB (a 2 i) p
def anyFor (a : AA) (v : VV) (p b : Int32) (i d : Nat) : Bool := (List.range' i d).any (fun j => !decide (nI j = b) && fre a v j p)
/-- the weight of judge j for a subject -/
def wt (a : AA) (v : VV) (j : Nat) (s : Int32) : Int32 :=
  if hasB (v 9) (nI j) = true then 0 else
    let w1 := if ¬ (v 10 &&& 1 = 0) ∧ hasB (a 1 j) s = true then a 0 j + a 0 j else a 0 j
    let w2 := if ¬ (v 10 &&& 2 = 0) then w1 + a 3 j else w1
    if w2 < 1 then 1 else w2
/-- sums, first to last -/
def foldS (f : Nat → Int32) : Nat → Nat → Int32 → Int32
  | _, 0, s => s
  | i, d + 1, s => foldS f (i + 1) d (s + f i)
def mixA (f g : Nat → Int32) (i : Nat) : Nat → Int32 := fun j => if j < i then f j else g j
theorem mixA_0 (f g : Nat → Int32) : mixA f g 0 = g := by funext j; simp [mixA]
theorem mixA_s (f g : Nat → Int32) (i : Nat) : upd (mixA f g i) i (f i) = mixA f g (i + 1) := by
  funext j
  by_cases h1 : j = i
  · subst h1; simp [upd, mixA]
  · by_cases h2 : j < i
    · simp [upd, mixA, h1, h2, show j < i + 1 by omega]
    · simp [upd, mixA, h1, h2, show ¬ j < i + 1 by omega]
def tw (x : Int32) : Int32 :=
  let x1 := x ^^^ (x <<< ((13 : Int32) &&& 31))
  let x2 := x1 ^^^ (x1.toUInt32 >>> ((17 : Int32).toUInt32 &&& Int32.toUInt32 31)).toInt32
  x2 ^^^ (x2 <<< ((5 : Int32) &&& 31))
theorem StAt.cg {G : GG} {hh : HH} {k : Nat} {a a' : AA} {v v' : VV} (h : StAt G hh k a v) (ha : a = a') (hv : v = v') : StAt G hh k a' v' := by subst ha; subst hv; exact h

theorem e_fre (G : GG) (hh : HH) {k : Nat} {a : AA} {v : VV} (h : StAt G hh k a v) (j : Nat) (p : Int32) (hj : j < 6) : EVp G mX2_isFreeFor [.ref (ad G k), .int (nI j), .int p] hh (bl (fre a v j p)) := by
  have h1 := e_isFreeFor G hh h (nI j) p (vp_in_nI hj (by decide))
  rw [nI_clamp (by omega)] at h1
  exact h1
set_option maxRecDepth 4000 in
theorem l_hasSomeoneFor (G : GG) (hh : HH) {k : Nat} {a : AA} {v : VV} (h : StAt G hh k a v) {n : Nat} (hn : n ≤ 6) (hv : v 8 = nI n) (p b : Int32) : ∀ (d i : Nat), i + d = n → RR G mX2_hasSomeoneFor 2 [(0, .ref (ad G k)), (1, .int p), (2, .int b), (3, .int (nI i))] [] hh (fun r h => ∃ w, r = some (.int w) ∧ (w = bl (anyFor a v p b i d) ∧ h = hh)) := by
  intro d
  induction d with
  | zero =>
    intro i hi
    refine R_iload_n dX2_hasSomeoneFor_2 rfl ?_
    refine R_aload_n dX2_hasSomeoneFor_3 rfl ?_
    refine R_get dX2_hasSomeoneFor_4 gf_X2_52 h.1 rfl ?_
    refine R_icmp_ge (tgt := 32) dX2_hasSomeoneFor_7 (by decide) (fun c7 => ?_) (fun c7 => absurd (by rw [hv]; exact nI_le (by omega) (by omega)) c7)
    refine R_iconst (v := 0) dX2_hasSomeoneFor_32 (by decide) ?_
    exact R_zret dX2_hasSomeoneFor_33 rfl (by first | exact Or.inl rfl | exact Or.inr rfl | assumption | omega) (⟨_, rfl, by simp [anyFor, bl], rfl⟩)
  | succ d ih =>
    intro i hi
    refine R_iload_n dX2_hasSomeoneFor_2 rfl ?_
    refine R_aload_n dX2_hasSomeoneFor_3 rfl ?_
    refine R_get dX2_hasSomeoneFor_4 gf_X2_52 h.1 rfl ?_
    refine R_icmp_ge (tgt := 32) dX2_hasSomeoneFor_7 (by decide) (fun c7 => absurd c7 (by rw [hv]; exact nI_ge (by omega) (by omega))) (fun c7 => ?_)
    refine R_iload_n dX2_hasSomeoneFor_10 rfl ?_
    refine R_iload_n dX2_hasSomeoneFor_11 rfl ?_
    refine R_icmp_eq (tgt := 26) dX2_hasSomeoneFor_12 (by decide) (fun c12 => ?_) (fun c12 => ?_)
    · refine R_iinc (y := nI (i + 1)) dX2_hasSomeoneFor_26 rfl (by decide) (nI_s i) ?_
      refine R_goto (tgt := 2) dX2_hasSomeoneFor_29 (by decide) ?_
      have e9 : anyFor a v p b i (d + 1) = anyFor a v p b (i + 1) d := by simp_all [anyFor, bl, List.range'_succ]
      rw [e9]
      exact RR.pick [1, 2, 3, 0] rfl (ih (i + 1) (by omega))
    · refine R_aload_n dX2_hasSomeoneFor_15 rfl ?_
      refine R_iload_n dX2_hasSomeoneFor_16 rfl ?_
      refine R_iload_n dX2_hasSomeoneFor_17 rfl ?_
      refine R_callVp dX2_hasSomeoneFor_18 cv_X2_82 ⟨by decide, by decide⟩ (e_fre G hh h i p (by omega)) h.1 rfl rfl rfl (Nat.le_of_ble_eq_true rfl) ?_
      refine R_if_eq (tgt := 26) dX2_hasSomeoneFor_21 (by decide) (fun c21 => ?_) (fun c21 => ?_)
      · refine R_iinc (y := nI (i + 1)) dX2_hasSomeoneFor_26 rfl (by decide) (nI_s i) ?_
        refine R_goto (tgt := 2) dX2_hasSomeoneFor_29 (by decide) ?_
        have e9 : anyFor a v p b i (d + 1) = anyFor a v p b (i + 1) d := by simp_all [anyFor, bl, List.range'_succ]
        rw [e9]
        exact RR.pick [1, 2, 3, 0] rfl (ih (i + 1) (by omega))
      · refine R_iconst (v := 1) dX2_hasSomeoneFor_24 (by decide) ?_
        exact R_zret dX2_hasSomeoneFor_25 rfl (by first | exact Or.inl rfl | exact Or.inr rfl | assumption | omega) (⟨_, rfl, by simp_all [anyFor, bl, List.range'_succ], rfl⟩)
set_option maxRecDepth 4000 in
theorem e_hasSomeoneFor (G : GG) (hh : HH) {k : Nat} {a : AA} {v : VV} (h : StAt G hh k a v) {n : Nat} (hn : n ≤ 6) (hv : v 8 = nI n) (p b : Int32) : EVp G mX2_hasSomeoneFor [.ref (ad G k), .int p, .int b] hh (bl (anyFor a v p b 0 n)) := by
  refine EV.of [(0, .ref (ad G k)), (1, .int p), (2, .int b)] (by decide +kernel) (Nat.le_of_ble_eq_true rfl) rfl ?_
  refine R_iconst (v := 0) dX2_hasSomeoneFor_0 (by decide) ?_
  refine R_istore_n dX2_hasSomeoneFor_1 (by decide) ?_
  exact RR.pick [1, 2, 3, 0] rfl (l_hasSomeoneFor G hh h hn hv p b n 0 (by omega))
