/-- is judge i neither away nor barred from p -/
def fre (a : AA) (v : VV) (i : Nat) (p : Int32) : Bool := !hasB (v 9) (nI i) && !hasB (a 2 i) p
def anyFor (a : AA) (v : VV) (p b : Int32) (i d : Nat) : Bool := (List.range' i d).any (fun j => !decide (nI j = b) && fre a v j p)
/-- the weight of judge j for a subject -/
def wt (a : AA) (v : VV) (j : Nat) (s : Int32) : Int32 :=
  if hasB (v 9) (nI j) = true then 0 else
    let w1 := if ¬ (v 10 &&& 1 = 0) ∧ hasB (a 1 j) s = true then a 0 j + a 0 j else a 0 j
    let w2 := if ¬ (v 10 &&& 2 = 0) then w1 + a 3 j else w1
    if w2 < 1 then 1 else w2
/-- sums, first to last -/
def foldS (f : Nat → Int32) : Nat → Nat → Int32 → Int32
  | _, 0, s => s
  | i, d + 1, s => foldS f (i + 1) d (s + f i)
def mixA (f g : Nat → Int32) (i : Nat) : Nat → Int32 := fun j => if j < i then f j else g j
theorem mixA_0 (f g : Nat → Int32) : mixA f g 0 = g := by funext j; simp [mixA]
theorem mixA_s (f g : Nat → Int32) (i : Nat) : upd (mixA f g i) i (f i) = mixA f g (i + 1) := by
  funext j
  by_cases h1 : j = i
  · subst h1; simp [upd, mixA]
  · by_cases h2 : j < i
    · simp [upd, mixA, h1, h2, show j < i + 1 by omega]
    · simp [upd, mixA, h1, h2, show ¬ j < i + 1 by omega]
def tw (x : Int32) : Int32 :=
  let x1 := x ^^^ (x <<< ((13 : Int32) &&& 31))
  let x2 := x1 ^^^ (x1.toUInt32 >>> ((17 : Int32).toUInt32 &&& Int32.toUInt32 31)).toInt32
  x2 ^^^ (x2 <<< ((5 : Int32) &&& 31))
theorem StAt.cg {G : GG} {hh : HH} {k : Nat} {a a' : AA} {v v' : VV} (h : StAt G hh k a v) (ha : a = a') (hv : v = v') : StAt G hh k a' v' := by subst ha; subst hv; exact h

theorem e_fre (G : GG) (hh : HH) {k : Nat} {a : AA} {v : VV} (h : StAt G hh k a v) (j : Nat) (p : Int32) (hj : j < 6) : EVp G mX2_isFreeFor [.ref (ad G k), .int (nI j), .int p] hh (bl (fre a v j p)) := by
  have h1 := e_isFreeFor G hh h (nI j) p (vp_in_nI hj (by decide))
  rw [nI_clamp (by omega)] at h1
  exact h1
set_option maxRecDepth 4000 in
theorem l_hasSomeoneFor (G : GG) (hh : HH) {k : Nat} {a : AA} {v : VV} (h : StAt G hh k a v) {n : Nat} (hn : n ≤ 6) (hv : v 8 = nI n) (p b : Int32) : ∀ (d i : Nat), i + d = n → RR G mX2_hasSomeoneFor 2 [(0, .ref (ad G k)), (1, .int p), (2, .int b), (3, .int (nI i))] [] hh (fun r h => ∃ w, r = some (.int w) ∧ (w = bl (anyFor a v p b i d) ∧ h = hh)) := by
  intro d
  induction d with
  | zero =>
    intro i hi
    refine R_iload_n dX2_hasSomeoneFor_2 rfl ?_
    refine R_aload_n dX2_hasSomeoneFor_3 rfl ?_
    refine R_get dX2_hasSomeoneFor_4 gf_X2_52 h.1 rfl ?_
    refine R_icmp_ge (tgt := 32) dX2_hasSomeoneFor_7 (by decide) (fun c7 => ?_) (fun c7 => absurd (by rw [hv]; exact nI_le (by omega) (by omega)) c7)
    refine R_iconst (v := 0) dX2_hasSomeoneFor_32 (by decide) ?_
    exact R_zret dX2_hasSomeoneFor_33 rfl (by first | exact Or.inl rfl | exact Or.inr rfl | assumption | omega) (⟨_, rfl, by simp [anyFor, bl], rfl⟩)
  | succ d ih =>
    intro i hi
    refine R_iload_n dX2_hasSomeoneFor_2 rfl ?_
    refine R_aload_n dX2_hasSomeoneFor_3 rfl ?_
    refine R_get dX2_hasSomeoneFor_4 gf_X2_52 h.1 rfl ?_
    refine R_icmp_ge (tgt := 32) dX2_hasSomeoneFor_7 (by decide) (fun c7 => absurd c7 (by rw [hv]; exact nI_ge (by omega) (by omega))) (fun c7 => ?_)
    refine R_iload_n dX2_hasSomeoneFor_10 rfl ?_
    refine R_iload_n dX2_hasSomeoneFor_11 rfl ?_
    refine R_icmp_eq (tgt := 26) dX2_hasSomeoneFor_12 (by decide) (fun c12 => ?_) (fun c12 => ?_)
    · refine R_iinc (y := nI (i + 1)) dX2_hasSomeoneFor_26 rfl (by decide) (nI_s i) ?_
      refine R_goto (tgt := 2) dX2_hasSomeoneFor_29 (by decide) ?_
      have e9 : anyFor a v p b i (d + 1) = anyFor a v p b (i + 1) d := by simp_all [anyFor, bl, List.range'_succ]
      rw [e9]
      exact RR.pick [1, 2, 3, 0] rfl (ih (i + 1) (by omega))
    · refine R_aload_n dX2_hasSomeoneFor_15 rfl ?_
      refine R_iload_n dX2_hasSomeoneFor_16 rfl ?_
      refine R_iload_n dX2_hasSomeoneFor_17 rfl ?_
      refine R_callVp dX2_hasSomeoneFor_18 cv_X2_82 ⟨by decide, by decide⟩ (e_fre G hh h i p (by omega)) h.1 rfl rfl rfl (Nat.le_of_ble_eq_true rfl) ?_
      refine R_if_eq (tgt := 26) dX2_hasSomeoneFor_21 (by decide) (fun c21 => ?_) (fun c21 => ?_)
      · refine R_iinc (y := nI (i + 1)) dX2_hasSomeoneFor_26 rfl (by decide) (nI_s i) ?_
        refine R_goto (tgt := 2) dX2_hasSomeoneFor_29 (by decide) ?_
        have e9 : anyFor a v p b i (d + 1) = anyFor a v p b (i + 1) d := by simp_all [anyFor, bl, List.range'_succ]
        rw [e9]
        exact RR.pick [1, 2, 3, 0] rfl (ih (i + 1) (by omega))
      · refine R_iconst (v := 1) dX2_hasSomeoneFor_24 (by decide) ?_
        exact R_zret dX2_hasSomeoneFor_25 rfl (by first | exact Or.inl rfl | exact Or.inr rfl | assumption | omega) (⟨_, rfl, by simp_all [anyFor, bl, List.range'_succ], rfl⟩)
set_option maxRecDepth 4000 in
theorem e_hasSomeoneFor (G : GG) (hh : HH) {k : Nat} {a : AA} {v : VV} (h : StAt G hh k a v) {n : Nat} (hn : n ≤ 6) (hv : v 8 = nI n) (p b : Int32) : EVp G mX2_hasSomeoneFor [.ref (ad G k), .int p, .int b] hh (bl (anyFor a v p b 0 n)) := by
  refine EV.of [(0, .ref (ad G k)), (1, .int p), (2, .int b)] (by decide +kernel) (Nat.le_of_ble_eq_true rfl) rfl ?_
  refine R_iconst (v := 0) dX2_hasSomeoneFor_0 (by decide) ?_
  refine R_istore_n dX2_hasSomeoneFor_1 (by decide) ?_
  exact RR.pick [1, 2, 3, 0] rfl (l_hasSomeoneFor G hh h hn hv p b n 0 (by omega))
def allFor (a : AA) (v : VV) (n : Nat) (i d : Nat) : Bool := (List.range' i d).all (fun c => anyFor a v (a 5 c) (-1) 0 n)
set_option maxRecDepth 4000 in
theorem l_everyCase (G : GG) (hh : HH) {k : Nat} {a : AA} {v : VV} (h : StAt G hh k a v) {n : Nat} (hn : n ≤ 6) (hv : v 8 = nI n) {m : Nat} (hm : m ≤ 20) (hc : v 14 = nI m) : ∀ (d i : Nat), i + d = m → RR G mX2_everyCaseHasSomeone 2 [(0, .ref (ad G k)), (1, .int (nI i))] [] hh (fun r h => ∃ w, r = some (.int w) ∧ (w = bl (allFor a v n i d) ∧ h = hh)) := by
  intro d
  induction d with
  | zero =>
    intro i hi
    refine R_iload_n dX2_everyCaseHasSomeone_2 rfl ?_
    refine R_aload_n dX2_everyCaseHasSomeone_3 rfl ?_
    refine R_get dX2_everyCaseHasSomeone_4 gf_X2_61 h.1 rfl ?_
    refine R_icmp_ge (tgt := 32) dX2_everyCaseHasSomeone_7 (by decide) (fun c7 => ?_) (fun c7 => absurd (by rw [hc]; exact nI_le (by omega) (by omega)) c7)
    refine R_iconst (v := 1) dX2_everyCaseHasSomeone_32 (by decide) ?_
    exact R_zret dX2_everyCaseHasSomeone_33 rfl (by first | exact Or.inl rfl | exact Or.inr rfl | assumption | omega) (⟨_, rfl, by simp [allFor, bl], rfl⟩)
  | succ d ih =>
    intro i hi
    refine R_iload_n dX2_everyCaseHasSomeone_2 rfl ?_
    refine R_aload_n dX2_everyCaseHasSomeone_3 rfl ?_
    refine R_get dX2_everyCaseHasSomeone_4 gf_X2_61 h.1 rfl ?_
    refine R_icmp_ge (tgt := 32) dX2_everyCaseHasSomeone_7 (by decide) (fun c7 => absurd c7 (by rw [hc]; exact nI_ge (by omega) (by omega))) (fun c7 => ?_)
    refine R_aload_n dX2_everyCaseHasSomeone_10 rfl ?_
    refine R_aload_n dX2_everyCaseHasSomeone_11 rfl ?_
    refine R_get dX2_everyCaseHasSomeone_12 gf_X2_27 h.1 rfl ?_
    refine R_iload_n dX2_everyCaseHasSomeone_15 rfl ?_
    refine R_ialdN dX2_everyCaseHasSomeone_16 h.a5 (by omega) (by decide) ?_
    refine R_iconst (v := (-1)) dX2_everyCaseHasSomeone_17 (by decide) ?_
    refine R_callVp dX2_everyCaseHasSomeone_18 cv_X2_85 ⟨by decide, by decide⟩ (e_hasSomeoneFor G hh h hn hv (a 5 i) (-1)) h.1 rfl rfl rfl (Nat.le_of_ble_eq_true rfl) ?_
    refine R_if_ne (tgt := 26) dX2_everyCaseHasSomeone_21 (by decide) (fun c21 => ?_) (fun c21 => ?_)
    · refine R_iinc (y := nI (i + 1)) dX2_everyCaseHasSomeone_26 rfl (by decide) (nI_s i) ?_
      refine R_goto (tgt := 2) dX2_everyCaseHasSomeone_29 (by decide) ?_
      have e9 : allFor a v n i (d + 1) = allFor a v n (i + 1) d := by simp_all [allFor, bl, List.range'_succ]
      rw [e9]
      exact RR.pick [1, 0] rfl (ih (i + 1) (by omega))
    · refine R_iconst (v := 0) dX2_everyCaseHasSomeone_24 (by decide) ?_
      exact R_zret dX2_everyCaseHasSomeone_25 rfl (by first | exact Or.inl rfl | exact Or.inr rfl | assumption | omega) (⟨_, rfl, by simp_all [allFor, bl, List.range'_succ], rfl⟩)
set_option maxRecDepth 4000 in
theorem e_everyCase (G : GG) (hh : HH) {k : Nat} {a : AA} {v : VV} (h : StAt G hh k a v) {n : Nat} (hn : n ≤ 6) (hv : v 8 = nI n) {m : Nat} (hm : m ≤ 20) (hc : v 14 = nI m) : EVp G mX2_everyCaseHasSomeone [.ref (ad G k)] hh (bl (allFor a v n 0 m)) := by
  refine EV.of [(0, .ref (ad G k))] (by decide +kernel) (Nat.le_of_ble_eq_true rfl) rfl ?_
  refine R_iconst (v := 0) dX2_everyCaseHasSomeone_0 (by decide) ?_
  refine R_istore_n dX2_everyCaseHasSomeone_1 (by decide) ?_
  exact RR.pick [1, 0] rfl (l_everyCase G hh h hn hv hm hc m 0 (by omega))
def ctOf (a : AA) (j : Int32) : Nat → Nat → Nat
  | _, 0 => 0
  | i, d + 1 => (if a 6 i = j then 1 else 0) + ctOf a j (i + 1) d
set_option maxRecDepth 4000 in
theorem l_casesOf (G : GG) (hh : HH) {k : Nat} {a : AA} {v : VV} (h : StAt G hh k a v) {m : Nat} (hm : m ≤ 20) (hc : v 14 = nI m) (j : Int32) : ∀ (d i s : Nat), i + d = m → RR G mX2_casesOf 4 [(0, .ref (ad G k)), (1, .int j), (2, .int (nI s)), (3, .int (nI i))] [] hh (fun r h => ∃ w, r = some (.int w) ∧ (w = nI (s + ctOf a j i d) ∧ h = hh)) := by
  intro d
  induction d with
  | zero =>
    intro i s hi
    refine R_iload_n dX2_casesOf_4 rfl ?_
    refine R_aload_n dX2_casesOf_5 rfl ?_
    refine R_get dX2_casesOf_6 gf_X2_61 h.1 rfl ?_
    refine R_icmp_ge (tgt := 31) dX2_casesOf_9 (by decide) (fun c9 => ?_) (fun c9 => absurd (by rw [hc]; exact nI_le (by omega) (by omega)) c9)
    refine R_iload_n dX2_casesOf_31 rfl ?_
    exact R_iret dX2_casesOf_32 rfl (⟨_, rfl, by simp [ctOf], rfl⟩)
  | succ d ih =>
    intro i s hi
    refine R_iload_n dX2_casesOf_4 rfl ?_
    refine R_aload_n dX2_casesOf_5 rfl ?_
    refine R_get dX2_casesOf_6 gf_X2_61 h.1 rfl ?_
    refine R_icmp_ge (tgt := 31) dX2_casesOf_9 (by decide) (fun c9 => absurd c9 (by rw [hc]; exact nI_ge (by omega) (by omega))) (fun c9 => ?_)
    refine R_aload_n dX2_casesOf_12 rfl ?_
    refine R_get dX2_casesOf_13 gf_X2_30 h.1 rfl ?_
    refine R_iload_n dX2_casesOf_16 rfl ?_
    refine R_ialdN dX2_casesOf_17 h.a6 (by omega) (by decide) ?_
    refine R_iload_n dX2_casesOf_18 rfl ?_
    refine R_icmp_ne (tgt := 25) dX2_casesOf_19 (by decide) (fun c19 => ?_) (fun c19 => ?_)
    · refine R_iinc (y := nI (i + 1)) dX2_casesOf_25 rfl (by decide) (nI_s i) ?_
      refine R_goto (tgt := 4) dX2_casesOf_28 (by decide) ?_
      have e9 : s + ctOf a j i (d + 1) = s + ctOf a j (i + 1) d := by simp only [ctOf]; rw [if_neg (by simpa using c19)]; omega
      rw [e9]
      exact RR.pick [1, 2, 3, 0] rfl (ih (i + 1) _ (by omega))
    · refine R_iinc (y := nI (s + 1)) dX2_casesOf_22 rfl (by decide) (nI_s s) ?_
      refine R_iinc (y := nI (i + 1)) dX2_casesOf_25 rfl (by decide) (nI_s i) ?_
      refine R_goto (tgt := 4) dX2_casesOf_28 (by decide) ?_
      have e9 : s + ctOf a j i (d + 1) = s + 1 + ctOf a j (i + 1) d := by simp only [ctOf]; rw [if_pos (by simpa using c19)]; omega
      rw [e9]
      exact RR.pick [2, 3, 1, 0] rfl (ih (i + 1) _ (by omega))
set_option maxRecDepth 4000 in
theorem e_casesOf (G : GG) (hh : HH) {k : Nat} {a : AA} {v : VV} (h : StAt G hh k a v) {m : Nat} (hm : m ≤ 20) (hc : v 14 = nI m) (j : Int32) : EVp G mX2_casesOf [.ref (ad G k), .int j] hh (nI (0 + ctOf a j 0 m)) := by
  refine EV.of [(0, .ref (ad G k)), (1, .int j)] (by decide +kernel) (Nat.le_of_ble_eq_true rfl) rfl ?_
  refine R_iconst (v := 0) dX2_casesOf_0 (by decide) ?_
  refine R_istore_n dX2_casesOf_1 (by decide) ?_
  refine R_iconst (v := 0) dX2_casesOf_2 (by decide) ?_
  refine R_istore_n dX2_casesOf_3 (by decide) ?_
  exact RR.pick [2, 3, 1, 0] rfl (l_casesOf G hh h hm hc j m 0 0 (by omega))
set_option maxRecDepth 4000 in
theorem e_weightOf (G : GG) (hh : HH) {k : Nat} {a : AA} {v : VV} (h : StAt G hh k a v) (j : Nat) (hj : j < 6) (s : Int32) : EVp G mX2_weightOf [.ref (ad G k), .int (nI j), .int s] hh (wt a v j s) := by
  refine EV.of [(0, .ref (ad G k)), (1, .int (nI j)), (2, .int s)] (by decide +kernel) (Nat.le_of_ble_eq_true rfl) rfl ?_
  refine R_aload_n dX2_weightOf_0 rfl ?_
  refine R_iload_n dX2_weightOf_1 rfl ?_
  refine R_callVp dX2_weightOf_2 cv_X2_74 ⟨by decide, by decide⟩ (e_isAway G hh h (nI j)) h.1 rfl rfl rfl (Nat.le_of_ble_eq_true rfl) ?_
  refine R_if_eq (tgt := 10) dX2_weightOf_5 (by decide) (fun c5 => ?_) (fun c5 => ?_)
  · refine R_aload_n dX2_weightOf_10 rfl ?_
    refine R_get dX2_weightOf_11 gf_X2_9 h.1 rfl ?_
    refine R_iload_n dX2_weightOf_14 rfl ?_
    refine R_ialdN dX2_weightOf_15 h.a0 (by omega) (by decide) ?_
    refine R_istore_n dX2_weightOf_16 (by decide) ?_
    refine R_aload_n dX2_weightOf_17 rfl ?_
    refine R_get dX2_weightOf_18 gf_X2_36 h.1 rfl ?_
    refine R_iconst (v := 1) dX2_weightOf_21 (by decide) ?_
    refine R_iand dX2_weightOf_22 ?_
    refine R_if_eq (tgt := 44) dX2_weightOf_23 (by decide) (fun c23 => ?_) (fun c23 => ?_)
    · refine R_aload_n dX2_weightOf_44 rfl ?_
      refine R_get dX2_weightOf_45 gf_X2_36 h.1 rfl ?_
      refine R_iconst (v := 2) dX2_weightOf_48 (by decide) ?_
      refine R_iand dX2_weightOf_49 ?_
      refine R_if_eq (tgt := 62) dX2_weightOf_50 (by decide) (fun c50 => ?_) (fun c50 => ?_)
      · refine R_iload_n dX2_weightOf_62 rfl ?_
        refine R_iconst (v := 1) dX2_weightOf_63 (by decide) ?_
        refine R_mmax dX2_weightOf_64 mm_X2_88 mS_max mI_Math mC_max (by decide) (Nat.le_of_ble_eq_true rfl) ?_
        exact R_iret dX2_weightOf_67 rfl (⟨_, rfl, by simp_all [wt, bl, hasB], rfl⟩)
      · refine R_iload_n dX2_weightOf_53 rfl ?_
        refine R_aload_n dX2_weightOf_54 rfl ?_
        refine R_get dX2_weightOf_55 gf_X2_21 h.1 rfl ?_
        refine R_iload_n dX2_weightOf_58 rfl ?_
        refine R_ialdN dX2_weightOf_59 h.a3 (by omega) (by decide) ?_
        refine R_iadd dX2_weightOf_60 ?_
        refine R_istore_n dX2_weightOf_61 (by decide) ?_
        refine R_iload_n dX2_weightOf_62 rfl ?_
        refine R_iconst (v := 1) dX2_weightOf_63 (by decide) ?_
        refine R_mmax dX2_weightOf_64 mm_X2_88 mS_max mI_Math mC_max (by decide) (Nat.le_of_ble_eq_true rfl) ?_
        exact R_iret dX2_weightOf_67 rfl (⟨_, rfl, by simp_all [wt, bl, hasB], rfl⟩)
    · refine R_aload_n dX2_weightOf_26 rfl ?_
      refine R_get dX2_weightOf_27 gf_X2_15 h.1 rfl ?_
      refine R_iload_n dX2_weightOf_30 rfl ?_
      refine R_ialdN dX2_weightOf_31 h.a1 (by omega) (by decide) ?_
      refine R_iload_n dX2_weightOf_32 rfl ?_
      refine R_ishr dX2_weightOf_33 ?_
      refine R_iconst (v := 1) dX2_weightOf_34 (by decide) ?_
      refine R_iand dX2_weightOf_35 ?_
      refine R_iconst (v := 1) dX2_weightOf_36 (by decide) ?_
      refine R_icmp_ne (tgt := 44) dX2_weightOf_37 (by decide) (fun c37 => ?_) (fun c37 => ?_)
      · refine R_aload_n dX2_weightOf_44 rfl ?_
        refine R_get dX2_weightOf_45 gf_X2_36 h.1 rfl ?_
        refine R_iconst (v := 2) dX2_weightOf_48 (by decide) ?_
        refine R_iand dX2_weightOf_49 ?_
        refine R_if_eq (tgt := 62) dX2_weightOf_50 (by decide) (fun c50 => ?_) (fun c50 => ?_)
        · refine R_iload_n dX2_weightOf_62 rfl ?_
          refine R_iconst (v := 1) dX2_weightOf_63 (by decide) ?_
          refine R_mmax dX2_weightOf_64 mm_X2_88 mS_max mI_Math mC_max (by decide) (Nat.le_of_ble_eq_true rfl) ?_
          exact R_iret dX2_weightOf_67 rfl (⟨_, rfl, by simp_all [wt, bl, hasB], rfl⟩)
        · refine R_iload_n dX2_weightOf_53 rfl ?_
          refine R_aload_n dX2_weightOf_54 rfl ?_
          refine R_get dX2_weightOf_55 gf_X2_21 h.1 rfl ?_
          refine R_iload_n dX2_weightOf_58 rfl ?_
          refine R_ialdN dX2_weightOf_59 h.a3 (by omega) (by decide) ?_
          refine R_iadd dX2_weightOf_60 ?_
          refine R_istore_n dX2_weightOf_61 (by decide) ?_
          refine R_iload_n dX2_weightOf_62 rfl ?_
          refine R_iconst (v := 1) dX2_weightOf_63 (by decide) ?_
          refine R_mmax dX2_weightOf_64 mm_X2_88 mS_max mI_Math mC_max (by decide) (Nat.le_of_ble_eq_true rfl) ?_
          exact R_iret dX2_weightOf_67 rfl (⟨_, rfl, by simp_all [wt, bl, hasB], rfl⟩)
      · refine R_iload_n dX2_weightOf_40 rfl ?_
        refine R_iload_n dX2_weightOf_41 rfl ?_
        refine R_iadd dX2_weightOf_42 ?_
        refine R_istore_n dX2_weightOf_43 (by decide) ?_
        refine R_aload_n dX2_weightOf_44 rfl ?_
        refine R_get dX2_weightOf_45 gf_X2_36 h.1 rfl ?_
        refine R_iconst (v := 2) dX2_weightOf_48 (by decide) ?_
        refine R_iand dX2_weightOf_49 ?_
        refine R_if_eq (tgt := 62) dX2_weightOf_50 (by decide) (fun c50 => ?_) (fun c50 => ?_)
        · refine R_iload_n dX2_weightOf_62 rfl ?_
          refine R_iconst (v := 1) dX2_weightOf_63 (by decide) ?_
          refine R_mmax dX2_weightOf_64 mm_X2_88 mS_max mI_Math mC_max (by decide) (Nat.le_of_ble_eq_true rfl) ?_
          exact R_iret dX2_weightOf_67 rfl (⟨_, rfl, by simp_all [wt, bl, hasB], rfl⟩)
        · refine R_iload_n dX2_weightOf_53 rfl ?_
          refine R_aload_n dX2_weightOf_54 rfl ?_
          refine R_get dX2_weightOf_55 gf_X2_21 h.1 rfl ?_
          refine R_iload_n dX2_weightOf_58 rfl ?_
          refine R_ialdN dX2_weightOf_59 h.a3 (by omega) (by decide) ?_
          refine R_iadd dX2_weightOf_60 ?_
          refine R_istore_n dX2_weightOf_61 (by decide) ?_
          refine R_iload_n dX2_weightOf_62 rfl ?_
          refine R_iconst (v := 1) dX2_weightOf_63 (by decide) ?_
          refine R_mmax dX2_weightOf_64 mm_X2_88 mS_max mI_Math mC_max (by decide) (Nat.le_of_ble_eq_true rfl) ?_
          exact R_iret dX2_weightOf_67 rfl (⟨_, rfl, by simp_all [wt, bl, hasB], rfl⟩)
  · refine R_iconst (v := 0) dX2_weightOf_8 (by decide) ?_
    exact R_iret dX2_weightOf_9 rfl (⟨_, rfl, by simp_all [wt, bl, hasB], rfl⟩)
theorem e_bar (G : GG) (hh : HH) {k : Nat} {a : AA} {v : VV} (h : StAt G hh k a v) (j : Nat) (p : Int32) (hj : j < 6) : EVp G mX2_isBarred [.ref (ad G k), .int (nI j), .int p] hh (bl (hasB (a 2 j) p)) := by
  have h1 := e_isBarred G hh h (nI j) p (vp_in_nI hj (by decide))
  rw [nI_clamp (by omega)] at h1
  exact h1
/-- a weight, but 0 for one who is barred -/
def wtF (a : AA) (v : VV) (s p : Int32) (j : Nat) : Int32 := if hasB (a 2 j) p = true then 0 else wt a v j s
set_option maxRecDepth 4000 in
theorem l_weightsFree (G : GG) (hh : HH) {k : Nat} {a : AA} {v : VV} (h : StAt G hh k a v) {n : Nat} (hn : n ≤ 6) (hv : v 8 = nI n) (s p : Int32) : ∀ (d i : Nat) (x : Int32), i + d = n → RR G mX2_weightsFreeFor 5 [(0, .ref (ad G k)), (1, .int s), (2, .int p), (3, .int x), (4, .int (nI i))] [] hh (fun r h => ∃ w, r = some (.int w) ∧ (w = foldS (wtF a v s p) i d x ∧ h = hh)) := by
  intro d
  induction d with
  | zero =>
    intro i x hi
    refine R_iload dX2_weightsFreeFor_5 rfl ?_
    refine R_aload_n dX2_weightsFreeFor_7 rfl ?_
    refine R_get dX2_weightsFreeFor_8 gf_X2_52 h.1 rfl ?_
    refine R_icmp_ge (tgt := 40) dX2_weightsFreeFor_11 (by decide) (fun c11 => ?_) (fun c11 => absurd (by rw [hv]; exact nI_le (by omega) (by omega)) c11)
    refine R_iload_n dX2_weightsFreeFor_40 rfl ?_
    exact R_iret dX2_weightsFreeFor_41 rfl (⟨_, rfl, rfl, rfl⟩)
  | succ d ih =>
    intro i x hi
    refine R_iload dX2_weightsFreeFor_5 rfl ?_
    refine R_aload_n dX2_weightsFreeFor_7 rfl ?_
    refine R_get dX2_weightsFreeFor_8 gf_X2_52 h.1 rfl ?_
    refine R_icmp_ge (tgt := 40) dX2_weightsFreeFor_11 (by decide) (fun c11 => absurd c11 (by rw [hv]; exact nI_ge (by omega) (by omega))) (fun c11 => ?_)
    refine R_aload_n dX2_weightsFreeFor_14 rfl ?_
    refine R_iload dX2_weightsFreeFor_15 rfl ?_
    refine R_iload_n dX2_weightsFreeFor_17 rfl ?_
    refine R_callVp dX2_weightsFreeFor_18 cv_X2_78 ⟨by decide, by decide⟩ (e_bar G hh h i p (by omega)) h.1 rfl rfl rfl (Nat.le_of_ble_eq_true rfl) ?_
    refine R_if_ne (tgt := 34) dX2_weightsFreeFor_21 (by decide) (fun c21 => ?_) (fun c21 => ?_)
    · refine R_iinc (y := nI (i + 1)) dX2_weightsFreeFor_34 rfl (by decide) (nI_s i) ?_
      refine R_goto (tgt := 5) dX2_weightsFreeFor_37 (by decide) ?_
      have e9 : foldS (wtF a v s p) i (d + 1) x = foldS (wtF a v s p) (i + 1) d x := by simp_all [foldS, wtF, bl]
      rw [e9]
      exact RR.pick [1, 2, 3, 4, 0] rfl (ih (i + 1) _ (by omega))
    · refine R_iload_n dX2_weightsFreeFor_24 rfl ?_
      refine R_aload_n dX2_weightsFreeFor_25 rfl ?_
      refine R_iload dX2_weightsFreeFor_26 rfl ?_
      refine R_iload_n dX2_weightsFreeFor_28 rfl ?_
      refine R_callVp dX2_weightsFreeFor_29 cv_X2_94 ⟨by decide, by decide⟩ (e_weightOf G hh h i (by omega) s) h.1 rfl rfl rfl (Nat.le_of_ble_eq_true rfl) ?_
      refine R_iadd dX2_weightsFreeFor_32 ?_
      refine R_istore_n dX2_weightsFreeFor_33 (by decide) ?_
      refine R_iinc (y := nI (i + 1)) dX2_weightsFreeFor_34 rfl (by decide) (nI_s i) ?_
      refine R_goto (tgt := 5) dX2_weightsFreeFor_37 (by decide) ?_
      have e9 : foldS (wtF a v s p) i (d + 1) x = foldS (wtF a v s p) (i + 1) d (x + wt a v i s) := by simp_all [foldS, wtF, bl]
      rw [e9]
      exact RR.pick [2, 3, 4, 1, 0] rfl (ih (i + 1) _ (by omega))
set_option maxRecDepth 4000 in
theorem e_weightsFree (G : GG) (hh : HH) {k : Nat} {a : AA} {v : VV} (h : StAt G hh k a v) {n : Nat} (hn : n ≤ 6) (hv : v 8 = nI n) (s p : Int32) : EVp G mX2_weightsFreeFor [.ref (ad G k), .int s, .int p] hh (foldS (wtF a v s p) 0 n 0) := by
  refine EV.of [(0, .ref (ad G k)), (1, .int s), (2, .int p)] (by decide +kernel) (Nat.le_of_ble_eq_true rfl) rfl ?_
  refine R_iconst (v := 0) dX2_weightsFreeFor_0 (by decide) ?_
  refine R_istore_n dX2_weightsFreeFor_1 (by decide) ?_
  refine R_iconst (v := 0) dX2_weightsFreeFor_2 (by decide) ?_
  refine R_istore dX2_weightsFreeFor_3 (by decide) ?_
  exact RR.pick [2, 3, 4, 1, 0] rfl (l_weightsFree G hh h hn hv s p n 0 0 (by omega))
set_option maxRecDepth 4000 in
theorem e_turned (G : GG) (hh : HH) (x : Int32) : EVp G mX4_turned [.int x] hh (tw x) := by
  refine EV.of [(0, .int x)] (by decide +kernel) (Nat.le_of_ble_eq_true rfl) rfl ?_
  refine R_iload_n dX4_turned_0 rfl ?_
  refine R_istore_n dX4_turned_1 (by decide) ?_
  refine R_iload_n dX4_turned_2 rfl ?_
  refine R_iload_n dX4_turned_3 rfl ?_
  refine R_bipush (v := 13) dX4_turned_4 (by decide) ?_
  refine R_ishl dX4_turned_6 ?_
  refine R_ixor dX4_turned_7 ?_
  refine R_istore_n dX4_turned_8 (by decide) ?_
  refine R_iload_n dX4_turned_9 rfl ?_
  refine R_iload_n dX4_turned_10 rfl ?_
  refine R_bipush (v := 17) dX4_turned_11 (by decide) ?_
  refine R_iushr dX4_turned_13 ?_
  refine R_ixor dX4_turned_14 ?_
  refine R_istore_n dX4_turned_15 (by decide) ?_
  refine R_iload_n dX4_turned_16 rfl ?_
  refine R_iload_n dX4_turned_17 rfl ?_
  refine R_iconst (v := 5) dX4_turned_18 (by decide) ?_
  refine R_ishl dX4_turned_19 ?_
  refine R_ixor dX4_turned_20 ?_
  refine R_istore_n dX4_turned_21 (by decide) ?_
  refine R_iload_n dX4_turned_22 rfl ?_
  exact R_iret dX4_turned_23 rfl (⟨_, rfl, rfl, rfl⟩)
def reach (g : Nat → Int32) (x : Int32) : Nat → Nat → Nat
  | _, 0 => 0
  | i, d + 1 => if x < g i then i else reach g x (i + 1) d
set_option maxRecDepth 4000 in
theorem l_judgeReaching (G : GG) (hh : HH) {k : Nat} {a : AA} {v : VV} (h : StAt G hh k a v) {n : Nat} (hn : n ≤ 6) (hv : v 8 = nI n) (x : Int32) : ∀ (d i : Nat), i + d = n → RR G mX2_judgeReaching 2 [(0, .ref (ad G k)), (1, .int x), (2, .int (nI i))] [] hh (fun r h => ∃ w, r = some (.int w) ∧ (w = nI (reach (a 7) x i d) ∧ h = hh)) := by
  intro d
  induction d with
  | zero =>
    intro i hi
    refine R_iload_n dX2_judgeReaching_2 rfl ?_
    refine R_aload_n dX2_judgeReaching_3 rfl ?_
    refine R_get dX2_judgeReaching_4 gf_X2_52 h.1 rfl ?_
    refine R_icmp_ge (tgt := 28) dX2_judgeReaching_7 (by decide) (fun c7 => ?_) (fun c7 => absurd (by rw [hv]; exact nI_le (by omega) (by omega)) c7)
    refine R_iconst (v := 0) dX2_judgeReaching_28 (by decide) ?_
    exact R_iret dX2_judgeReaching_29 rfl (⟨_, rfl, rfl, rfl⟩)
  | succ d ih =>
    intro i hi
    refine R_iload_n dX2_judgeReaching_2 rfl ?_
    refine R_aload_n dX2_judgeReaching_3 rfl ?_
    refine R_get dX2_judgeReaching_4 gf_X2_52 h.1 rfl ?_
    refine R_icmp_ge (tgt := 28) dX2_judgeReaching_7 (by decide) (fun c7 => absurd c7 (by rw [hv]; exact nI_ge (by omega) (by omega))) (fun c7 => ?_)
    refine R_aload_n dX2_judgeReaching_10 rfl ?_
    refine R_get dX2_judgeReaching_11 gf_X2_33 h.1 rfl ?_
    refine R_iload_n dX2_judgeReaching_14 rfl ?_
    refine R_ialdN dX2_judgeReaching_15 h.a7 (by omega) (by decide) ?_
    refine R_iload_n dX2_judgeReaching_16 rfl ?_
    refine R_icmp_le (tgt := 22) dX2_judgeReaching_17 (by decide) (fun c17 => ?_) (fun c17 => ?_)
    · refine R_iinc (y := nI (i + 1)) dX2_judgeReaching_22 rfl (by decide) (nI_s i) ?_
      refine R_goto (tgt := 2) dX2_judgeReaching_25 (by decide) ?_
      have e9 : reach (a 7) x i (d + 1) = reach (a 7) x (i + 1) d := by simp only [reach]; rw [if_neg (by simpa using c17)]
      rw [e9]
      exact RR.pick [1, 2, 0] rfl (ih (i + 1) (by omega))
    · refine R_iload_n dX2_judgeReaching_20 rfl ?_
      exact R_iret dX2_judgeReaching_21 rfl (⟨_, rfl, by simp only [reach]; rw [if_pos (by simpa using c17)], rfl⟩)
set_option maxRecDepth 4000 in
theorem e_judgeReaching (G : GG) (hh : HH) {k : Nat} {a : AA} {v : VV} (h : StAt G hh k a v) {n : Nat} (hn : n ≤ 6) (hv : v 8 = nI n) (x : Int32) : EVp G mX2_judgeReaching [.ref (ad G k), .int x] hh (nI (reach (a 7) x 0 n)) := by
  refine EV.of [(0, .ref (ad G k)), (1, .int x)] (by decide +kernel) (Nat.le_of_ble_eq_true rfl) rfl ?_
  refine R_iconst (v := 0) dX2_judgeReaching_0 (by decide) ?_
  refine R_istore_n dX2_judgeReaching_1 (by decide) ?_
  exact RR.pick [1, 2, 0] rfl (l_judgeReaching G hh h hn hv x n 0 (by omega))
