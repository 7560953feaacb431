def cwO (G : GG) : va_E := .inr (4, [.ref (ad G 1), .ref (ad G 3), .ref (ad G 5), .ref (ad G 12), .ref (ad G 13), .ref (ad G 14), .ref (ad G 23), .ref (ad G 32), .ref (ad G 41), .ref (ad G 50), .ref (ad G 124), .ref (ad G 143)])
/-- nothing differs but in some spans -/
def FrS (l : List (Nat × Nat)) (hh hh' : HH) : Prop := ∀ i, (∀ p ∈ l, i < p.1 ∨ p.2 ≤ i) → hh' i = hh i
theorem FrS.rf {l : List (Nat × Nat)} {hh : HH} : FrS l hh hh := fun _ _ => rfl
theorem FrS.tr {l : List (Nat × Nat)} {h1 h2 h3 : HH} (a : FrS l h1 h2) (b : FrS l h2 h3) : FrS l h1 h3 := fun i hi => (b i hi).trans (a i hi)
theorem FrS.t1 {l : List (Nat × Nat)} {lo hi : Nat} {h1 h2 h3 : HH} (a : FrS l h1 h2) (b : Fr lo hi h2 h3) (hm : ∃ p ∈ l, p.1 ≤ lo ∧ hi ≤ p.2) : FrS l h1 h3 := fun i hi' => by
  obtain ⟨p, hp, q1, q2⟩ := hm
  have := hi' p hp
  exact (b i (by omega)).trans (a i hi')
theorem ix_in {x : Int32} {n : Nat} (hn : n < 2 ^ 31) (h1 : ¬ x < 0) (h2 : x < nI n) : ∃ i, i < n ∧ x = nI i := by
  rcases pk_ix x hn with q | q | q
  · exact absurd q h1
  · exact absurd h2 (Int32.not_lt.mpr q)
  · exact q
theorem rg_in {x : Int32} {n : Nat} (hn : n < 2 ^ 31) (h : ¬ bl (decide (0 ≤ x ∧ x < nI n)) = 0) : ∃ i, i < n ∧ x = nI i := by
  have q : 0 ≤ x ∧ x < nI n := by simpa [bl] using h
  exact ix_in hn (Int32.not_lt.mpr q.1) q.2
theorem sw_3_0 (x : Int32) (h : ¬ (x.toInt < 0 ∨ 2 < x.toInt)) : x = 0 ∨ x = 1 ∨ x = 2 := by
  have e : x.toInt = 0 ∨ x.toInt = 1 ∨ x.toInt = 2 := by omega
  rcases e with e | e | e
  · exact Or.inl (Int32.toInt_inj.mp e)
  · exact Or.inr (Or.inl (Int32.toInt_inj.mp e))
  · exact Or.inr (Or.inr (Int32.toInt_inj.mp e))
theorem sw_6_0 (x : Int32) (h : ¬ (x.toInt < 0 ∨ 5 < x.toInt)) : x = 0 ∨ x = 1 ∨ x = 2 ∨ x = 3 ∨ x = 4 ∨ x = 5 := by
  have e : x.toInt = 0 ∨ x.toInt = 1 ∨ x.toInt = 2 ∨ x.toInt = 3 ∨ x.toInt = 4 ∨ x.toInt = 5 := by omega
  rcases e with e | e | e | e | e | e
  · exact Or.inl (Int32.toInt_inj.mp e)
  · exact Or.inr (Or.inl (Int32.toInt_inj.mp e))
  · exact Or.inr (Or.inr (Or.inl (Int32.toInt_inj.mp e)))
  · exact Or.inr (Or.inr (Or.inr (Or.inl (Int32.toInt_inj.mp e))))
  · exact Or.inr (Or.inr (Or.inr (Or.inr (Or.inl (Int32.toInt_inj.mp e)))))
  · exact Or.inr (Or.inr (Or.inr (Or.inr (Or.inr (Int32.toInt_inj.mp e)))))
theorem sw_10_0 (x : Int32) (h : ¬ (x.toInt < 0 ∨ 9 < x.toInt)) : x = 0 ∨ x = 1 ∨ x = 2 ∨ x = 3 ∨ x = 4 ∨ x = 5 ∨ x = 6 ∨ x = 7 ∨ x = 8 ∨ x = 9 := by
  have e : x.toInt = 0 ∨ x.toInt = 1 ∨ x.toInt = 2 ∨ x.toInt = 3 ∨ x.toInt = 4 ∨ x.toInt = 5 ∨ x.toInt = 6 ∨ x.toInt = 7 ∨ x.toInt = 8 ∨ x.toInt = 9 := by omega
  rcases e with e | e | e | e | e | e | e | e | e | e
  · exact Or.inl (Int32.toInt_inj.mp e)
  · exact Or.inr (Or.inl (Int32.toInt_inj.mp e))
  · exact Or.inr (Or.inr (Or.inl (Int32.toInt_inj.mp e)))
  · exact Or.inr (Or.inr (Or.inr (Or.inl (Int32.toInt_inj.mp e))))
  · exact Or.inr (Or.inr (Or.inr (Or.inr (Or.inl (Int32.toInt_inj.mp e)))))
  · exact Or.inr (Or.inr (Or.inr (Or.inr (Or.inr (Or.inl (Int32.toInt_inj.mp e))))))
  · exact Or.inr (Or.inr (Or.inr (Or.inr (Or.inr (Or.inr (Or.inl (Int32.toInt_inj.mp e)))))))
  · exact Or.inr (Or.inr (Or.inr (Or.inr (Or.inr (Or.inr (Or.inr (Or.inl (Int32.toInt_inj.mp e))))))))
  · exact Or.inr (Or.inr (Or.inr (Or.inr (Or.inr (Or.inr (Or.inr (Or.inr (Or.inl (Int32.toInt_inj.mp e)))))))))
  · exact Or.inr (Or.inr (Or.inr (Or.inr (Or.inr (Or.inr (Or.inr (Or.inr (Or.inr (Int32.toInt_inj.mp e)))))))))
def anJudge (a : AA) (v : VV) (n m : Nat) (j w : Int32) : Int32 :=
  if 0 ≤ j ∧ j < nI n then
    if w = 0 then a 0 j.toNatClampNeg else if w = 1 then a 1 j.toNatClampNeg else if w = 2 then a 2 j.toNatClampNeg else
    if w = 3 then bl (hasB (v 9) j) else if w = 4 then a 3 j.toNatClampNeg + 100 else if w = 5 then nI (0 + ctOf a j 0 m) else -3
  else -2
def anCase (a : AA) (m : Nat) (c w : Int32) : Int32 :=
  if 0 ≤ c ∧ c < nI m then
    if w = 0 then a 4 c.toNatClampNeg else if w = 1 then a 5 c.toNatClampNeg else if w = 2 then a 6 c.toNatClampNeg else -3
  else -2
theorem vpJ {x : Int32} {n N : Nat} (hnN : n ≤ N) (hN : N < 2 ^ 31) (h : 0 ≤ x ∧ x < nI n) : vp_in x N := by
  obtain ⟨i, hi, rfl⟩ := ix_in (by omega) (Int32.not_lt.mpr h.1) h.2
  exact vp_in_nI (by omega) hN
set_option maxRecDepth 4000 in
theorem w_judge (G : GG) (hh : HH)  {a : AA} {v : VV} (hC : hAt G hh 0 (cwO G)) (nw : StAt G hh 32 a v) {n : Nat} (hn : n ≤ 6) (hv : v 8 = nI n) {m : Nat} (hm : m ≤ 20) (hc : v 14 = nI m) (j w : Int32) : EVp G mX4_judge [.ref (ad G 0), .int j, .int w] hh (anJudge a v n m j w) := by
  refine EV.of [(0, .ref (ad G 0)), (1, .int j), (2, .int w)] (by decide +kernel) (Nat.le_of_ble_eq_true rfl) rfl ?_
  refine R_aload_n dX4_judge_0 rfl ?_
  refine R_get dX4_judge_1 gf_X4_48 hC rfl ?_
  refine R_iload_n dX4_judge_4 rfl ?_
  refine R_callVp dX4_judge_5 cv_X4_100 ⟨by decide, by decide⟩ (e_hasJudge G hh nw j) nw.1 rfl rfl rfl (Nat.le_of_ble_eq_true rfl) ?_
  refine R_if_ne (tgt := 14) dX4_judge_8 (by decide) (fun c8 => ?_) (fun c8 => ?_)
  · have hj : 0 ≤ j ∧ j < nI n := by rw [hv] at c8; simpa [bl] using c8
    have hj6 : vp_in j 6 := vpJ hn (by decide) hj
    refine R_iload_n dX4_judge_14 rfl ?_
    by_cases q15 : w.toInt < 0 ∨ 5 < w.toInt
    · refine R_tabOut (tgt := 121) dX4_judge_15 q15 (by decide) ?_
      refine R_bipush (v := (-3)) dX4_judge_121 (by decide) ?_
      exact R_iret dX4_judge_123 rfl (⟨_, rfl, by rw [anJudge, if_pos hj, if_neg (by rintro rfl; revert q15; decide), if_neg (by rintro rfl; revert q15; decide), if_neg (by rintro rfl; revert q15; decide), if_neg (by rintro rfl; revert q15; decide), if_neg (by rintro rfl; revert q15; decide), if_neg (by rintro rfl; revert q15; decide)], rfl⟩)
    · rcases (show w = 0 ∨ w = 1 ∨ w = 2 ∨ w = 3 ∨ w = 4 ∨ w = 5 from sw_6_0 w q15) with e15 | e15 | e15 | e15 | e15 | e15
      · refine R_tabIn (tgt := 52) (off := 37) dX4_judge_15 (by rw [e15]; decide) (by rw [e15]; decide) (by rw [e15]; rfl) (by decide) ?_
        refine R_aload_n dX4_judge_52 rfl ?_
        refine R_get dX4_judge_53 gf_X4_48 hC rfl ?_
        refine R_get dX4_judge_56 gf_X4_103 nw.1 rfl ?_
        refine R_iload_n dX4_judge_59 rfl ?_
        refine R_iald dX4_judge_60 nw.a0 hj6 ?_
        exact R_iret dX4_judge_61 rfl (⟨_, rfl, by subst e15; rw [anJudge, if_pos hj]; simp_all [bl], rfl⟩)
      · refine R_tabIn (tgt := 62) (off := 47) dX4_judge_15 (by rw [e15]; decide) (by rw [e15]; decide) (by rw [e15]; rfl) (by decide) ?_
        refine R_aload_n dX4_judge_62 rfl ?_
        refine R_get dX4_judge_63 gf_X4_48 hC rfl ?_
        refine R_get dX4_judge_66 gf_X4_107 nw.1 rfl ?_
        refine R_iload_n dX4_judge_69 rfl ?_
        refine R_iald dX4_judge_70 nw.a1 hj6 ?_
        exact R_iret dX4_judge_71 rfl (⟨_, rfl, by subst e15; rw [anJudge, if_pos hj]; simp_all [bl], rfl⟩)
      · refine R_tabIn (tgt := 72) (off := 57) dX4_judge_15 (by rw [e15]; decide) (by rw [e15]; decide) (by rw [e15]; rfl) (by decide) ?_
        refine R_aload_n dX4_judge_72 rfl ?_
        refine R_get dX4_judge_73 gf_X4_48 hC rfl ?_
        refine R_get dX4_judge_76 gf_X4_110 nw.1 rfl ?_
        refine R_iload_n dX4_judge_79 rfl ?_
        refine R_iald dX4_judge_80 nw.a2 hj6 ?_
        exact R_iret dX4_judge_81 rfl (⟨_, rfl, by subst e15; rw [anJudge, if_pos hj]; simp_all [bl], rfl⟩)
      · refine R_tabIn (tgt := 82) (off := 67) dX4_judge_15 (by rw [e15]; decide) (by rw [e15]; decide) (by rw [e15]; rfl) (by decide) ?_
        refine R_aload_n dX4_judge_82 rfl ?_
        refine R_get dX4_judge_83 gf_X4_48 hC rfl ?_
        refine R_iload_n dX4_judge_86 rfl ?_
        refine R_callVp dX4_judge_87 cv_X4_113 ⟨by decide, by decide⟩ (e_isAway G hh nw j) nw.1 rfl rfl rfl (Nat.le_of_ble_eq_true rfl) ?_
        refine R_if_eq (tgt := 97) dX4_judge_90 (by decide) (fun c90 => ?_) (fun c90 => ?_)
        · refine R_iconst (v := 0) dX4_judge_97 (by decide) ?_
          exact R_iret dX4_judge_98 rfl (⟨_, rfl, by subst e15; rw [anJudge, if_pos hj]; revert c90; cases hasB (v 9) j <;> simp [bl], rfl⟩)
        · refine R_iconst (v := 1) dX4_judge_93 (by decide) ?_
          refine R_goto (tgt := 98) dX4_judge_94 (by decide) ?_
          exact R_iret dX4_judge_98 rfl (⟨_, rfl, by subst e15; rw [anJudge, if_pos hj]; revert c90; cases hasB (v 9) j <;> simp [bl], rfl⟩)
      · refine R_tabIn (tgt := 99) (off := 84) dX4_judge_15 (by rw [e15]; decide) (by rw [e15]; decide) (by rw [e15]; rfl) (by decide) ?_
        refine R_aload_n dX4_judge_99 rfl ?_
        refine R_get dX4_judge_100 gf_X4_48 hC rfl ?_
        refine R_get dX4_judge_103 gf_X4_116 nw.1 rfl ?_
        refine R_iload_n dX4_judge_106 rfl ?_
        refine R_iald dX4_judge_107 nw.a3 hj6 ?_
        refine R_bipush (v := 100) dX4_judge_108 (by decide) ?_
        refine R_iadd dX4_judge_110 ?_
        exact R_iret dX4_judge_111 rfl (⟨_, rfl, by subst e15; rw [anJudge, if_pos hj]; simp_all [bl], rfl⟩)
      · refine R_tabIn (tgt := 112) (off := 97) dX4_judge_15 (by rw [e15]; decide) (by rw [e15]; decide) (by rw [e15]; rfl) (by decide) ?_
        refine R_aload_n dX4_judge_112 rfl ?_
        refine R_get dX4_judge_113 gf_X4_48 hC rfl ?_
        refine R_iload_n dX4_judge_116 rfl ?_
        refine R_callVp dX4_judge_117 cv_X4_119 ⟨by decide, by decide⟩ (e_casesOf G hh nw hm hc j) nw.1 rfl rfl rfl (Nat.le_of_ble_eq_true rfl) ?_
        exact R_iret dX4_judge_120 rfl (⟨_, rfl, by subst e15; rw [anJudge, if_pos hj]; simp_all [bl], rfl⟩)
  · refine R_bipush (v := (-2)) dX4_judge_11 (by decide) ?_
    exact R_iret dX4_judge_13 rfl (⟨_, rfl, by rw [anJudge, if_neg (by rw [hv] at c8; simpa [bl] using c8)], rfl⟩)
set_option maxRecDepth 4000 in
theorem w_caseOf (G : GG) (hh : HH)  {a : AA} {v : VV} (hC : hAt G hh 0 (cwO G)) (nw : StAt G hh 32 a v) {m : Nat} (hm : m ≤ 20) (hc : v 14 = nI m) (c w : Int32) : EVp G mX4_caseOf [.ref (ad G 0), .int c, .int w] hh (anCase a m c w) := by
  refine EV.of [(0, .ref (ad G 0)), (1, .int c), (2, .int w)] (by decide +kernel) (Nat.le_of_ble_eq_true rfl) rfl ?_
  refine R_aload_n dX4_caseOf_0 rfl ?_
  refine R_get dX4_caseOf_1 gf_X4_48 hC rfl ?_
  refine R_iload_n dX4_caseOf_4 rfl ?_
  refine R_callVp dX4_caseOf_5 cv_X4_123 ⟨by decide, by decide⟩ (e_hasCase G hh nw c) nw.1 rfl rfl rfl (Nat.le_of_ble_eq_true rfl) ?_
  refine R_if_ne (tgt := 14) dX4_caseOf_8 (by decide) (fun c8 => ?_) (fun c8 => ?_)
  · have hj : 0 ≤ c ∧ c < nI m := by rw [hc] at c8; simpa [bl] using c8
    have hj6 : vp_in c 20 := vpJ hm (by decide) hj
    refine R_iload_n dX4_caseOf_14 rfl ?_
    by_cases q15 : w.toInt < 0 ∨ 2 < w.toInt
    · refine R_tabOut (tgt := 70) dX4_caseOf_15 q15 (by decide) ?_
      refine R_bipush (v := (-3)) dX4_caseOf_70 (by decide) ?_
      exact R_iret dX4_caseOf_72 rfl (⟨_, rfl, by rw [anCase, if_pos hj, if_neg (by rintro rfl; revert q15; decide), if_neg (by rintro rfl; revert q15; decide), if_neg (by rintro rfl; revert q15; decide)], rfl⟩)
    · rcases (show w = 0 ∨ w = 1 ∨ w = 2 from sw_3_0 w q15) with e15 | e15 | e15
      · refine R_tabIn (tgt := 40) (off := 25) dX4_caseOf_15 (by rw [e15]; decide) (by rw [e15]; decide) (by rw [e15]; rfl) (by decide) ?_
        refine R_aload_n dX4_caseOf_40 rfl ?_
        refine R_get dX4_caseOf_41 gf_X4_48 hC rfl ?_
        refine R_get dX4_caseOf_44 gf_X4_126 nw.1 rfl ?_
        refine R_iload_n dX4_caseOf_47 rfl ?_
        refine R_iald dX4_caseOf_48 nw.a4 hj6 ?_
        exact R_iret dX4_caseOf_49 rfl (⟨_, rfl, by subst e15; rw [anCase, if_pos hj]; simp, rfl⟩)
      · refine R_tabIn (tgt := 50) (off := 35) dX4_caseOf_15 (by rw [e15]; decide) (by rw [e15]; decide) (by rw [e15]; rfl) (by decide) ?_
        refine R_aload_n dX4_caseOf_50 rfl ?_
        refine R_get dX4_caseOf_51 gf_X4_48 hC rfl ?_
        refine R_get dX4_caseOf_54 gf_X4_129 nw.1 rfl ?_
        refine R_iload_n dX4_caseOf_57 rfl ?_
        refine R_iald dX4_caseOf_58 nw.a5 hj6 ?_
        exact R_iret dX4_caseOf_59 rfl (⟨_, rfl, by subst e15; rw [anCase, if_pos hj]; simp, rfl⟩)
      · refine R_tabIn (tgt := 60) (off := 45) dX4_caseOf_15 (by rw [e15]; decide) (by rw [e15]; decide) (by rw [e15]; rfl) (by decide) ?_
        refine R_aload_n dX4_caseOf_60 rfl ?_
        refine R_get dX4_caseOf_61 gf_X4_48 hC rfl ?_
        refine R_get dX4_caseOf_64 gf_X4_132 nw.1 rfl ?_
        refine R_iload_n dX4_caseOf_67 rfl ?_
        refine R_iald dX4_caseOf_68 nw.a6 hj6 ?_
        exact R_iret dX4_caseOf_69 rfl (⟨_, rfl, by subst e15; rw [anCase, if_pos hj]; simp, rfl⟩)
  · refine R_bipush (v := (-2)) dX4_caseOf_11 (by decide) ?_
    exact R_iret dX4_caseOf_13 rfl (⟨_, rfl, by rw [anCase, if_neg (by rw [hc] at c8; simpa [bl] using c8)], rfl⟩)
def anWeight (a : AA) (v : VV) (n : Nat) (j s : Int32) : Int32 := if 0 ≤ j ∧ j < nI n then (if 0 ≤ s ∧ s < 5 then wt a v j.toNatClampNeg s else -3) else -2
set_option maxRecDepth 4000 in
theorem w_weight (G : GG) (hh : HH)  {a : AA} {v : VV} (hC : hAt G hh 0 (cwO G)) (nw : StAt G hh 32 a v) {n : Nat} (hn : n ≤ 6) (hv : v 8 = nI n) (j s : Int32) : EVp G mX4_weight [.ref (ad G 0), .int j, .int s] hh (anWeight a v n j s) := by
  refine EV.of [(0, .ref (ad G 0)), (1, .int j), (2, .int s)] (by decide +kernel) (Nat.le_of_ble_eq_true rfl) rfl ?_
  refine R_aload_n dX4_weight_0 rfl ?_
  refine R_get dX4_weight_1 gf_X4_48 hC rfl ?_
  refine R_iload_n dX4_weight_4 rfl ?_
  refine R_callVp dX4_weight_5 cv_X4_100 ⟨by decide, by decide⟩ (e_hasJudge G hh nw j) nw.1 rfl rfl rfl (Nat.le_of_ble_eq_true rfl) ?_
  refine R_if_ne (tgt := 14) dX4_weight_8 (by decide) (fun c8 => ?_) (fun c8 => ?_)
  · obtain ⟨i, hi, rfl⟩ := ix_in (n := n) (by omega) (Int32.not_lt.mpr (show 0 ≤ j ∧ j < nI n from by rw [hv] at c8; simpa [bl] using c8).1) (show 0 ≤ j ∧ j < nI n from by rw [hv] at c8; simpa [bl] using c8).2
    refine R_iload_n dX4_weight_14 rfl ?_
    refine R_callSp dX4_weight_15 cs_X4_144 ⟨by decide, by decide⟩ (e_isSubject G hh s) rfl rfl (Nat.le_of_ble_eq_true rfl) ?_
    refine R_if_eq (tgt := 33) dX4_weight_18 (by decide) (fun c18 => ?_) (fun c18 => ?_)
    · refine R_bipush (v := (-3)) dX4_weight_33 (by decide) ?_
      exact R_iret dX4_weight_35 rfl (⟨_, rfl, by rw [anWeight, if_pos (by rw [hv] at c8; simpa [bl] using c8), if_neg (by simpa [bl] using c18)], rfl⟩)
    · refine R_aload_n dX4_weight_21 rfl ?_
      refine R_get dX4_weight_22 gf_X4_48 hC rfl ?_
      refine R_iload_n dX4_weight_25 rfl ?_
      refine R_iload_n dX4_weight_26 rfl ?_
      refine R_callVp dX4_weight_27 cv_X4_183 ⟨by decide, by decide⟩ (e_weightOf G hh nw i (by omega) s) nw.1 rfl rfl rfl (Nat.le_of_ble_eq_true rfl) ?_
      refine R_goto (tgt := 35) dX4_weight_30 (by decide) ?_
      exact R_iret dX4_weight_35 rfl (⟨_, rfl, by rw [anWeight, if_pos (by rw [hv] at c8; simpa [bl] using c8), if_pos (by simpa [bl] using c18), nI_clamp (by omega)], rfl⟩)
  · refine R_bipush (v := (-2)) dX4_weight_11 (by decide) ?_
    exact R_iret dX4_weight_13 rfl (⟨_, rfl, by rw [anWeight, if_neg (by rw [hv] at c8; simpa [bl] using c8)], rfl⟩)
