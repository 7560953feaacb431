theorem inB_d {x hi : Int32} {h : Int} (e : hi.toInt = h + 1) : inB x.toInt 0 h = decide (0 ≤ x ∧ x < hi) := by
  unfold inB
  rw [decide_eq_decide, Int32.le_iff_toInt_le, Int32.lt_iff_toInt_lt, e]
  have : (0 : Int32).toInt = 0 := rfl
  omega
theorem inB_g {x lo hi : Int32} {l h : Int} (e1 : lo.toInt = l) (e : hi.toInt = h) : inB x.toInt l h = decide (lo ≤ x ∧ x ≤ hi) := by
  unfold inB
  rw [decide_eq_decide, Int32.le_iff_toInt_le, Int32.le_iff_toInt_le, e, e1]
theorem inB_n {x hi : Int32} {h : Int} (e : hi.toInt = h) : inB x.toInt 0 h = decide (¬ x < 0 ∧ x ≤ hi) := by
  rw [inB_g (lo := 0) (l := 0) rfl e, decide_eq_decide, Int32.not_lt]

theorem d_isSubject (G : GG) (hh : HH) (x : Int32) : EVp G mX5_isSubject [.int x] hh (bl (decide (0 ≤ x ∧ x < 5))) := by
  have e := m_isSubject G hh x
  rw [inB_d (hi := 5) rfl] at e
  exact e
theorem d_isParty (G : GG) (hh : HH) (x : Int32) : EVp G mX5_isParty [.int x] hh (bl (decide (0 ≤ x ∧ x < 10))) := by
  have e := m_isParty G hh x
  rw [inB_d (hi := 10) rfl] at e
  exact e
theorem d_isSlip (G : GG) (hh : HH) (x : Int32) : EVp G mX5_isSlip [.int x] hh (bl (decide (0 ≤ x ∧ x < 3))) := by
  have e := m_isSlip G hh x
  rw [inB_d (hi := 3) rfl] at e
  exact e
theorem d_isSmall (G : GG) (hh : HH) (x : Int32) : EVp G mX5_isSmall [.int x] hh (bl (smB x)) := by
  have e := m_isSmall G hh x
  rw [inB_g (lo := 97) (hi := 122) (l := 97) (h := 122) rfl rfl] at e
  exact e
theorem d_isDigit (G : GG) (hh : HH) (x : Int32) : EVp G mX5_isDigit [.int x] hh (bl (dgB x)) := by
  have e := m_isDigit G hh x
  rw [inB_g (lo := 48) (hi := 57) (l := 48) (h := 57) rfl rfl] at e
  exact e
theorem d_isJudge (G : GG) (hh : HH) {k : Nat} {a : AA} {v : VV} (h : MdAt G hh k a v) {n : Nat} (hn : n ≤ 6) (hv : v 1 = nI n) (j : Int32) : EVp G mX5_isJudge [.ref (ad G k), .int j] hh (bl (decide (0 ≤ j ∧ j < nI n))) := by
  have e := m_isJudge G hh h hn hv j
  rw [inB_d (hi := nI n) (by rw [nI_toInt (by omega)]; omega)] at e
  exact e
theorem d_isCase (G : GG) (hh : HH) {k : Nat} {a : AA} {v : VV} (h : MdAt G hh k a v) {m : Nat} (hm : m ≤ 20) (hc : a 0 3 = nI m) (j : Int32) : EVp G mX5_isCase [.ref (ad G k), .int j] hh (bl (decide (0 ≤ j ∧ j < nI m))) := by
  have e := m_isCase G hh h hm hc j
  rw [inB_d (hi := nI m) (by rw [nI_toInt (by omega)]; omega)] at e
  exact e
theorem d_in01 (G : GG) (hh : HH) (x : Int32) : EVp G mX5_in [.long x.toInt64, .long 0, .long 1] hh (bl (decide (¬ x < 0 ∧ x ≤ 1))) := by
  have e := e_inI G hh x (lo := 0) (hi := 1) (l := 0) (r := 1) rfl rfl
  rw [inB_n (hi := 1) (h := 1) rfl] at e
  exact e
theorem d_in07 (G : GG) (hh : HH) (x : Int32) : EVp G mX5_in [.long x.toInt64, .long 0, .long 7] hh (bl (decide (0 ≤ x ∧ x < 8))) := by
  have e := e_inI G hh x (lo := 0) (hi := 7) (l := 0) (r := 7) rfl rfl
  rw [inB_d (hi := 8) rfl] at e
  exact e
theorem d_in120 (G : GG) (hh : HH) (x : Int32) : EVp G mX5_in [.long x.toInt64, .long 1, .long 20] hh (bl (decide (1 ≤ x ∧ x ≤ 20))) := by
  have e := e_inI G hh x (lo := 1) (hi := 20) (l := 1) (r := 20) rfl rfl
  rw [inB_g (lo := 1) (hi := 20) (l := 1) (h := 20) rfl rfl] at e
  exact e
theorem d_in255 (G : GG) (hh : HH) (x : Int32) : EVp G mX5_in [.long x.toInt64, .long 0, .long 255] hh (bl (decide (¬ x < 0 ∧ x ≤ 255))) := by
  have e := e_inI G hh x (lo := 0) (hi := 255) (l := 0) (r := 255) rfl rfl
  rw [inB_n (hi := 255) (h := 255) rfl] at e
  exact e
theorem dt {p : Prop} [Decidable p] (h : ¬ bl (decide p) = 0) : p := of_decide_eq_true (bl_t h)
theorem df {p : Prop} [Decidable p] (h : bl (decide p) = 0) : ¬ p := fun q => by rw [decide_eq_true q] at h; exact absurd h (by decide)
theorem dfn {p : Prop} [Decidable p] (h : ¬ ¬ bl (decide p) = 0) : ¬ p := df (Classical.not_not.mp h)
theorem and1 (x j : Int32) : x >>> (j &&& 31) &&& 1 = bl (hasB x j) := by
  unfold hasB bl
  rcases (show x >>> (j &&& 31) &&& 1 = 0 ∨ x >>> (j &&& 31) &&& 1 = 1 from by
    obtain ⟨q, hq, e⟩ := pk_andE (x >>> (j &&& 31)) (m := 1) 1 (by decide)
    rcases (show q = 0 ∨ q = 1 by omega) with rfl | rfl
    · exact Or.inl e
    · exact Or.inr e) with e | e
  · rw [e]; simp
  · rw [e]; simp
set_option maxRecDepth 4000 in
theorem l_mjudge (G : GG) (hh : HH) {k : Nat} {a : AA} {v : VV} (h : MdAt G hh k a v) {m : Nat} (hm : m ≤ 20) (hc : a 0 3 = nI m) (j w : Int32) : ∀ (d i s : Nat), i + d = m → RR G mX5_judge 104 [(0, .ref (ad G k)), (1, .int j), (2, .int w), (3, .int (nI s)), (4, .int (nI i))] [] hh (fun r h => ∃ w, r = some (.int w) ∧ (w = nI (s + ctOf (mA a 0) j i d) ∧ h = hh)) := by
  intro d
  induction d with
  | zero =>
    intro i s hi
    refine R_iload dX5_judge_104 rfl ?_
    refine R_aload_n dX5_judge_106 rfl ?_
    refine R_get dX5_judge_107 gf_X5_7 h.1 rfl ?_
    refine R_iconst (v := 3) dX5_judge_110 (by decide) ?_
    refine R_ialdN dX5_judge_111 h.a0 (by first | omega | decide) (by decide) ?_
    refine RR.top (y := nI (m)) (hc) ?_
    refine R_icmp_ge (tgt := 143) dX5_judge_112 (by decide) (fun c112 => ?_) (fun c112 => absurd (nI_le (by omega) (by omega)) c112)
    refine R_iload_n dX5_judge_143 rfl ?_
    exact R_iret dX5_judge_144 rfl (⟨_, rfl, by simp [ctOf], rfl⟩)
  | succ d ih =>
    intro i s hi
    refine R_iload dX5_judge_104 rfl ?_
    refine R_aload_n dX5_judge_106 rfl ?_
    refine R_get dX5_judge_107 gf_X5_7 h.1 rfl ?_
    refine R_iconst (v := 3) dX5_judge_110 (by decide) ?_
    refine R_ialdN dX5_judge_111 h.a0 (by first | omega | decide) (by decide) ?_
    refine RR.top (y := nI (m)) (hc) ?_
    refine R_icmp_ge (tgt := 143) dX5_judge_112 (by decide) (fun c112 => absurd c112 (nI_ge (by omega) (by omega))) (fun c112 => ?_)
    refine R_iload_n dX5_judge_115 rfl ?_
    refine R_aload_n dX5_judge_116 rfl ?_
    refine R_get dX5_judge_117 gf_X5_7 h.1 rfl ?_
    refine R_bipush (v := 57) dX5_judge_120 (by decide) ?_
    refine R_iload dX5_judge_122 rfl ?_
    refine R_iadd dX5_judge_124 ?_
    refine RR.top (y := nI (57 + i)) (nI_add (57) (i)) ?_
    refine R_ialdN dX5_judge_125 h.a0 (by first | omega | decide) (by decide) ?_
    refine R_iload_n dX5_judge_126 rfl ?_
    refine R_icmp_ne (tgt := 134) dX5_judge_127 (by decide) (fun c127 => ?_) (fun c127 => ?_)
    · refine R_iconst (v := 0) dX5_judge_134 (by decide) ?_
      refine R_iadd dX5_judge_135 ?_
      refine RR.top (y := nI s) (Int32.add_zero _) ?_
      refine R_istore_n dX5_judge_136 (by decide) ?_
      refine R_iinc (y := nI (i + 1)) dX5_judge_137 rfl (by decide) (nI_s (i)) ?_
      refine R_goto (tgt := 104) dX5_judge_140 (by decide) ?_
      have e9 : s + ctOf (mA a 0) j i (d + 1) = s + ctOf (mA a 0) j (i + 1) d := by simp only [ctOf]; rw [if_neg (by show ¬ a 0 (0 + 57 + i) = j; rw [show 0 + 57 + i = 57 + i by omega]; exact c127)]; omega
      rw [e9]
      exact RR.pick [2, 3, 4, 1, 0] rfl (ih (i + 1) s (by omega))
    · refine R_iconst (v := 1) dX5_judge_130 (by decide) ?_
      refine R_goto (tgt := 135) dX5_judge_131 (by decide) ?_
      refine R_iadd dX5_judge_135 ?_
      refine RR.top (y := nI (s + 1)) (nI_1 s) ?_
      refine R_istore_n dX5_judge_136 (by decide) ?_
      refine R_iinc (y := nI (i + 1)) dX5_judge_137 rfl (by decide) (nI_s (i)) ?_
      refine R_goto (tgt := 104) dX5_judge_140 (by decide) ?_
      have e9 : s + ctOf (mA a 0) j i (d + 1) = s + 1 + ctOf (mA a 0) j (i + 1) d := by simp only [ctOf]; rw [if_pos (by show a 0 (0 + 57 + i) = j; rw [show 0 + 57 + i = 57 + i by omega]; exact Classical.not_not.mp c127)]; omega
      rw [e9]
      exact RR.pick [2, 3, 4, 1, 0] rfl (ih (i + 1) (s + 1) (by omega))
set_option maxRecDepth 4000 in
theorem m_judge (G : GG) (hh : HH) {k : Nat} {a : AA} {v : VV} (h : MdAt G hh k a v) {n : Nat} (hn : n ≤ 6) (hv : v 1 = nI n) {m : Nat} (hm : m ≤ 20) (hc : a 0 3 = nI m) (j w : Int32) : EVp G mX5_judge [.ref (ad G k), .int j, .int w] hh (anJudge (mA a 0) (mV a v 0) n m j w) := by
  refine EV.of [(0, .ref (ad G k)), (1, .int j), (2, .int w)] (by decide +kernel) (Nat.le_of_ble_eq_true rfl) rfl ?_
  refine R_aload_n dX5_judge_0 rfl ?_
  refine R_iload_n dX5_judge_1 rfl ?_
  refine R_callVp dX5_judge_2 cv_X5_139 ⟨by decide, by decide⟩ (d_isJudge G hh h hn hv j) h.1 rfl rfl rfl (Nat.le_of_ble_eq_true rfl) ?_
  refine R_if_ne (tgt := 11) dX5_judge_5 (by decide) (fun c5 => ?_) (fun c5 => ?_)
  · have hj : 0 ≤ j ∧ j < nI n := dt c5
    obtain ⟨i, hi, rfl⟩ := ix_in (n := n) (by omega) (Int32.not_lt.mpr hj.1) hj.2
    have ec : (nI i).toNatClampNeg = i := nI_clamp (by omega)
    refine R_iload_n dX5_judge_11 rfl ?_
    by_cases q12 : w.toInt < 0 ∨ 5 < w.toInt
    · refine R_tabOut (tgt := 145) dX5_judge_12 q12 (by decide) ?_
      refine R_bipush (v := (-3)) dX5_judge_145 (by decide) ?_
      exact R_iret dX5_judge_147 rfl (⟨_, rfl, by rw [anJudge, if_pos hj, if_neg (by rintro rfl; revert q12; decide), if_neg (by rintro rfl; revert q12; decide), if_neg (by rintro rfl; revert q12; decide), if_neg (by rintro rfl; revert q12; decide), if_neg (by rintro rfl; revert q12; decide), if_neg (by rintro rfl; revert q12; decide)], rfl⟩)
    · rcases (show w = 0 ∨ w = 1 ∨ w = 2 ∨ w = 3 ∨ w = 4 ∨ w = 5 from sw_6_0 w q12) with e12 | e12 | e12 | e12 | e12 | e12
      · refine R_tabIn (tgt := 52) (off := 40) dX5_judge_12 (by rw [e12]; decide) (by rw [e12]; decide) (by rw [e12]; rfl) (by decide) ?_
        refine R_aload_n dX5_judge_52 rfl ?_
        refine R_get dX5_judge_53 gf_X5_13 h.1 rfl ?_
        refine R_iload_n dX5_judge_56 rfl ?_
        refine R_ialdN dX5_judge_57 h.a3 (by first | omega | decide) (by decide) ?_
        exact R_iret dX5_judge_58 rfl (⟨_, rfl, by (subst e12; rw [anJudge, if_pos hj, if_pos rfl, ec]; simp [mA]), rfl⟩)
      · refine R_tabIn (tgt := 59) (off := 47) dX5_judge_12 (by rw [e12]; decide) (by rw [e12]; decide) (by rw [e12]; rfl) (by decide) ?_
        refine R_aload_n dX5_judge_59 rfl ?_
        refine R_get dX5_judge_60 gf_X5_16 h.1 rfl ?_
        refine R_iload_n dX5_judge_63 rfl ?_
        refine R_ialdN dX5_judge_64 h.a4 (by first | omega | decide) (by decide) ?_
        exact R_iret dX5_judge_65 rfl (⟨_, rfl, by (subst e12; rw [anJudge, if_pos hj, if_neg (by decide), if_pos rfl, ec]; simp [mA]), rfl⟩)
      · refine R_tabIn (tgt := 66) (off := 54) dX5_judge_12 (by rw [e12]; decide) (by rw [e12]; decide) (by rw [e12]; rfl) (by decide) ?_
        refine R_aload_n dX5_judge_66 rfl ?_
        refine R_get dX5_judge_67 gf_X5_7 h.1 rfl ?_
        refine R_iconst (v := 5) dX5_judge_70 (by decide) ?_
        refine R_iload_n dX5_judge_71 rfl ?_
        refine R_iadd dX5_judge_72 ?_
        refine RR.top (y := nI (5 + i)) (nI_add (5) (i)) ?_
        refine R_ialdN dX5_judge_73 h.a0 (by first | omega | decide) (by decide) ?_
        exact R_iret dX5_judge_74 rfl (⟨_, rfl, by (subst e12; rw [anJudge, if_pos hj, if_neg (by decide), if_neg (by decide), if_pos rfl, ec]; simp [mA]), rfl⟩)
      · refine R_tabIn (tgt := 75) (off := 63) dX5_judge_12 (by rw [e12]; decide) (by rw [e12]; decide) (by rw [e12]; rfl) (by decide) ?_
        refine R_aload_n dX5_judge_75 rfl ?_
        refine R_get dX5_judge_76 gf_X5_7 h.1 rfl ?_
        refine R_iconst (v := 4) dX5_judge_79 (by decide) ?_
        refine R_ialdN dX5_judge_80 h.a0 (by first | omega | decide) (by decide) ?_
        refine R_iload_n dX5_judge_81 rfl ?_
        refine R_ishr dX5_judge_82 ?_
        refine R_iconst (v := 1) dX5_judge_83 (by decide) ?_
        refine R_iand dX5_judge_84 ?_
        exact R_iret dX5_judge_85 rfl (⟨_, rfl, by (subst e12; rw [anJudge, if_pos hj, if_neg (by decide), if_neg (by decide), if_neg (by decide), if_pos rfl]; exact and1 _ _), rfl⟩)
      · refine R_tabIn (tgt := 86) (off := 74) dX5_judge_12 (by rw [e12]; decide) (by rw [e12]; decide) (by rw [e12]; rfl) (by decide) ?_
        refine R_aload_n dX5_judge_86 rfl ?_
        refine R_get dX5_judge_87 gf_X5_7 h.1 rfl ?_
        refine R_bipush (v := 11) dX5_judge_90 (by decide) ?_
        refine R_iload_n dX5_judge_92 rfl ?_
        refine R_iadd dX5_judge_93 ?_
        refine RR.top (y := nI (11 + i)) (nI_add (11) (i)) ?_
        refine R_ialdN dX5_judge_94 h.a0 (by first | omega | decide) (by decide) ?_
        refine R_bipush (v := 100) dX5_judge_95 (by decide) ?_
        refine R_iadd dX5_judge_97 ?_
        exact R_iret dX5_judge_98 rfl (⟨_, rfl, by (subst e12; rw [anJudge, if_pos hj, if_neg (by decide), if_neg (by decide), if_neg (by decide), if_neg (by decide), if_pos rfl, ec]; simp [mA]), rfl⟩)
      · refine R_tabIn (tgt := 99) (off := 87) dX5_judge_12 (by rw [e12]; decide) (by rw [e12]; decide) (by rw [e12]; rfl) (by decide) ?_
        refine R_iconst (v := 0) dX5_judge_99 (by decide) ?_
        refine R_istore_n dX5_judge_100 (by decide) ?_
        refine R_iconst (v := 0) dX5_judge_101 (by decide) ?_
        refine R_istore dX5_judge_102 (by decide) ?_
        refine RR.pick [2, 3, 4, 1, 0] rfl ?_
        refine RR.post (l_mjudge G hh h hm hc (nI i) w m 0 0 (by omega)) (fun r h1 hq => ?_)
        obtain ⟨y, e1, e2, rfl⟩ := hq
        exact ⟨y, e1, by (rw [e2]; subst e12; rw [anJudge, if_pos hj, if_neg (by decide), if_neg (by decide), if_neg (by decide), if_neg (by decide), if_neg (by decide), if_pos rfl]), rfl⟩
  · refine R_bipush (v := (-2)) dX5_judge_8 (by decide) ?_
    exact R_iret dX5_judge_10 rfl (⟨_, rfl, by rw [anJudge, if_neg (dfn c5)], rfl⟩)
set_option maxRecDepth 4000 in
theorem m_caseOf (G : GG) (hh : HH) {k : Nat} {a : AA} {v : VV} (h : MdAt G hh k a v) {m : Nat} (hm : m ≤ 20) (hc : a 0 3 = nI m) (c w : Int32) : EVp G mX5_caseOf [.ref (ad G k), .int c, .int w] hh (anCase (mA a 0) m c w) := by
  refine EV.of [(0, .ref (ad G k)), (1, .int c), (2, .int w)] (by decide +kernel) (Nat.le_of_ble_eq_true rfl) rfl ?_
  refine R_aload_n dX5_caseOf_0 rfl ?_
  refine R_iload_n dX5_caseOf_1 rfl ?_
  refine R_callVp dX5_caseOf_2 cv_X5_142 ⟨by decide, by decide⟩ (d_isCase G hh h hm hc c) h.1 rfl rfl rfl (Nat.le_of_ble_eq_true rfl) ?_
  refine R_if_ne (tgt := 11) dX5_caseOf_5 (by decide) (fun c5 => ?_) (fun c5 => ?_)
  · have hj : 0 ≤ c ∧ c < nI m := dt c5
    obtain ⟨i, hi, rfl⟩ := ix_in (n := m) (by omega) (Int32.not_lt.mpr hj.1) hj.2
    have ec : (nI i).toNatClampNeg = i := nI_clamp (by omega)
    refine R_iload_n dX5_caseOf_11 rfl ?_
    refine R_if_ne (tgt := 27) dX5_caseOf_12 (by decide) (fun c12 => ?_) (fun c12 => ?_)
    · refine R_iload_n dX5_caseOf_27 rfl ?_
      refine R_iconst (v := 1) dX5_caseOf_28 (by decide) ?_
      refine R_icmp_ne (tgt := 44) dX5_caseOf_29 (by decide) (fun c29 => ?_) (fun c29 => ?_)
      · refine R_iload_n dX5_caseOf_44 rfl ?_
        refine R_iconst (v := 2) dX5_caseOf_45 (by decide) ?_
        refine R_icmp_ne (tgt := 61) dX5_caseOf_46 (by decide) (fun c46 => ?_) (fun c46 => ?_)
        · refine R_bipush (v := (-3)) dX5_caseOf_61 (by decide) ?_
          exact R_iret dX5_caseOf_63 rfl (⟨_, rfl, by (unfold anCase; simp only [ec]; rw [if_pos hj, if_neg c12, if_neg c29, if_neg c46]), rfl⟩)
        · refine R_aload_n dX5_caseOf_49 rfl ?_
          refine R_get dX5_caseOf_50 gf_X5_7 h.1 rfl ?_
          refine R_bipush (v := 57) dX5_caseOf_53 (by decide) ?_
          refine R_iload_n dX5_caseOf_55 rfl ?_
          refine R_iadd dX5_caseOf_56 ?_
          refine RR.top (y := nI (57 + i)) (nI_add (57) (i)) ?_
          refine R_ialdN dX5_caseOf_57 h.a0 (by first | omega | decide) (by decide) ?_
          refine R_goto (tgt := 63) dX5_caseOf_58 (by decide) ?_
          exact R_iret dX5_caseOf_63 rfl (⟨_, rfl, by (unfold anCase; simp only [ec]; rw [if_pos hj, if_neg c12, if_neg c29, if_pos (Classical.not_not.mp c46)]; simp [mA]), rfl⟩)
      · refine R_aload_n dX5_caseOf_32 rfl ?_
        refine R_get dX5_caseOf_33 gf_X5_7 h.1 rfl ?_
        refine R_bipush (v := 37) dX5_caseOf_36 (by decide) ?_
        refine R_iload_n dX5_caseOf_38 rfl ?_
        refine R_iadd dX5_caseOf_39 ?_
        refine RR.top (y := nI (37 + i)) (nI_add (37) (i)) ?_
        refine R_ialdN dX5_caseOf_40 h.a0 (by first | omega | decide) (by decide) ?_
        refine R_goto (tgt := 63) dX5_caseOf_41 (by decide) ?_
        exact R_iret dX5_caseOf_63 rfl (⟨_, rfl, by (unfold anCase; simp only [ec]; rw [if_pos hj, if_neg c12, if_pos (Classical.not_not.mp c29)]; simp [mA]), rfl⟩)
    · refine R_aload_n dX5_caseOf_15 rfl ?_
      refine R_get dX5_caseOf_16 gf_X5_7 h.1 rfl ?_
      refine R_bipush (v := 17) dX5_caseOf_19 (by decide) ?_
      refine R_iload_n dX5_caseOf_21 rfl ?_
      refine R_iadd dX5_caseOf_22 ?_
      refine RR.top (y := nI (17 + i)) (nI_add (17) (i)) ?_
      refine R_ialdN dX5_caseOf_23 h.a0 (by first | omega | decide) (by decide) ?_
      refine R_goto (tgt := 63) dX5_caseOf_24 (by decide) ?_
      exact R_iret dX5_caseOf_63 rfl (⟨_, rfl, by (unfold anCase; simp only [ec]; rw [if_pos hj, if_pos (Classical.not_not.mp c12)]; simp [mA]), rfl⟩)
  · refine R_bipush (v := (-2)) dX5_caseOf_8 (by decide) ?_
    exact R_iret dX5_caseOf_10 rfl (⟨_, rfl, by rw [anCase, if_neg (dfn c5)], rfl⟩)
set_option maxRecDepth 4000 in
theorem m_weight (G : GG) (hh : HH) {k : Nat} {a : AA} {v : VV} (h : MdAt G hh k a v) {n : Nat} (hn : n ≤ 6) (hv : v 1 = nI n) (hr : ruleOK (v 2)) (j s : Int32) : EVp G mX5_weight [.ref (ad G k), .int j, .int s] hh (anWeight (mA a 0) (mV a v 0) n j s) := by
  refine EV.of [(0, .ref (ad G k)), (1, .int j), (2, .int s)] (by decide +kernel) (Nat.le_of_ble_eq_true rfl) rfl ?_
  refine R_aload_n dX5_weight_0 rfl ?_
  refine R_iload_n dX5_weight_1 rfl ?_
  refine R_callVp dX5_weight_2 cv_X5_139 ⟨by decide, by decide⟩ (d_isJudge G hh h hn hv j) h.1 rfl rfl rfl (Nat.le_of_ble_eq_true rfl) ?_
  refine R_if_ne (tgt := 13) dX5_weight_5 (by decide) (fun c5 => ?_) (fun c5 => ?_)
  · have hj : 0 ≤ j ∧ j < nI n := dt c5
    obtain ⟨i, hi, rfl⟩ := ix_in (n := n) (by omega) (Int32.not_lt.mpr hj.1) hj.2
    have ec : (nI i).toNatClampNeg = i := nI_clamp (by omega)
    refine R_iload_n dX5_weight_13 rfl ?_
    refine R_callSp dX5_weight_14 cs_X5_173 ⟨by decide, by decide⟩ (d_isSubject G hh s) rfl rfl (Nat.le_of_ble_eq_true rfl) ?_
    refine R_if_eq (tgt := 30) dX5_weight_17 (by decide) (fun c17 => ?_) (fun c17 => ?_)
    · refine R_bipush (v := (-3)) dX5_weight_30 (by decide) ?_
      exact R_iret dX5_weight_32 rfl (⟨_, rfl, by rw [anWeight, if_pos hj, if_neg (df c17)], rfl⟩)
    · refine R_aload_n dX5_weight_20 rfl ?_
      refine R_iconst (v := 0) dX5_weight_21 (by decide) ?_
      refine R_iload_n dX5_weight_22 rfl ?_
      refine R_iload_n dX5_weight_23 rfl ?_
      refine R_callVp dX5_weight_24 cv_X5_155 ⟨by decide, by decide⟩ (m_weightOf G hh h (B := 0) (by omega) hr i (by omega) s) h.1 rfl rfl rfl (Nat.le_of_ble_eq_true rfl) ?_
      refine R_goto (tgt := 32) dX5_weight_27 (by decide) ?_
      exact R_iret dX5_weight_32 rfl (⟨_, rfl, by rw [anWeight, if_pos hj, if_pos (dt c17), ec], rfl⟩)
  · refine R_bipush (v := (-2)) dX5_weight_8 (by decide) ?_
    refine R_goto (tgt := 32) dX5_weight_10 (by decide) ?_
    exact R_iret dX5_weight_32 rfl (⟨_, rfl, by rw [anWeight, if_neg (dfn c5)], rfl⟩)
set_option maxRecDepth 4000 in
theorem l_msealOf (G : GG) (hh : HH) {k : Nat} (s k1 : Int32) : ∀ (d i : Nat), i + d = 5 → RR G mX5_sealOf 28 [(0, .ref (ad G k)), (1, .int s), (2, .int k1), (3, .int (itT i (s ^^^ 305419896))), (4, .int (nI i))] [] hh (fun r h => ∃ y, r = some (.int y) ∧ (y = sealX (itT 5 (s ^^^ 305419896)) k1 ∧ h = hh)) := by
  intro d
  induction d with
  | zero =>
    intro i hi
    refine R_iload dX5_sealOf_28 rfl ?_
    refine R_iconst (v := 5) dX5_sealOf_30 (by decide) ?_
    refine R_icmp_ge (tgt := 45) dX5_sealOf_31 (by decide) (fun c31 => ?_) (fun c31 => absurd (nI_le (a := 5) (by omega) (by omega)) c31)
    refine R_bipush (v := 97) dX5_sealOf_45 (by decide) ?_
    refine R_iload_n dX5_sealOf_47 rfl ?_
    refine R_iconst (v := 4) dX5_sealOf_48 (by decide) ?_
    refine R_bipush (v := 7) dX5_sealOf_49 (by decide) ?_
    refine R_iload_n dX5_sealOf_51 rfl ?_
    refine R_isub dX5_sealOf_52 ?_
    refine R_imul dX5_sealOf_53 ?_
    refine R_iushr dX5_sealOf_54 ?_
    refine R_bipush (v := 15) dX5_sealOf_55 (by decide) ?_
    refine R_iand dX5_sealOf_57 ?_
    refine R_iadd dX5_sealOf_58 ?_
    exact R_iret dX5_sealOf_59 rfl (by (have e : i = 5 := by omega); (subst e); exact ⟨_, rfl, rfl, rfl⟩)
  | succ d ih =>
    intro i hi
    refine R_iload dX5_sealOf_28 rfl ?_
    refine R_iconst (v := 5) dX5_sealOf_30 (by decide) ?_
    refine R_icmp_ge (tgt := 45) dX5_sealOf_31 (by decide) (fun c31 => absurd c31 (nI_ge (b := 5) (by omega) (by omega))) (fun c31 => ?_)
    refine R_iload_n dX5_sealOf_34 rfl ?_
    refine R_callSp dX5_sealOf_35 cs_X5_148 ⟨by decide, by decide⟩ (m_turned G hh (itT i (s ^^^ 305419896))) rfl rfl (Nat.le_of_ble_eq_true rfl) ?_
    refine RR.top (y := itT (i + 1) (s ^^^ 305419896)) (itT_s _ _) ?_
    refine R_istore_n dX5_sealOf_38 (by decide) ?_
    refine R_iinc (y := nI (i + 1)) dX5_sealOf_39 rfl (by decide) (nI_s (i)) ?_
    refine R_goto (tgt := 28) dX5_sealOf_42 (by decide) ?_
    exact RR.pick [2, 3, 4, 1, 0] rfl (ih (i + 1) (by omega))
set_option maxRecDepth 4000 in
theorem m_sealOf (G : GG) (hh : HH) {k : Nat} (s k1 : Int32) : EVp G mX5_sealOf [.ref (ad G k), .int s, .int k1] hh (anSealOf s k1) := by
  refine EV.of [(0, .ref (ad G k)), (1, .int s), (2, .int k1)] (by decide +kernel) (Nat.le_of_ble_eq_true rfl) rfl ?_
  refine R_iload_n dX5_sealOf_0 rfl ?_
  refine R_iconst (v := 1) dX5_sealOf_1 (by decide) ?_
  refine R_icmp_lt (tgt := 17) dX5_sealOf_2 (by decide) (fun c2 => ?_) (fun c2 => ?_)
  · refine R_bipush (v := (-3)) dX5_sealOf_17 (by decide) ?_
    exact R_iret dX5_sealOf_19 rfl (⟨_, rfl, by rw [anSealOf, if_neg (fun q => absurd q.1 (Int32.not_le.mpr c2))], rfl⟩)
  · refine R_iload_n dX5_sealOf_5 rfl ?_
    refine R_i2l dX5_sealOf_6 ?_
    refine R_lconst (v := 0) dX5_sealOf_7 (by decide) ?_
    refine R_ldc2 dX5_sealOf_8 kc_X5_197 ?_
    refine R_callSp dX5_sealOf_11 cs_X5_57 ⟨by decide, by decide⟩ (d_in07 G hh k1) rfl rfl (Nat.le_of_ble_eq_true rfl) ?_
    refine R_if_ne (tgt := 20) dX5_sealOf_14 (by decide) (fun c14 => ?_) (fun c14 => ?_)
    · refine R_iload_n dX5_sealOf_20 rfl ?_
      refine R_ldc dX5_sealOf_21 kc_X5_199 ?_
      refine R_ixor dX5_sealOf_23 ?_
      refine R_istore_n dX5_sealOf_24 (by decide) ?_
      refine R_iconst (v := 0) dX5_sealOf_25 (by decide) ?_
      refine R_istore dX5_sealOf_26 (by decide) ?_
      refine RR.pick [2, 3, 4, 1, 0] rfl ?_
      rw [anSealOf, if_pos ⟨Int32.not_lt.mp c2, dt c14⟩]
      exact l_msealOf G hh s k1 5 0 (by omega)
    · refine R_bipush (v := (-3)) dX5_sealOf_17 (by decide) ?_
      exact R_iret dX5_sealOf_19 rfl (⟨_, rfl, by rw [anSealOf, if_neg (fun q => dfn c14 q.2)], rfl⟩)
set_option maxRecDepth 4000 in
theorem l_mgcd (G : GG) (hh : HH) {k : Nat} (j s p q : Int32) {A B : Nat} (hA : A < 1000) (hB : B < 1000) : ∀ (y x : Nat), x < 1000 → y < 1000 → 0 < Nat.gcd x y → RR G mX5_odds 132 [(0, .ref (ad G k)), (1, .int j), (2, .int s), (3, .int p), (4, .int q), (5, .int (nI A)), (6, .int (nI B)), (7, .int (nI x)), (8, .int (nI y))] [] hh (fun r h => ∃ w, r = some (.int w) ∧ (w = (if q = 0 then nI (A / Nat.gcd x y) else nI (B / Nat.gcd x y)) ∧ h = hh)) := by
  intro y
  induction y using Nat.strongRecOn with
  | ind y ih =>
  intro x hx hy hg
  refine R_iload dX5_odds_132 rfl ?_
  refine R_if_eq (tgt := 155) dX5_odds_134 (by decide) (fun c134 => ?_) (fun c134 => ?_)
  · have e0 : y = 0 := (nI_eq (b := 0) (by omega) (by decide)).mp c134
    subst e0
    rw [Nat.gcd_zero_right] at hg ⊢
    refine R_iload dX5_odds_155 rfl ?_
    refine R_if_ne (tgt := 168) dX5_odds_157 (by decide) (fun c157 => ?_) (fun c157 => ?_)
    · refine R_iload dX5_odds_168 rfl ?_
      refine R_iload dX5_odds_170 rfl ?_
      refine R_idiv dX5_odds_172 (nI_ne0 hg (by omega)) ?_
      exact R_iret dX5_odds_173 rfl (⟨_, rfl, by rw [if_neg c157]; exact pk_div (by omega) hg (by omega), rfl⟩)
    · refine R_iload dX5_odds_160 rfl ?_
      refine R_iload dX5_odds_162 rfl ?_
      refine R_idiv dX5_odds_164 (nI_ne0 hg (by omega)) ?_
      refine R_goto (tgt := 173) dX5_odds_165 (by decide) ?_
      exact R_iret dX5_odds_173 rfl (⟨_, rfl, by rw [if_pos (Classical.not_not.mp c157)]; exact pk_div (by omega) hg (by omega), rfl⟩)
  · have hy0 : 0 < y := by
      rcases Nat.eq_zero_or_pos y with e | e
      · subst e; exact absurd rfl c134
      · exact e
    have hlt := Nat.mod_lt x hy0
    refine R_iload dX5_odds_137 rfl ?_
    refine R_iload dX5_odds_139 rfl ?_
    refine R_irem dX5_odds_141 (nI_ne0 hy0 (by omega)) ?_
    refine RR.top (y := nI (x % y)) (pk_rem (by omega) hy0 (by omega)) ?_
    refine R_istore dX5_odds_142 (by decide) ?_
    refine R_iload dX5_odds_144 rfl ?_
    refine R_istore dX5_odds_146 (by decide) ?_
    refine R_iload dX5_odds_148 rfl ?_
    refine R_istore dX5_odds_150 (by decide) ?_
    refine R_goto (tgt := 132) dX5_odds_152 (by decide) ?_
    have e9 : Nat.gcd x y = Nat.gcd y (x % y) := by rw [Nat.gcd_comm x y, Nat.gcd_rec y x, Nat.gcd_comm]
    rw [e9] at hg ⊢
    exact RR.pick [3, 4, 5, 6, 7, 8, 9, 1, 0] rfl (ih (x % y) hlt y (by omega) (by omega) hg)
set_option maxRecDepth 4000 in
theorem l_modds (G : GG) (hh : HH) {k : Nat} {a : AA} {v : VV} (h : MdAt G hh k a v) {n : Nat} (hn : n ≤ 6) (hv : v 1 = nI n) (hr : ruleOK (v 2)) (j s p q : Int32) {A B : Nat} (hA : A < 1000) (hB : B < 1000) (hB1 : 1 ≤ B) (eB : foldS (wtF (mA a 0) (mV a v 0) s p) 0 n 0 = nI B) : ∀ (d i : Nat), i + d = n → RR G mX5_odds 81 [(0, .ref (ad G k)), (1, .int j), (2, .int s), (3, .int p), (4, .int q), (5, .int (nI A)), (6, .int (foldS (wtF (mA a 0) (mV a v 0) s p) 0 i 0)), (7, .int (nI i))] [] hh (fun r h => ∃ w, r = some (.int w) ∧ (w = (if q = 0 then nI (A / Nat.gcd A B) else nI (B / Nat.gcd A B)) ∧ h = hh)) := by
  intro d
  induction d with
  | zero =>
    intro i hi
    refine R_iload dX5_odds_81 rfl ?_
    refine R_aload_n dX5_odds_83 rfl ?_
    refine R_get dX5_odds_84 gf_X5_48 h.1 rfl ?_
    refine R_icmp_ge (tgt := 124) dX5_odds_87 (by decide) (fun c87 => ?_) (fun c87 => absurd (by rw [hv]; exact nI_le (by omega) (by omega)) c87)
    refine R_iload dX5_odds_124 rfl ?_
    refine R_istore dX5_odds_126 (by decide) ?_
    have e : i = n := by omega
    subst e
    refine R_iload dX5_odds_128 rfl ?_
    refine RR.top (y := nI B) eB ?_
    refine R_istore dX5_odds_130 (by decide) ?_
    refine RR.pick [2, 3, 4, 5, 6, 7, 8, 1, 0] rfl ?_
    rw [eB]
    exact l_mgcd G hh j s p q hA hB B A hA hB (Nat.gcd_pos_of_pos_right _ hB1)
  | succ d ih =>
    intro i hi
    refine R_iload dX5_odds_81 rfl ?_
    refine R_aload_n dX5_odds_83 rfl ?_
    refine R_get dX5_odds_84 gf_X5_48 h.1 rfl ?_
    refine R_icmp_ge (tgt := 124) dX5_odds_87 (by decide) (fun c87 => absurd c87 (by rw [hv]; exact nI_ge (by omega) (by omega))) (fun c87 => ?_)
    refine R_iload dX5_odds_90 rfl ?_
    refine R_aload_n dX5_odds_92 rfl ?_
    refine R_iconst (v := 0) dX5_odds_93 (by decide) ?_
    refine R_iload dX5_odds_94 rfl ?_
    refine R_iload_n dX5_odds_96 rfl ?_
    refine R_callVp dX5_odds_97 cv_X5_152 ⟨by decide, by decide⟩ (m_isBarred G hh h (B := 0) (by omega) i (by omega) p) h.1 rfl rfl rfl (Nat.le_of_ble_eq_true rfl) ?_
    refine R_if_eq (tgt := 107) dX5_odds_100 (by decide) (fun c100 => ?_) (fun c100 => ?_)
    · refine R_aload_n dX5_odds_107 rfl ?_
      refine R_iconst (v := 0) dX5_odds_108 (by decide) ?_
      refine R_iload dX5_odds_109 rfl ?_
      refine R_iload_n dX5_odds_111 rfl ?_
      refine R_callVp dX5_odds_112 cv_X5_155 ⟨by decide, by decide⟩ (m_weightOf G hh h (B := 0) (by omega) hr i (by omega) s) h.1 rfl rfl rfl (Nat.le_of_ble_eq_true rfl) ?_
      refine R_iadd dX5_odds_115 ?_
      refine RR.top (y := foldS (wtF (mA a 0) (mV a v 0) s p) 0 (i + 1) 0) (by rw [foldS_last, Nat.zero_add, show wtF (mA a 0) (mV a v 0) s p i = wt (mA a 0) (mV a v 0) i s from if_neg (bl_f c100)]) ?_
      refine R_istore dX5_odds_116 (by decide) ?_
      refine R_iinc (y := nI (i + 1)) dX5_odds_118 rfl (by decide) (nI_s (i)) ?_
      refine R_goto (tgt := 81) dX5_odds_121 (by decide) ?_
      exact RR.pick [2, 3, 4, 5, 6, 7, 1, 0] rfl (ih (i + 1) (by omega))
    · refine R_iconst (v := 0) dX5_odds_103 (by decide) ?_
      refine R_goto (tgt := 115) dX5_odds_104 (by decide) ?_
      refine R_iadd dX5_odds_115 ?_
      refine RR.top (y := foldS (wtF (mA a 0) (mV a v 0) s p) 0 (i + 1) 0) (by rw [foldS_last, Nat.zero_add, show wtF (mA a 0) (mV a v 0) s p i = 0 from if_pos (bl_t c100)]) ?_
      refine R_istore dX5_odds_116 (by decide) ?_
      refine R_iinc (y := nI (i + 1)) dX5_odds_118 rfl (by decide) (nI_s (i)) ?_
      refine R_goto (tgt := 81) dX5_odds_121 (by decide) ?_
      exact RR.pick [2, 3, 4, 5, 6, 7, 1, 0] rfl (ih (i + 1) (by omega))
theorem q01 {q : Int32} (h : ¬ q < 0 ∧ q ≤ 1) : (if q = 0 then nI 0 else nI 1) = q := by
  have h1 := h.1
  have h2 := h.2
  rw [Int32.lt_iff_toInt_lt] at h1
  rw [Int32.le_iff_toInt_le] at h2
  have e0 : (0 : Int32).toInt = 0 := rfl
  have e1 : (1 : Int32).toInt = 1 := rfl
  by_cases e : q = 0
  · rw [if_pos e, e]; rfl
  · rw [if_neg e]
    have : ¬ q.toInt = 0 := fun q0 => e (Int32.toInt_inj.mp q0)
    exact (Int32.toInt_inj.mp (show (1 : Int32).toInt = q.toInt by omega))
set_option maxRecDepth 4000 in
theorem m_odds (G : GG) (hh : HH) {k : Nat} {a : AA} {v : VV} (h : MdAt G hh k a v) {n : Nat} (hn : n ≤ 6) (hv : v 1 = nI n) (hr : ruleOK (v 2)) (j s p q : Int32) (hW : ∀ i, i < n → ¬ hasB (a 0 (0 + 4)) (nI i) = true → ∃ A, 1 ≤ A ∧ A < 1000 ∧ wt (mA a 0) (mV a v 0) i s = nI A) (hB : anyFor (mA a 0) (mV a v 0) p (-1) 0 n = true → ∃ B, 1 ≤ B ∧ B < 1000 ∧ foldS (wtF (mA a 0) (mV a v 0) s p) 0 n 0 = nI B) : EVp G mX5_odds [.ref (ad G k), .int j, .int s, .int p, .int q] hh (anOdds (mA a 0) (mV a v 0) n j s p q) := by
  refine EV.of [(0, .ref (ad G k)), (1, .int j), (2, .int s), (3, .int p), (4, .int q)] (by decide +kernel) (Nat.le_of_ble_eq_true rfl) rfl ?_
  refine R_aload_n dX5_odds_0 rfl ?_
  refine R_iload_n dX5_odds_1 rfl ?_
  refine R_callVp dX5_odds_2 cv_X5_139 ⟨by decide, by decide⟩ (d_isJudge G hh h hn hv j) h.1 rfl rfl rfl (Nat.le_of_ble_eq_true rfl) ?_
  refine R_if_ne (tgt := 11) dX5_odds_5 (by decide) (fun c5 => ?_) (fun c5 => ?_)
  · have hj : 0 ≤ j ∧ j < nI n := dt c5
    obtain ⟨i, hi, rfl⟩ := ix_in (n := n) (by omega) (Int32.not_lt.mpr hj.1) hj.2
    have ec : (nI i).toNatClampNeg = i := nI_clamp (by omega)
    refine R_iload_n dX5_odds_11 rfl ?_
    refine R_callSp dX5_odds_12 cs_X5_173 ⟨by decide, by decide⟩ (d_isSubject G hh s) rfl rfl (Nat.le_of_ble_eq_true rfl) ?_
    refine R_if_eq (tgt := 36) dX5_odds_15 (by decide) (fun c15 => ?_) (fun c15 => ?_)
    · refine R_bipush (v := (-3)) dX5_odds_36 (by decide) ?_
      exact R_iret dX5_odds_38 rfl (⟨_, rfl, by (unfold anOdds; rw [if_pos hj, if_neg (fun q => df c15 q.1)]), rfl⟩)
    · refine R_iload_n dX5_odds_18 rfl ?_
      refine R_callSp dX5_odds_19 cs_X5_176 ⟨by decide, by decide⟩ (d_isParty G hh p) rfl rfl (Nat.le_of_ble_eq_true rfl) ?_
      refine R_if_eq (tgt := 36) dX5_odds_22 (by decide) (fun c22 => ?_) (fun c22 => ?_)
      · refine R_bipush (v := (-3)) dX5_odds_36 (by decide) ?_
        exact R_iret dX5_odds_38 rfl (⟨_, rfl, by (unfold anOdds; rw [if_pos hj, if_neg (fun q => df c22 q.2.1)]), rfl⟩)
      · refine R_iload dX5_odds_25 rfl ?_
        refine R_i2l dX5_odds_27 ?_
        refine R_lconst (v := 0) dX5_odds_28 (by decide) ?_
        refine R_lconst (v := 1) dX5_odds_29 (by decide) ?_
        refine R_callSp dX5_odds_30 cs_X5_57 ⟨by decide, by decide⟩ (d_in01 G hh q) rfl rfl (Nat.le_of_ble_eq_true rfl) ?_
        refine R_if_ne (tgt := 39) dX5_odds_33 (by decide) (fun c33 => ?_) (fun c33 => ?_)
        · refine R_aload_n dX5_odds_39 rfl ?_
          refine R_iconst (v := 0) dX5_odds_40 (by decide) ?_
          refine R_iload_n dX5_odds_41 rfl ?_
          refine R_iconst (v := (-1)) dX5_odds_42 (by decide) ?_
          refine R_callVp dX5_odds_43 cv_X5_179 ⟨by decide, by decide⟩ (m_isAnyone G hh h hn hv (B := 0) (by omega) p (-1)) h.1 rfl rfl rfl (Nat.le_of_ble_eq_true rfl) ?_
          refine R_if_ne (tgt := 52) dX5_odds_46 (by decide) (fun c46 => ?_) (fun c46 => ?_)
          · obtain ⟨B, hB1, hB2, eB⟩ := hB (bl_t c46)
            refine R_aload_n dX5_odds_52 rfl ?_
            refine R_iconst (v := 0) dX5_odds_53 (by decide) ?_
            refine R_iload_n dX5_odds_54 rfl ?_
            refine R_iload_n dX5_odds_55 rfl ?_
            refine R_callVp (w := bl (hasB (a 0 (0 + 5 + i)) p)) dX5_odds_56 cv_X5_152 ⟨by decide, by decide⟩ (m_isBarred G hh h (B := 0) (by omega) i (by omega) p) h.1 rfl rfl rfl (Nat.le_of_ble_eq_true rfl) ?_
            refine R_if_eq (tgt := 66) dX5_odds_59 (by decide) (fun c59 => ?_) (fun c59 => ?_)
            · refine R_aload_n dX5_odds_66 rfl ?_
              refine R_iconst (v := 0) dX5_odds_67 (by decide) ?_
              refine R_iload_n dX5_odds_68 rfl ?_
              refine R_iload_n dX5_odds_69 rfl ?_
              refine R_callVp dX5_odds_70 cv_X5_155 ⟨by decide, by decide⟩ (m_weightOf G hh h (B := 0) (by omega) hr i (by omega) s) h.1 rfl rfl rfl (Nat.le_of_ble_eq_true rfl) ?_
              refine R_istore dX5_odds_73 (by decide) ?_
              refine R_iconst (v := 0) dX5_odds_75 (by decide) ?_
              refine R_istore dX5_odds_76 (by decide) ?_
              refine R_iconst (v := 0) dX5_odds_78 (by decide) ?_
              refine R_istore dX5_odds_79 (by decide) ?_
              refine RR.pick [3, 4, 5, 6, 7, 2, 1, 0] rfl ?_
              unfold anOdds
              simp only [ec]
              rw [if_pos hj, if_pos ⟨dt c15, dt c22, dt c33⟩, if_pos (bl_t c46)]
              by_cases haw : hasB (a 0 (0 + 4)) (nI i) = true
              · have hf : ¬ fre (mA a 0) (mV a v 0) i p = true := by (rw [fre_m, haw]; simp)
                rw [show wt (mA a 0) (mV a v 0) i s = nI 0 from if_pos haw]
                rw [if_neg hf]
                refine RR.post (l_modds G hh h hn hv hr (nI i) s p q (A := 0) (by omega) hB2 hB1 eB n 0 (by omega)) (fun r h1 hq => ?_)
                obtain ⟨y, e1, e2, rfl⟩ := hq
                refine ⟨y, e1, ?_, rfl⟩
                rw [e2, Nat.gcd_zero_left, Nat.zero_div, Nat.div_self hB1]
                exact q01 (dt c33)
              · have hf : fre (mA a 0) (mV a v 0) i p = true := by (rw [fre_m, show hasB (a 0 (0 + 5 + i)) p = false from Bool.eq_false_iff.mpr (bl_f c59), show hasB (a 0 (0 + 4)) (nI i) = false from Bool.eq_false_iff.mpr haw]; rfl)
                obtain ⟨A, hA1, hA2, eA⟩ := hW i hi haw
                rw [if_pos hf, eA, eB, nI_clamp (by omega), nI_clamp (by omega)]
                refine RR.post (l_modds G hh h hn hv hr (nI i) s p q (A := A) hA2 hB2 hB1 eB n 0 (by omega)) (fun r h1 hq => ?_)
                obtain ⟨y, e1, e2, rfl⟩ := hq
                refine ⟨y, e1, ?_, rfl⟩
                rw [e2]
                by_cases q0 : q = 0
                · rw [if_pos q0, if_pos q0]
                · rw [if_neg q0, if_neg q0]
            · refine R_iconst (v := 0) dX5_odds_62 (by decide) ?_
              refine R_goto (tgt := 73) dX5_odds_63 (by decide) ?_
              refine R_istore dX5_odds_73 (by decide) ?_
              refine R_iconst (v := 0) dX5_odds_75 (by decide) ?_
              refine R_istore dX5_odds_76 (by decide) ?_
              refine R_iconst (v := 0) dX5_odds_78 (by decide) ?_
              refine R_istore dX5_odds_79 (by decide) ?_
              refine RR.pick [3, 4, 5, 6, 7, 2, 1, 0] rfl ?_
              unfold anOdds
              simp only [ec]
              rw [if_pos hj, if_pos ⟨dt c15, dt c22, dt c33⟩, if_pos (bl_t c46)]
              have hf : ¬ fre (mA a 0) (mV a v 0) i p = true := by (rw [fre_m, show hasB (a 0 (0 + 5 + i)) p = true from bl_t c59]; simp)
              rw [if_neg hf]
              refine RR.post (l_modds G hh h hn hv hr (nI i) s p q (A := 0) (by omega) hB2 hB1 eB n 0 (by omega)) (fun r h1 hq => ?_)
              obtain ⟨y, e1, e2, rfl⟩ := hq
              refine ⟨y, e1, ?_, rfl⟩
              rw [e2, Nat.gcd_zero_left, Nat.zero_div, Nat.div_self hB1]
              exact q01 (dt c33)
          · refine R_bipush (v := (-4)) dX5_odds_49 (by decide) ?_
            exact R_iret dX5_odds_51 rfl (⟨_, rfl, by (unfold anOdds; rw [if_pos hj, if_pos ⟨dt c15, dt c22, dt c33⟩, if_neg (bl_n c46)]), rfl⟩)
        · refine R_bipush (v := (-3)) dX5_odds_36 (by decide) ?_
          exact R_iret dX5_odds_38 rfl (⟨_, rfl, by (unfold anOdds; rw [if_pos hj, if_neg (fun q => dfn c33 q.2.2)]), rfl⟩)
  · refine R_bipush (v := (-2)) dX5_odds_8 (by decide) ?_
    exact R_iret dX5_odds_10 rfl (⟨_, rfl, by (unfold anOdds; rw [if_neg (dfn c5)]), rfl⟩)
