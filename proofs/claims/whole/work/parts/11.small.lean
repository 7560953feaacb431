def bl (b : Bool) : Int32 := if b then 1 else 0
/-- a bit of a set, as the class asks for it -/
def hasB (x j : Int32) : Bool := decide (x >>> (j &&& 31) &&& 1 = 1)

set_option maxRecDepth 4000 in
theorem e_isSeed (G : GG) (hh : HH) (x : Int32) : EVp G mX4_isSeed [.int x] hh (bl (decide (1 ≤ x))) := by
  refine EV.of [(0, .int x)] (by decide +kernel) (Nat.le_of_ble_eq_true rfl) rfl ?_
  refine R_iload_n dX4_isSeed_0 rfl ?_
  refine R_iconst (v := 1) dX4_isSeed_1 (by decide) ?_
  refine R_icmp_lt (tgt := 9) dX4_isSeed_2 (by decide) (fun c2 => ?_) (fun c2 => ?_)
  · refine R_iconst (v := 0) dX4_isSeed_9 (by decide) ?_
    exact R_zret dX4_isSeed_10 rfl (by first | exact Or.inl rfl | exact Or.inr rfl | assumption | omega) (⟨_, rfl, by (first | (simp_all [bl, hasB]; done) | (simp_all [bl, hasB, Int32.lt_iff_toInt_lt, Int32.le_iff_toInt_le]; done) | (simp_all [bl, hasB, Int32.lt_iff_toInt_lt, Int32.le_iff_toInt_le]; omega)), rfl⟩)
  · refine R_iconst (v := 1) dX4_isSeed_5 (by decide) ?_
    refine R_goto (tgt := 10) dX4_isSeed_6 (by decide) ?_
    exact R_zret dX4_isSeed_10 rfl (by first | exact Or.inl rfl | exact Or.inr rfl | assumption | omega) (⟨_, rfl, by (first | (simp_all [bl, hasB]; done) | (simp_all [bl, hasB, Int32.lt_iff_toInt_lt, Int32.le_iff_toInt_le]; done) | (simp_all [bl, hasB, Int32.lt_iff_toInt_lt, Int32.le_iff_toInt_le]; omega)), rfl⟩)
set_option maxRecDepth 4000 in
theorem e_isSubject (G : GG) (hh : HH) (x : Int32) : EVp G mX4_isSubject [.int x] hh (bl (decide (0 ≤ x ∧ x < 5))) := by
  refine EV.of [(0, .int x)] (by decide +kernel) (Nat.le_of_ble_eq_true rfl) rfl ?_
  refine R_iload_n dX4_isSubject_0 rfl ?_
  refine R_if_lt (tgt := 13) dX4_isSubject_1 (by decide) (fun c1 => ?_) (fun c1 => ?_)
  · refine R_iconst (v := 0) dX4_isSubject_13 (by decide) ?_
    exact R_zret dX4_isSubject_14 rfl (by first | exact Or.inl rfl | exact Or.inr rfl | assumption | omega) (⟨_, rfl, by (first | (simp_all [bl, hasB]; done) | (simp_all [bl, hasB, Int32.lt_iff_toInt_lt, Int32.le_iff_toInt_le]; done) | (simp_all [bl, hasB, Int32.lt_iff_toInt_lt, Int32.le_iff_toInt_le]; omega)), rfl⟩)
  · refine R_iload_n dX4_isSubject_4 rfl ?_
    refine R_iconst (v := 5) dX4_isSubject_5 (by decide) ?_
    refine R_icmp_ge (tgt := 13) dX4_isSubject_6 (by decide) (fun c6 => ?_) (fun c6 => ?_)
    · refine R_iconst (v := 0) dX4_isSubject_13 (by decide) ?_
      exact R_zret dX4_isSubject_14 rfl (by first | exact Or.inl rfl | exact Or.inr rfl | assumption | omega) (⟨_, rfl, by (first | (simp_all [bl, hasB]; done) | (simp_all [bl, hasB, Int32.lt_iff_toInt_lt, Int32.le_iff_toInt_le]; done) | (simp_all [bl, hasB, Int32.lt_iff_toInt_lt, Int32.le_iff_toInt_le]; omega)), rfl⟩)
    · refine R_iconst (v := 1) dX4_isSubject_9 (by decide) ?_
      refine R_goto (tgt := 14) dX4_isSubject_10 (by decide) ?_
      exact R_zret dX4_isSubject_14 rfl (by first | exact Or.inl rfl | exact Or.inr rfl | assumption | omega) (⟨_, rfl, by (first | (simp_all [bl, hasB]; done) | (simp_all [bl, hasB, Int32.lt_iff_toInt_lt, Int32.le_iff_toInt_le]; done) | (simp_all [bl, hasB, Int32.lt_iff_toInt_lt, Int32.le_iff_toInt_le]; omega)), rfl⟩)
set_option maxRecDepth 4000 in
theorem e_isParty (G : GG) (hh : HH) (x : Int32) : EVp G mX4_isParty [.int x] hh (bl (decide (0 ≤ x ∧ x < 10))) := by
  refine EV.of [(0, .int x)] (by decide +kernel) (Nat.le_of_ble_eq_true rfl) rfl ?_
  refine R_iload_n dX4_isParty_0 rfl ?_
  refine R_if_lt (tgt := 14) dX4_isParty_1 (by decide) (fun c1 => ?_) (fun c1 => ?_)
  · refine R_iconst (v := 0) dX4_isParty_14 (by decide) ?_
    exact R_zret dX4_isParty_15 rfl (by first | exact Or.inl rfl | exact Or.inr rfl | assumption | omega) (⟨_, rfl, by (first | (simp_all [bl, hasB]; done) | (simp_all [bl, hasB, Int32.lt_iff_toInt_lt, Int32.le_iff_toInt_le]; done) | (simp_all [bl, hasB, Int32.lt_iff_toInt_lt, Int32.le_iff_toInt_le]; omega)), rfl⟩)
  · refine R_iload_n dX4_isParty_4 rfl ?_
    refine R_bipush (v := 10) dX4_isParty_5 (by decide) ?_
    refine R_icmp_ge (tgt := 14) dX4_isParty_7 (by decide) (fun c7 => ?_) (fun c7 => ?_)
    · refine R_iconst (v := 0) dX4_isParty_14 (by decide) ?_
      exact R_zret dX4_isParty_15 rfl (by first | exact Or.inl rfl | exact Or.inr rfl | assumption | omega) (⟨_, rfl, by (first | (simp_all [bl, hasB]; done) | (simp_all [bl, hasB, Int32.lt_iff_toInt_lt, Int32.le_iff_toInt_le]; done) | (simp_all [bl, hasB, Int32.lt_iff_toInt_lt, Int32.le_iff_toInt_le]; omega)), rfl⟩)
    · refine R_iconst (v := 1) dX4_isParty_10 (by decide) ?_
      refine R_goto (tgt := 15) dX4_isParty_11 (by decide) ?_
      exact R_zret dX4_isParty_15 rfl (by first | exact Or.inl rfl | exact Or.inr rfl | assumption | omega) (⟨_, rfl, by (first | (simp_all [bl, hasB]; done) | (simp_all [bl, hasB, Int32.lt_iff_toInt_lt, Int32.le_iff_toInt_le]; done) | (simp_all [bl, hasB, Int32.lt_iff_toInt_lt, Int32.le_iff_toInt_le]; omega)), rfl⟩)
set_option maxRecDepth 4000 in
theorem e_isSlip (G : GG) (hh : HH) (x : Int32) : EVp G mX4_isSlip [.int x] hh (bl (decide (0 ≤ x ∧ x < 3))) := by
  refine EV.of [(0, .int x)] (by decide +kernel) (Nat.le_of_ble_eq_true rfl) rfl ?_
  refine R_iload_n dX4_isSlip_0 rfl ?_
  refine R_if_lt (tgt := 13) dX4_isSlip_1 (by decide) (fun c1 => ?_) (fun c1 => ?_)
  · refine R_iconst (v := 0) dX4_isSlip_13 (by decide) ?_
    exact R_zret dX4_isSlip_14 rfl (by first | exact Or.inl rfl | exact Or.inr rfl | assumption | omega) (⟨_, rfl, by (first | (simp_all [bl, hasB]; done) | (simp_all [bl, hasB, Int32.lt_iff_toInt_lt, Int32.le_iff_toInt_le]; done) | (simp_all [bl, hasB, Int32.lt_iff_toInt_lt, Int32.le_iff_toInt_le]; omega)), rfl⟩)
  · refine R_iload_n dX4_isSlip_4 rfl ?_
    refine R_iconst (v := 3) dX4_isSlip_5 (by decide) ?_
    refine R_icmp_ge (tgt := 13) dX4_isSlip_6 (by decide) (fun c6 => ?_) (fun c6 => ?_)
    · refine R_iconst (v := 0) dX4_isSlip_13 (by decide) ?_
      exact R_zret dX4_isSlip_14 rfl (by first | exact Or.inl rfl | exact Or.inr rfl | assumption | omega) (⟨_, rfl, by (first | (simp_all [bl, hasB]; done) | (simp_all [bl, hasB, Int32.lt_iff_toInt_lt, Int32.le_iff_toInt_le]; done) | (simp_all [bl, hasB, Int32.lt_iff_toInt_lt, Int32.le_iff_toInt_le]; omega)), rfl⟩)
    · refine R_iconst (v := 1) dX4_isSlip_9 (by decide) ?_
      refine R_goto (tgt := 14) dX4_isSlip_10 (by decide) ?_
      exact R_zret dX4_isSlip_14 rfl (by first | exact Or.inl rfl | exact Or.inr rfl | assumption | omega) (⟨_, rfl, by (first | (simp_all [bl, hasB]; done) | (simp_all [bl, hasB, Int32.lt_iff_toInt_lt, Int32.le_iff_toInt_le]; done) | (simp_all [bl, hasB, Int32.lt_iff_toInt_lt, Int32.le_iff_toInt_le]; omega)), rfl⟩)
set_option maxRecDepth 4000 in
theorem e_isDigit (G : GG) (hh : HH) (x : Int32) : EVp G mX4_isDigit [.int x] hh (bl (decide (48 ≤ x ∧ x ≤ 57))) := by
  refine EV.of [(0, .int x)] (by decide +kernel) (Nat.le_of_ble_eq_true rfl) rfl ?_
  refine R_iload_n dX4_isDigit_0 rfl ?_
  refine R_bipush (v := 48) dX4_isDigit_1 (by decide) ?_
  refine R_icmp_lt (tgt := 16) dX4_isDigit_3 (by decide) (fun c3 => ?_) (fun c3 => ?_)
  · refine R_iconst (v := 0) dX4_isDigit_16 (by decide) ?_
    exact R_zret dX4_isDigit_17 rfl (by first | exact Or.inl rfl | exact Or.inr rfl | assumption | omega) (⟨_, rfl, by (first | (simp_all [bl, hasB]; done) | (simp_all [bl, hasB, Int32.lt_iff_toInt_lt, Int32.le_iff_toInt_le]; done) | (simp_all [bl, hasB, Int32.lt_iff_toInt_lt, Int32.le_iff_toInt_le]; omega)), rfl⟩)
  · refine R_iload_n dX4_isDigit_6 rfl ?_
    refine R_bipush (v := 57) dX4_isDigit_7 (by decide) ?_
    refine R_icmp_gt (tgt := 16) dX4_isDigit_9 (by decide) (fun c9 => ?_) (fun c9 => ?_)
    · refine R_iconst (v := 0) dX4_isDigit_16 (by decide) ?_
      exact R_zret dX4_isDigit_17 rfl (by first | exact Or.inl rfl | exact Or.inr rfl | assumption | omega) (⟨_, rfl, by (first | (simp_all [bl, hasB]; done) | (simp_all [bl, hasB, Int32.lt_iff_toInt_lt, Int32.le_iff_toInt_le]; done) | (simp_all [bl, hasB, Int32.lt_iff_toInt_lt, Int32.le_iff_toInt_le]; omega)), rfl⟩)
    · refine R_iconst (v := 1) dX4_isDigit_12 (by decide) ?_
      refine R_goto (tgt := 17) dX4_isDigit_13 (by decide) ?_
      exact R_zret dX4_isDigit_17 rfl (by first | exact Or.inl rfl | exact Or.inr rfl | assumption | omega) (⟨_, rfl, by (first | (simp_all [bl, hasB]; done) | (simp_all [bl, hasB, Int32.lt_iff_toInt_lt, Int32.le_iff_toInt_le]; done) | (simp_all [bl, hasB, Int32.lt_iff_toInt_lt, Int32.le_iff_toInt_le]; omega)), rfl⟩)
set_option maxRecDepth 4000 in
theorem e_isSmallLetter (G : GG) (hh : HH) (x : Int32) : EVp G mX4_isSmallLetter [.int x] hh (bl (decide (97 ≤ x ∧ x ≤ 122))) := by
  refine EV.of [(0, .int x)] (by decide +kernel) (Nat.le_of_ble_eq_true rfl) rfl ?_
  refine R_iload_n dX4_isSmallLetter_0 rfl ?_
  refine R_bipush (v := 97) dX4_isSmallLetter_1 (by decide) ?_
  refine R_icmp_lt (tgt := 16) dX4_isSmallLetter_3 (by decide) (fun c3 => ?_) (fun c3 => ?_)
  · refine R_iconst (v := 0) dX4_isSmallLetter_16 (by decide) ?_
    exact R_zret dX4_isSmallLetter_17 rfl (by first | exact Or.inl rfl | exact Or.inr rfl | assumption | omega) (⟨_, rfl, by (first | (simp_all [bl, hasB]; done) | (simp_all [bl, hasB, Int32.lt_iff_toInt_lt, Int32.le_iff_toInt_le]; done) | (simp_all [bl, hasB, Int32.lt_iff_toInt_lt, Int32.le_iff_toInt_le]; omega)), rfl⟩)
  · refine R_iload_n dX4_isSmallLetter_6 rfl ?_
    refine R_bipush (v := 122) dX4_isSmallLetter_7 (by decide) ?_
    refine R_icmp_gt (tgt := 16) dX4_isSmallLetter_9 (by decide) (fun c9 => ?_) (fun c9 => ?_)
    · refine R_iconst (v := 0) dX4_isSmallLetter_16 (by decide) ?_
      exact R_zret dX4_isSmallLetter_17 rfl (by first | exact Or.inl rfl | exact Or.inr rfl | assumption | omega) (⟨_, rfl, by (first | (simp_all [bl, hasB]; done) | (simp_all [bl, hasB, Int32.lt_iff_toInt_lt, Int32.le_iff_toInt_le]; done) | (simp_all [bl, hasB, Int32.lt_iff_toInt_lt, Int32.le_iff_toInt_le]; omega)), rfl⟩)
    · refine R_iconst (v := 1) dX4_isSmallLetter_12 (by decide) ?_
      refine R_goto (tgt := 17) dX4_isSmallLetter_13 (by decide) ?_
      exact R_zret dX4_isSmallLetter_17 rfl (by first | exact Or.inl rfl | exact Or.inr rfl | assumption | omega) (⟨_, rfl, by (first | (simp_all [bl, hasB]; done) | (simp_all [bl, hasB, Int32.lt_iff_toInt_lt, Int32.le_iff_toInt_le]; done) | (simp_all [bl, hasB, Int32.lt_iff_toInt_lt, Int32.le_iff_toInt_le]; omega)), rfl⟩)
set_option maxRecDepth 4000 in
theorem e_hasJudge (G : GG) (hh : HH) {k : Nat} {a : AA} {v : VV} (h : StAt G hh k a v) (j : Int32) : EVp G mX2_hasJudge [.ref (ad G k), .int j] hh (bl (decide (0 ≤ j ∧ j < v 8))) := by
  refine EV.of [(0, .ref (ad G k)), (1, .int j)] (by decide +kernel) (Nat.le_of_ble_eq_true rfl) rfl ?_
  refine R_iload_n dX2_hasJudge_0 rfl ?_
  refine R_if_lt (tgt := 16) dX2_hasJudge_1 (by decide) (fun c1 => ?_) (fun c1 => ?_)
  · refine R_iconst (v := 0) dX2_hasJudge_16 (by decide) ?_
    exact R_zret dX2_hasJudge_17 rfl (by first | exact Or.inl rfl | exact Or.inr rfl | assumption | omega) (⟨_, rfl, by (first | (simp_all [bl, hasB]; done) | (simp_all [bl, hasB, Int32.lt_iff_toInt_lt, Int32.le_iff_toInt_le]; done) | (simp_all [bl, hasB, Int32.lt_iff_toInt_lt, Int32.le_iff_toInt_le]; omega)), rfl⟩)
  · refine R_iload_n dX2_hasJudge_4 rfl ?_
    refine R_aload_n dX2_hasJudge_5 rfl ?_
    refine R_get dX2_hasJudge_6 gf_X2_52 h.1 rfl ?_
    refine R_icmp_ge (tgt := 16) dX2_hasJudge_9 (by decide) (fun c9 => ?_) (fun c9 => ?_)
    · refine R_iconst (v := 0) dX2_hasJudge_16 (by decide) ?_
      exact R_zret dX2_hasJudge_17 rfl (by first | exact Or.inl rfl | exact Or.inr rfl | assumption | omega) (⟨_, rfl, by (first | (simp_all [bl, hasB]; done) | (simp_all [bl, hasB, Int32.lt_iff_toInt_lt, Int32.le_iff_toInt_le]; done) | (simp_all [bl, hasB, Int32.lt_iff_toInt_lt, Int32.le_iff_toInt_le]; omega)), rfl⟩)
    · refine R_iconst (v := 1) dX2_hasJudge_12 (by decide) ?_
      refine R_goto (tgt := 17) dX2_hasJudge_13 (by decide) ?_
      exact R_zret dX2_hasJudge_17 rfl (by first | exact Or.inl rfl | exact Or.inr rfl | assumption | omega) (⟨_, rfl, by (first | (simp_all [bl, hasB]; done) | (simp_all [bl, hasB, Int32.lt_iff_toInt_lt, Int32.le_iff_toInt_le]; done) | (simp_all [bl, hasB, Int32.lt_iff_toInt_lt, Int32.le_iff_toInt_le]; omega)), rfl⟩)
set_option maxRecDepth 4000 in
theorem e_hasCase (G : GG) (hh : HH) {k : Nat} {a : AA} {v : VV} (h : StAt G hh k a v) (j : Int32) : EVp G mX2_hasCase [.ref (ad G k), .int j] hh (bl (decide (0 ≤ j ∧ j < v 14))) := by
  refine EV.of [(0, .ref (ad G k)), (1, .int j)] (by decide +kernel) (Nat.le_of_ble_eq_true rfl) rfl ?_
  refine R_iload_n dX2_hasCase_0 rfl ?_
  refine R_if_lt (tgt := 16) dX2_hasCase_1 (by decide) (fun c1 => ?_) (fun c1 => ?_)
  · refine R_iconst (v := 0) dX2_hasCase_16 (by decide) ?_
    exact R_zret dX2_hasCase_17 rfl (by first | exact Or.inl rfl | exact Or.inr rfl | assumption | omega) (⟨_, rfl, by (first | (simp_all [bl, hasB]; done) | (simp_all [bl, hasB, Int32.lt_iff_toInt_lt, Int32.le_iff_toInt_le]; done) | (simp_all [bl, hasB, Int32.lt_iff_toInt_lt, Int32.le_iff_toInt_le]; omega)), rfl⟩)
  · refine R_iload_n dX2_hasCase_4 rfl ?_
    refine R_aload_n dX2_hasCase_5 rfl ?_
    refine R_get dX2_hasCase_6 gf_X2_61 h.1 rfl ?_
    refine R_icmp_ge (tgt := 16) dX2_hasCase_9 (by decide) (fun c9 => ?_) (fun c9 => ?_)
    · refine R_iconst (v := 0) dX2_hasCase_16 (by decide) ?_
      exact R_zret dX2_hasCase_17 rfl (by first | exact Or.inl rfl | exact Or.inr rfl | assumption | omega) (⟨_, rfl, by (first | (simp_all [bl, hasB]; done) | (simp_all [bl, hasB, Int32.lt_iff_toInt_lt, Int32.le_iff_toInt_le]; done) | (simp_all [bl, hasB, Int32.lt_iff_toInt_lt, Int32.le_iff_toInt_le]; omega)), rfl⟩)
    · refine R_iconst (v := 1) dX2_hasCase_12 (by decide) ?_
      refine R_goto (tgt := 17) dX2_hasCase_13 (by decide) ?_
      exact R_zret dX2_hasCase_17 rfl (by first | exact Or.inl rfl | exact Or.inr rfl | assumption | omega) (⟨_, rfl, by (first | (simp_all [bl, hasB]; done) | (simp_all [bl, hasB, Int32.lt_iff_toInt_lt, Int32.le_iff_toInt_le]; done) | (simp_all [bl, hasB, Int32.lt_iff_toInt_lt, Int32.le_iff_toInt_le]; omega)), rfl⟩)
set_option maxRecDepth 4000 in
theorem e_isAway (G : GG) (hh : HH) {k : Nat} {a : AA} {v : VV} (h : StAt G hh k a v) (j : Int32) : EVp G mX2_isAway [.ref (ad G k), .int j] hh (bl (hasB (v 9) j)) := by
  refine EV.of [(0, .ref (ad G k)), (1, .int j)] (by decide +kernel) (Nat.le_of_ble_eq_true rfl) rfl ?_
  refine R_aload_n dX2_isAway_0 rfl ?_
  refine R_get dX2_isAway_1 gf_X2_55 h.1 rfl ?_
  refine R_iload_n dX2_isAway_4 rfl ?_
  refine R_ishr dX2_isAway_5 ?_
  refine R_iconst (v := 1) dX2_isAway_6 (by decide) ?_
  refine R_iand dX2_isAway_7 ?_
  refine R_iconst (v := 1) dX2_isAway_8 (by decide) ?_
  refine R_icmp_ne (tgt := 16) dX2_isAway_9 (by decide) (fun c9 => ?_) (fun c9 => ?_)
  · refine R_iconst (v := 0) dX2_isAway_16 (by decide) ?_
    exact R_zret dX2_isAway_17 rfl (by first | exact Or.inl rfl | exact Or.inr rfl | assumption | omega) (⟨_, rfl, by (first | (simp_all [bl, hasB]; done) | (simp_all [bl, hasB, Int32.lt_iff_toInt_lt, Int32.le_iff_toInt_le]; done) | (simp_all [bl, hasB, Int32.lt_iff_toInt_lt, Int32.le_iff_toInt_le]; omega)), rfl⟩)
  · refine R_iconst (v := 1) dX2_isAway_12 (by decide) ?_
    refine R_goto (tgt := 17) dX2_isAway_13 (by decide) ?_
    exact R_zret dX2_isAway_17 rfl (by first | exact Or.inl rfl | exact Or.inr rfl | assumption | omega) (⟨_, rfl, by (first | (simp_all [bl, hasB]; done) | (simp_all [bl, hasB, Int32.lt_iff_toInt_lt, Int32.le_iff_toInt_le]; done) | (simp_all [bl, hasB, Int32.lt_iff_toInt_lt, Int32.le_iff_toInt_le]; omega)), rfl⟩)
set_option maxRecDepth 4000 in
theorem e_isBarred (G : GG) (hh : HH) {k : Nat} {a : AA} {v : VV} (h : StAt G hh k a v) (j p : Int32) (hj : vp_in j 6) : EVp G mX2_isBarred [.ref (ad G k), .int j, .int p] hh (bl (hasB (a 2 j.toNatClampNeg) p)) := by
  refine EV.of [(0, .ref (ad G k)), (1, .int j), (2, .int p)] (by decide +kernel) (Nat.le_of_ble_eq_true rfl) rfl ?_
  refine R_aload_n dX2_isBarred_0 rfl ?_
  refine R_get dX2_isBarred_1 gf_X2_18 h.1 rfl ?_
  refine R_iload_n dX2_isBarred_4 rfl ?_
  refine R_iald dX2_isBarred_5 h.a2 (by assumption) ?_
  refine R_iload_n dX2_isBarred_6 rfl ?_
  refine R_ishr dX2_isBarred_7 ?_
  refine R_iconst (v := 1) dX2_isBarred_8 (by decide) ?_
  refine R_iand dX2_isBarred_9 ?_
  refine R_iconst (v := 1) dX2_isBarred_10 (by decide) ?_
  refine R_icmp_ne (tgt := 18) dX2_isBarred_11 (by decide) (fun c11 => ?_) (fun c11 => ?_)
  · refine R_iconst (v := 0) dX2_isBarred_18 (by decide) ?_
    exact R_zret dX2_isBarred_19 rfl (by first | exact Or.inl rfl | exact Or.inr rfl | assumption | omega) (⟨_, rfl, by (first | (simp_all [bl, hasB]; done) | (simp_all [bl, hasB, Int32.lt_iff_toInt_lt, Int32.le_iff_toInt_le]; done) | (simp_all [bl, hasB, Int32.lt_iff_toInt_lt, Int32.le_iff_toInt_le]; omega)), rfl⟩)
  · refine R_iconst (v := 1) dX2_isBarred_14 (by decide) ?_
    refine R_goto (tgt := 19) dX2_isBarred_15 (by decide) ?_
    exact R_zret dX2_isBarred_19 rfl (by first | exact Or.inl rfl | exact Or.inr rfl | assumption | omega) (⟨_, rfl, by (first | (simp_all [bl, hasB]; done) | (simp_all [bl, hasB, Int32.lt_iff_toInt_lt, Int32.le_iff_toInt_le]; done) | (simp_all [bl, hasB, Int32.lt_iff_toInt_lt, Int32.le_iff_toInt_le]; omega)), rfl⟩)
set_option maxRecDepth 4000 in
theorem e_isFreeFor (G : GG) (hh : HH) {k : Nat} {a : AA} {v : VV} (h : StAt G hh k a v) (j p : Int32) (hj : vp_in j 6) : EVp G mX2_isFreeFor [.ref (ad G k), .int j, .int p] hh (bl (!hasB (v 9) j && !hasB (a 2 j.toNatClampNeg) p)) := by
  refine EV.of [(0, .ref (ad G k)), (1, .int j), (2, .int p)] (by decide +kernel) (Nat.le_of_ble_eq_true rfl) rfl ?_
  refine R_aload_n dX2_isFreeFor_0 rfl ?_
  refine R_iload_n dX2_isFreeFor_1 rfl ?_
  refine R_callVp dX2_isFreeFor_2 cv_X2_74 ⟨by decide, by decide⟩ (e_isAway G hh h j) h.1 rfl rfl rfl (Nat.le_of_ble_eq_true rfl) ?_
  refine R_if_ne (tgt := 21) dX2_isFreeFor_5 (by decide) (fun c5 => ?_) (fun c5 => ?_)
  · refine R_iconst (v := 0) dX2_isFreeFor_21 (by decide) ?_
    exact R_zret dX2_isFreeFor_22 rfl (by first | exact Or.inl rfl | exact Or.inr rfl | assumption | omega) (⟨_, rfl, by (first | (simp_all [bl, hasB]; done) | (simp_all [bl, hasB, Int32.lt_iff_toInt_lt, Int32.le_iff_toInt_le]; done) | (simp_all [bl, hasB, Int32.lt_iff_toInt_lt, Int32.le_iff_toInt_le]; omega)), rfl⟩)
  · refine R_aload_n dX2_isFreeFor_8 rfl ?_
    refine R_iload_n dX2_isFreeFor_9 rfl ?_
    refine R_iload_n dX2_isFreeFor_10 rfl ?_
    refine R_callVp dX2_isFreeFor_11 cv_X2_78 ⟨by decide, by decide⟩ (e_isBarred G hh h j p hj) h.1 rfl rfl rfl (Nat.le_of_ble_eq_true rfl) ?_
    refine R_if_ne (tgt := 21) dX2_isFreeFor_14 (by decide) (fun c14 => ?_) (fun c14 => ?_)
    · refine R_iconst (v := 0) dX2_isFreeFor_21 (by decide) ?_
      exact R_zret dX2_isFreeFor_22 rfl (by first | exact Or.inl rfl | exact Or.inr rfl | assumption | omega) (⟨_, rfl, by (first | (simp_all [bl, hasB]; done) | (simp_all [bl, hasB, Int32.lt_iff_toInt_lt, Int32.le_iff_toInt_le]; done) | (simp_all [bl, hasB, Int32.lt_iff_toInt_lt, Int32.le_iff_toInt_le]; omega)), rfl⟩)
    · refine R_iconst (v := 1) dX2_isFreeFor_17 (by decide) ?_
      refine R_goto (tgt := 22) dX2_isFreeFor_18 (by decide) ?_
      exact R_zret dX2_isFreeFor_22 rfl (by first | exact Or.inl rfl | exact Or.inr rfl | assumption | omega) (⟨_, rfl, by (first | (simp_all [bl, hasB]; done) | (simp_all [bl, hasB, Int32.lt_iff_toInt_lt, Int32.le_iff_toInt_le]; done) | (simp_all [bl, hasB, Int32.lt_iff_toInt_lt, Int32.le_iff_toInt_le]; omega)), rfl⟩)
