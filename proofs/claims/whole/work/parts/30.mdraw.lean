/-- the reference's part at place B of its row, as arrays and scalars of a state -/
def mA (a : AA) (B : Nat) : AA := fun f j => if f = 0 then a 3 j else if f = 1 then a 4 j else if f = 2 then a 0 (B + 5 + j) else if f = 3 then a 0 (B + 11 + j) else if f = 4 then a 0 (B + 17 + j) else if f = 5 then a 0 (B + 37 + j) else if f = 6 then a 0 (B + 57 + j) else 0
def mV (a : AA) (v : VV) (B : Nat) : VV := fun i => if i = 8 then v 1 else if i = 9 then a 0 (B + 4) else if i = 10 then v 2 else if i = 11 then a 0 B else if i = 12 then a 0 (B + 1) else if i = 13 then a 0 (B + 2) else a 0 (B + 3)
def ruleOK (r : Int32) : Prop := r = 0 ∨ r = 1 ∨ r = 2 ∨ r = 3
theorem two_I (x : Int32) : (2 : Int32) * x = x + x := by
  rw [show (2 : Int32) = 1 + 1 from rfl, Int32.add_mul, Int32.one_mul]
theorem wt_m0 {a : AA} {v : VV} {B j : Nat} {s : Int32} (h : hasB (a 0 (B + 4)) (nI j) = true) : wt (mA a B) (mV a v B) j s = 0 := if_pos h
/-- the weight, as the reference reckons it -/
theorem wt_m {a : AA} {v : VV} {B j : Nat} {s w1 w2 : Int32} (h : ¬ hasB (a 0 (B + 4)) (nI j) = true) (hr : ruleOK (v 2)) (h1 : w1 = if (v 2 = 1 ∨ v 2 = 3) ∧ hasB (a 4 j) s = true then 2 * a 3 j else a 3 j) (h2 : w2 = w1 + if v 2 = 2 ∨ v 2 = 3 then a 0 (B + 11 + j) else 0) : wt (mA a B) (mV a v B) j s = if w2 < 1 then 1 else w2 := by
  show (if hasB (a 0 (B + 4)) (nI j) = true then 0 else _) = _
  rw [if_neg h]
  show (let q1 := if ¬ (v 2 &&& 1 = 0) ∧ hasB (a 4 j) s = true then a 3 j + a 3 j else a 3 j
    let q2 := if ¬ (v 2 &&& 2 = 0) then q1 + a 0 (B + 11 + j) else q1
    if q2 < 1 then 1 else q2) = _
  have e1 : (if ¬ (v 2 &&& 1 = 0) ∧ hasB (a 4 j) s = true then a 3 j + a 3 j else a 3 j) = w1 := by
    rw [h1, two_I]
    rcases hr with e | e | e | e <;> rw [e] <;> simp [show (2 : Int32) &&& 1 = 0 by decide, show (3 : Int32) &&& 1 = 1 by decide]
  have e2 : (if ¬ (v 2 &&& 2 = 0) then w1 + a 0 (B + 11 + j) else w1) = w2 := by
    rw [h2]
    rcases hr with e | e | e | e <;> rw [e] <;> simp [show (1 : Int32) &&& 2 = 0 by decide, show (3 : Int32) &&& 2 = 2 by decide]
  simp only [e1, e2]
set_option maxRecDepth 4000 in
theorem m_weightOf (G : GG) (hh : HH) {k : Nat} {a : AA} {v : VV} (h : MdAt G hh k a v) {B : Nat} (hB : B ≤ 924) (hr : ruleOK (v 2)) (j : Nat) (hj : j < 6) (s : Int32) : EVp G mX5_weightOf [.ref (ad G k), .int (nI B), .int (nI j), .int s] hh (wt (mA a B) (mV a v B) j s) := by
  refine EV.of [(0, .ref (ad G k)), (1, .int (nI B)), (2, .int (nI j)), (3, .int s)] (by decide +kernel) (Nat.le_of_ble_eq_true rfl) rfl ?_
  refine R_aload_n dX5_weightOf_0 rfl ?_
  refine R_get dX5_weightOf_1 gf_X5_7 h.1 rfl ?_
  refine R_iload_n dX5_weightOf_4 rfl ?_
  refine R_iconst (v := 4) dX5_weightOf_5 (by decide) ?_
  refine R_iadd dX5_weightOf_6 ?_
  refine RR.top (y := nI (B + 4)) (nI_add (B) (4)) ?_
  refine R_ialdN dX5_weightOf_7 h.a0 (by omega) (by decide) ?_
  refine R_iload_n dX5_weightOf_8 rfl ?_
  refine R_callSp dX5_weightOf_9 cs_X5_93 ⟨by decide, by decide⟩ (e_has G hh (a 0 (B + 4)) (nI j)) rfl rfl (Nat.le_of_ble_eq_true rfl) ?_
  refine R_if_eq (tgt := 17) dX5_weightOf_12 (by decide) (fun c12 => ?_) (fun c12 => ?_)
  · refine R_aload_n dX5_weightOf_17 rfl ?_
    refine R_get dX5_weightOf_18 gf_X5_13 h.1 rfl ?_
    refine R_iload_n dX5_weightOf_21 rfl ?_
    refine R_ialdN dX5_weightOf_22 h.a3 (by omega) (by decide) ?_
    refine R_istore dX5_weightOf_23 (by decide) ?_
    refine R_aload_n dX5_weightOf_25 rfl ?_
    refine R_get dX5_weightOf_26 gf_X5_52 h.1 rfl ?_
    refine R_iconst (v := 1) dX5_weightOf_29 (by decide) ?_
    refine R_icmp_eq (tgt := 41) dX5_weightOf_30 (by decide) (fun c30 => ?_) (fun c30 => ?_)
    · refine R_aload_n dX5_weightOf_41 rfl ?_
      refine R_get dX5_weightOf_42 gf_X5_16 h.1 rfl ?_
      refine R_iload_n dX5_weightOf_45 rfl ?_
      refine R_ialdN dX5_weightOf_46 h.a4 (by omega) (by decide) ?_
      refine R_iload_n dX5_weightOf_47 rfl ?_
      refine R_callSp dX5_weightOf_48 cs_X5_93 ⟨by decide, by decide⟩ (e_has G hh (a 4 j) s) rfl rfl (Nat.le_of_ble_eq_true rfl) ?_
      refine R_if_eq (tgt := 61) dX5_weightOf_51 (by decide) (fun c51 => ?_) (fun c51 => ?_)
      · refine R_iload dX5_weightOf_61 rfl ?_
        refine R_istore dX5_weightOf_63 (by decide) ?_
        refine R_iload dX5_weightOf_65 rfl ?_
        refine R_aload_n dX5_weightOf_67 rfl ?_
        refine R_get dX5_weightOf_68 gf_X5_52 h.1 rfl ?_
        refine R_iconst (v := 2) dX5_weightOf_71 (by decide) ?_
        refine R_icmp_eq (tgt := 83) dX5_weightOf_72 (by decide) (fun c72 => ?_) (fun c72 => ?_)
        · refine R_aload_n dX5_weightOf_83 rfl ?_
          refine R_get dX5_weightOf_84 gf_X5_7 h.1 rfl ?_
          refine R_iload_n dX5_weightOf_87 rfl ?_
          refine R_bipush (v := 11) dX5_weightOf_88 (by decide) ?_
          refine R_iadd dX5_weightOf_90 ?_
          refine RR.top (y := nI (B + 11)) (nI_add (B) (11)) ?_
          refine R_iload_n dX5_weightOf_91 rfl ?_
          refine R_iadd dX5_weightOf_92 ?_
          refine RR.top (y := nI ((B + 11) + j)) (nI_add (B + 11) (j)) ?_
          refine R_ialdN dX5_weightOf_93 h.a0 (by omega) (by decide) ?_
          refine R_goto (tgt := 98) dX5_weightOf_94 (by decide) ?_
          refine R_iadd dX5_weightOf_98 ?_
          refine R_istore dX5_weightOf_99 (by decide) ?_
          refine R_iload dX5_weightOf_101 rfl ?_
          refine R_iconst (v := 1) dX5_weightOf_103 (by decide) ?_
          refine R_icmp_ge (tgt := 111) dX5_weightOf_104 (by decide) (fun c104 => ?_) (fun c104 => ?_)
          · refine R_iload dX5_weightOf_111 rfl ?_
            exact R_iret dX5_weightOf_113 rfl (⟨_, rfl, by (rw [wt_m (by have q := c12; revert q; cases hasB (a 0 (B + 4)) (nI j) <;> simp [bl]) hr (by rw [if_neg (fun q => by have q1 := q.2; revert c51; simp [bl, q1])]) (by rw [if_pos (Or.inl c72)]), if_neg (Int32.not_lt.mpr c104)]), rfl⟩)
          · refine R_iconst (v := 1) dX5_weightOf_107 (by decide) ?_
            refine R_goto (tgt := 113) dX5_weightOf_108 (by decide) ?_
            exact R_iret dX5_weightOf_113 rfl (⟨_, rfl, by (rw [wt_m (by have q := c12; revert q; cases hasB (a 0 (B + 4)) (nI j) <;> simp [bl]) hr (by rw [if_neg (fun q => by have q1 := q.2; revert c51; simp [bl, q1])]) (by rw [if_pos (Or.inl c72)]), if_pos (Int32.not_le.mp c104)]), rfl⟩)
        · refine R_aload_n dX5_weightOf_75 rfl ?_
          refine R_get dX5_weightOf_76 gf_X5_52 h.1 rfl ?_
          refine R_iconst (v := 3) dX5_weightOf_79 (by decide) ?_
          refine R_icmp_ne (tgt := 97) dX5_weightOf_80 (by decide) (fun c80 => ?_) (fun c80 => ?_)
          · refine R_iconst (v := 0) dX5_weightOf_97 (by decide) ?_
            refine R_iadd dX5_weightOf_98 ?_
            refine R_istore dX5_weightOf_99 (by decide) ?_
            refine R_iload dX5_weightOf_101 rfl ?_
            refine R_iconst (v := 1) dX5_weightOf_103 (by decide) ?_
            refine R_icmp_ge (tgt := 111) dX5_weightOf_104 (by decide) (fun c104 => ?_) (fun c104 => ?_)
            · refine R_iload dX5_weightOf_111 rfl ?_
              exact R_iret dX5_weightOf_113 rfl (⟨_, rfl, by (rw [wt_m (by have q := c12; revert q; cases hasB (a 0 (B + 4)) (nI j) <;> simp [bl]) hr (by rw [if_neg (fun q => by have q1 := q.2; revert c51; simp [bl, q1])]) (by rw [if_neg (fun q => q.elim c72 c80)]), if_neg (Int32.not_lt.mpr c104)]), rfl⟩)
            · refine R_iconst (v := 1) dX5_weightOf_107 (by decide) ?_
              refine R_goto (tgt := 113) dX5_weightOf_108 (by decide) ?_
              exact R_iret dX5_weightOf_113 rfl (⟨_, rfl, by (rw [wt_m (by have q := c12; revert q; cases hasB (a 0 (B + 4)) (nI j) <;> simp [bl]) hr (by rw [if_neg (fun q => by have q1 := q.2; revert c51; simp [bl, q1])]) (by rw [if_neg (fun q => q.elim c72 c80)]), if_pos (Int32.not_le.mp c104)]), rfl⟩)
          · refine R_aload_n dX5_weightOf_83 rfl ?_
            refine R_get dX5_weightOf_84 gf_X5_7 h.1 rfl ?_
            refine R_iload_n dX5_weightOf_87 rfl ?_
            refine R_bipush (v := 11) dX5_weightOf_88 (by decide) ?_
            refine R_iadd dX5_weightOf_90 ?_
            refine RR.top (y := nI (B + 11)) (nI_add (B) (11)) ?_
            refine R_iload_n dX5_weightOf_91 rfl ?_
            refine R_iadd dX5_weightOf_92 ?_
            refine RR.top (y := nI ((B + 11) + j)) (nI_add (B + 11) (j)) ?_
            refine R_ialdN dX5_weightOf_93 h.a0 (by omega) (by decide) ?_
            refine R_goto (tgt := 98) dX5_weightOf_94 (by decide) ?_
            refine R_iadd dX5_weightOf_98 ?_
            refine R_istore dX5_weightOf_99 (by decide) ?_
            refine R_iload dX5_weightOf_101 rfl ?_
            refine R_iconst (v := 1) dX5_weightOf_103 (by decide) ?_
            refine R_icmp_ge (tgt := 111) dX5_weightOf_104 (by decide) (fun c104 => ?_) (fun c104 => ?_)
            · refine R_iload dX5_weightOf_111 rfl ?_
              exact R_iret dX5_weightOf_113 rfl (⟨_, rfl, by (rw [wt_m (by have q := c12; revert q; cases hasB (a 0 (B + 4)) (nI j) <;> simp [bl]) hr (by rw [if_neg (fun q => by have q1 := q.2; revert c51; simp [bl, q1])]) (by rw [if_pos (Or.inr (Classical.not_not.mp c80))]), if_neg (Int32.not_lt.mpr c104)]), rfl⟩)
            · refine R_iconst (v := 1) dX5_weightOf_107 (by decide) ?_
              refine R_goto (tgt := 113) dX5_weightOf_108 (by decide) ?_
              exact R_iret dX5_weightOf_113 rfl (⟨_, rfl, by (rw [wt_m (by have q := c12; revert q; cases hasB (a 0 (B + 4)) (nI j) <;> simp [bl]) hr (by rw [if_neg (fun q => by have q1 := q.2; revert c51; simp [bl, q1])]) (by rw [if_pos (Or.inr (Classical.not_not.mp c80))]), if_pos (Int32.not_le.mp c104)]), rfl⟩)
      · refine R_iconst (v := 2) dX5_weightOf_54 (by decide) ?_
        refine R_iload dX5_weightOf_55 rfl ?_
        refine R_imul dX5_weightOf_57 ?_
        refine R_goto (tgt := 63) dX5_weightOf_58 (by decide) ?_
        refine R_istore dX5_weightOf_63 (by decide) ?_
        refine R_iload dX5_weightOf_65 rfl ?_
        refine R_aload_n dX5_weightOf_67 rfl ?_
        refine R_get dX5_weightOf_68 gf_X5_52 h.1 rfl ?_
        refine R_iconst (v := 2) dX5_weightOf_71 (by decide) ?_
        refine R_icmp_eq (tgt := 83) dX5_weightOf_72 (by decide) (fun c72 => ?_) (fun c72 => ?_)
        · refine R_aload_n dX5_weightOf_83 rfl ?_
          refine R_get dX5_weightOf_84 gf_X5_7 h.1 rfl ?_
          refine R_iload_n dX5_weightOf_87 rfl ?_
          refine R_bipush (v := 11) dX5_weightOf_88 (by decide) ?_
          refine R_iadd dX5_weightOf_90 ?_
          refine RR.top (y := nI (B + 11)) (nI_add (B) (11)) ?_
          refine R_iload_n dX5_weightOf_91 rfl ?_
          refine R_iadd dX5_weightOf_92 ?_
          refine RR.top (y := nI ((B + 11) + j)) (nI_add (B + 11) (j)) ?_
          refine R_ialdN dX5_weightOf_93 h.a0 (by omega) (by decide) ?_
          refine R_goto (tgt := 98) dX5_weightOf_94 (by decide) ?_
          refine R_iadd dX5_weightOf_98 ?_
          refine R_istore dX5_weightOf_99 (by decide) ?_
          refine R_iload dX5_weightOf_101 rfl ?_
          refine R_iconst (v := 1) dX5_weightOf_103 (by decide) ?_
          refine R_icmp_ge (tgt := 111) dX5_weightOf_104 (by decide) (fun c104 => ?_) (fun c104 => ?_)
          · refine R_iload dX5_weightOf_111 rfl ?_
            exact R_iret dX5_weightOf_113 rfl (⟨_, rfl, by (rw [wt_m (by have q := c12; revert q; cases hasB (a 0 (B + 4)) (nI j) <;> simp [bl]) hr (by rw [if_pos ⟨(Or.inl c30), bl_t c51⟩]) (by rw [if_pos (Or.inl c72)]), if_neg (Int32.not_lt.mpr c104)]), rfl⟩)
          · refine R_iconst (v := 1) dX5_weightOf_107 (by decide) ?_
            refine R_goto (tgt := 113) dX5_weightOf_108 (by decide) ?_
            exact R_iret dX5_weightOf_113 rfl (⟨_, rfl, by (rw [wt_m (by have q := c12; revert q; cases hasB (a 0 (B + 4)) (nI j) <;> simp [bl]) hr (by rw [if_pos ⟨(Or.inl c30), bl_t c51⟩]) (by rw [if_pos (Or.inl c72)]), if_pos (Int32.not_le.mp c104)]), rfl⟩)
        · refine R_aload_n dX5_weightOf_75 rfl ?_
          refine R_get dX5_weightOf_76 gf_X5_52 h.1 rfl ?_
          refine R_iconst (v := 3) dX5_weightOf_79 (by decide) ?_
          refine R_icmp_ne (tgt := 97) dX5_weightOf_80 (by decide) (fun c80 => ?_) (fun c80 => ?_)
          · refine R_iconst (v := 0) dX5_weightOf_97 (by decide) ?_
            refine R_iadd dX5_weightOf_98 ?_
            refine R_istore dX5_weightOf_99 (by decide) ?_
            refine R_iload dX5_weightOf_101 rfl ?_
            refine R_iconst (v := 1) dX5_weightOf_103 (by decide) ?_
            refine R_icmp_ge (tgt := 111) dX5_weightOf_104 (by decide) (fun c104 => ?_) (fun c104 => ?_)
            · refine R_iload dX5_weightOf_111 rfl ?_
              exact R_iret dX5_weightOf_113 rfl (⟨_, rfl, by (rw [wt_m (by have q := c12; revert q; cases hasB (a 0 (B + 4)) (nI j) <;> simp [bl]) hr (by rw [if_pos ⟨(Or.inl c30), bl_t c51⟩]) (by rw [if_neg (fun q => q.elim c72 c80)]), if_neg (Int32.not_lt.mpr c104)]), rfl⟩)
            · refine R_iconst (v := 1) dX5_weightOf_107 (by decide) ?_
              refine R_goto (tgt := 113) dX5_weightOf_108 (by decide) ?_
              exact R_iret dX5_weightOf_113 rfl (⟨_, rfl, by (rw [wt_m (by have q := c12; revert q; cases hasB (a 0 (B + 4)) (nI j) <;> simp [bl]) hr (by rw [if_pos ⟨(Or.inl c30), bl_t c51⟩]) (by rw [if_neg (fun q => q.elim c72 c80)]), if_pos (Int32.not_le.mp c104)]), rfl⟩)
          · refine R_aload_n dX5_weightOf_83 rfl ?_
            refine R_get dX5_weightOf_84 gf_X5_7 h.1 rfl ?_
            refine R_iload_n dX5_weightOf_87 rfl ?_
            refine R_bipush (v := 11) dX5_weightOf_88 (by decide) ?_
            refine R_iadd dX5_weightOf_90 ?_
            refine RR.top (y := nI (B + 11)) (nI_add (B) (11)) ?_
            refine R_iload_n dX5_weightOf_91 rfl ?_
            refine R_iadd dX5_weightOf_92 ?_
            refine RR.top (y := nI ((B + 11) + j)) (nI_add (B + 11) (j)) ?_
            refine R_ialdN dX5_weightOf_93 h.a0 (by omega) (by decide) ?_
            refine R_goto (tgt := 98) dX5_weightOf_94 (by decide) ?_
            refine R_iadd dX5_weightOf_98 ?_
            refine R_istore dX5_weightOf_99 (by decide) ?_
            refine R_iload dX5_weightOf_101 rfl ?_
            refine R_iconst (v := 1) dX5_weightOf_103 (by decide) ?_
            refine R_icmp_ge (tgt := 111) dX5_weightOf_104 (by decide) (fun c104 => ?_) (fun c104 => ?_)
            · refine R_iload dX5_weightOf_111 rfl ?_
              exact R_iret dX5_weightOf_113 rfl (⟨_, rfl, by (rw [wt_m (by have q := c12; revert q; cases hasB (a 0 (B + 4)) (nI j) <;> simp [bl]) hr (by rw [if_pos ⟨(Or.inl c30), bl_t c51⟩]) (by rw [if_pos (Or.inr (Classical.not_not.mp c80))]), if_neg (Int32.not_lt.mpr c104)]), rfl⟩)
            · refine R_iconst (v := 1) dX5_weightOf_107 (by decide) ?_
              refine R_goto (tgt := 113) dX5_weightOf_108 (by decide) ?_
              exact R_iret dX5_weightOf_113 rfl (⟨_, rfl, by (rw [wt_m (by have q := c12; revert q; cases hasB (a 0 (B + 4)) (nI j) <;> simp [bl]) hr (by rw [if_pos ⟨(Or.inl c30), bl_t c51⟩]) (by rw [if_pos (Or.inr (Classical.not_not.mp c80))]), if_pos (Int32.not_le.mp c104)]), rfl⟩)
    · refine R_aload_n dX5_weightOf_33 rfl ?_
      refine R_get dX5_weightOf_34 gf_X5_52 h.1 rfl ?_
      refine R_iconst (v := 3) dX5_weightOf_37 (by decide) ?_
      refine R_icmp_ne (tgt := 61) dX5_weightOf_38 (by decide) (fun c38 => ?_) (fun c38 => ?_)
      · refine R_iload dX5_weightOf_61 rfl ?_
        refine R_istore dX5_weightOf_63 (by decide) ?_
        refine R_iload dX5_weightOf_65 rfl ?_
        refine R_aload_n dX5_weightOf_67 rfl ?_
        refine R_get dX5_weightOf_68 gf_X5_52 h.1 rfl ?_
        refine R_iconst (v := 2) dX5_weightOf_71 (by decide) ?_
        refine R_icmp_eq (tgt := 83) dX5_weightOf_72 (by decide) (fun c72 => ?_) (fun c72 => ?_)
        · refine R_aload_n dX5_weightOf_83 rfl ?_
          refine R_get dX5_weightOf_84 gf_X5_7 h.1 rfl ?_
          refine R_iload_n dX5_weightOf_87 rfl ?_
          refine R_bipush (v := 11) dX5_weightOf_88 (by decide) ?_
          refine R_iadd dX5_weightOf_90 ?_
          refine RR.top (y := nI (B + 11)) (nI_add (B) (11)) ?_
          refine R_iload_n dX5_weightOf_91 rfl ?_
          refine R_iadd dX5_weightOf_92 ?_
          refine RR.top (y := nI ((B + 11) + j)) (nI_add (B + 11) (j)) ?_
          refine R_ialdN dX5_weightOf_93 h.a0 (by omega) (by decide) ?_
          refine R_goto (tgt := 98) dX5_weightOf_94 (by decide) ?_
          refine R_iadd dX5_weightOf_98 ?_
          refine R_istore dX5_weightOf_99 (by decide) ?_
          refine R_iload dX5_weightOf_101 rfl ?_
          refine R_iconst (v := 1) dX5_weightOf_103 (by decide) ?_
          refine R_icmp_ge (tgt := 111) dX5_weightOf_104 (by decide) (fun c104 => ?_) (fun c104 => ?_)
          · refine R_iload dX5_weightOf_111 rfl ?_
            exact R_iret dX5_weightOf_113 rfl (⟨_, rfl, by (rw [wt_m (by have q := c12; revert q; cases hasB (a 0 (B + 4)) (nI j) <;> simp [bl]) hr (by rw [if_neg (fun q => q.1.elim c30 c38)]) (by rw [if_pos (Or.inl c72)]), if_neg (Int32.not_lt.mpr c104)]), rfl⟩)
          · refine R_iconst (v := 1) dX5_weightOf_107 (by decide) ?_
            refine R_goto (tgt := 113) dX5_weightOf_108 (by decide) ?_
            exact R_iret dX5_weightOf_113 rfl (⟨_, rfl, by (rw [wt_m (by have q := c12; revert q; cases hasB (a 0 (B + 4)) (nI j) <;> simp [bl]) hr (by rw [if_neg (fun q => q.1.elim c30 c38)]) (by rw [if_pos (Or.inl c72)]), if_pos (Int32.not_le.mp c104)]), rfl⟩)
        · refine R_aload_n dX5_weightOf_75 rfl ?_
          refine R_get dX5_weightOf_76 gf_X5_52 h.1 rfl ?_
          refine R_iconst (v := 3) dX5_weightOf_79 (by decide) ?_
          refine R_icmp_ne (tgt := 97) dX5_weightOf_80 (by decide) (fun c80 => ?_) (fun c80 => ?_)
          · refine R_iconst (v := 0) dX5_weightOf_97 (by decide) ?_
            refine R_iadd dX5_weightOf_98 ?_
            refine R_istore dX5_weightOf_99 (by decide) ?_
            refine R_iload dX5_weightOf_101 rfl ?_
            refine R_iconst (v := 1) dX5_weightOf_103 (by decide) ?_
            refine R_icmp_ge (tgt := 111) dX5_weightOf_104 (by decide) (fun c104 => ?_) (fun c104 => ?_)
            · refine R_iload dX5_weightOf_111 rfl ?_
              exact R_iret dX5_weightOf_113 rfl (⟨_, rfl, by (rw [wt_m (by have q := c12; revert q; cases hasB (a 0 (B + 4)) (nI j) <;> simp [bl]) hr (by rw [if_neg (fun q => q.1.elim c30 c38)]) (by rw [if_neg (fun q => q.elim c72 c80)]), if_neg (Int32.not_lt.mpr c104)]), rfl⟩)
            · refine R_iconst (v := 1) dX5_weightOf_107 (by decide) ?_
              refine R_goto (tgt := 113) dX5_weightOf_108 (by decide) ?_
              exact R_iret dX5_weightOf_113 rfl (⟨_, rfl, by (rw [wt_m (by have q := c12; revert q; cases hasB (a 0 (B + 4)) (nI j) <;> simp [bl]) hr (by rw [if_neg (fun q => q.1.elim c30 c38)]) (by rw [if_neg (fun q => q.elim c72 c80)]), if_pos (Int32.not_le.mp c104)]), rfl⟩)
          · refine R_aload_n dX5_weightOf_83 rfl ?_
            refine R_get dX5_weightOf_84 gf_X5_7 h.1 rfl ?_
            refine R_iload_n dX5_weightOf_87 rfl ?_
            refine R_bipush (v := 11) dX5_weightOf_88 (by decide) ?_
            refine R_iadd dX5_weightOf_90 ?_
            refine RR.top (y := nI (B + 11)) (nI_add (B) (11)) ?_
            refine R_iload_n dX5_weightOf_91 rfl ?_
            refine R_iadd dX5_weightOf_92 ?_
            refine RR.top (y := nI ((B + 11) + j)) (nI_add (B + 11) (j)) ?_
            refine R_ialdN dX5_weightOf_93 h.a0 (by omega) (by decide) ?_
            refine R_goto (tgt := 98) dX5_weightOf_94 (by decide) ?_
            refine R_iadd dX5_weightOf_98 ?_
            refine R_istore dX5_weightOf_99 (by decide) ?_
            refine R_iload dX5_weightOf_101 rfl ?_
            refine R_iconst (v := 1) dX5_weightOf_103 (by decide) ?_
            refine R_icmp_ge (tgt := 111) dX5_weightOf_104 (by decide) (fun c104 => ?_) (fun c104 => ?_)
            · refine R_iload dX5_weightOf_111 rfl ?_
              exact R_iret dX5_weightOf_113 rfl (⟨_, rfl, by (rw [wt_m (by have q := c12; revert q; cases hasB (a 0 (B + 4)) (nI j) <;> simp [bl]) hr (by rw [if_neg (fun q => q.1.elim c30 c38)]) (by rw [if_pos (Or.inr (Classical.not_not.mp c80))]), if_neg (Int32.not_lt.mpr c104)]), rfl⟩)
            · refine R_iconst (v := 1) dX5_weightOf_107 (by decide) ?_
              refine R_goto (tgt := 113) dX5_weightOf_108 (by decide) ?_
              exact R_iret dX5_weightOf_113 rfl (⟨_, rfl, by (rw [wt_m (by have q := c12; revert q; cases hasB (a 0 (B + 4)) (nI j) <;> simp [bl]) hr (by rw [if_neg (fun q => q.1.elim c30 c38)]) (by rw [if_pos (Or.inr (Classical.not_not.mp c80))]), if_pos (Int32.not_le.mp c104)]), rfl⟩)
      · refine R_aload_n dX5_weightOf_41 rfl ?_
        refine R_get dX5_weightOf_42 gf_X5_16 h.1 rfl ?_
        refine R_iload_n dX5_weightOf_45 rfl ?_
        refine R_ialdN dX5_weightOf_46 h.a4 (by omega) (by decide) ?_
        refine R_iload_n dX5_weightOf_47 rfl ?_
        refine R_callSp dX5_weightOf_48 cs_X5_93 ⟨by decide, by decide⟩ (e_has G hh (a 4 j) s) rfl rfl (Nat.le_of_ble_eq_true rfl) ?_
        refine R_if_eq (tgt := 61) dX5_weightOf_51 (by decide) (fun c51 => ?_) (fun c51 => ?_)
        · refine R_iload dX5_weightOf_61 rfl ?_
          refine R_istore dX5_weightOf_63 (by decide) ?_
          refine R_iload dX5_weightOf_65 rfl ?_
          refine R_aload_n dX5_weightOf_67 rfl ?_
          refine R_get dX5_weightOf_68 gf_X5_52 h.1 rfl ?_
          refine R_iconst (v := 2) dX5_weightOf_71 (by decide) ?_
          refine R_icmp_eq (tgt := 83) dX5_weightOf_72 (by decide) (fun c72 => ?_) (fun c72 => ?_)
          · refine R_aload_n dX5_weightOf_83 rfl ?_
            refine R_get dX5_weightOf_84 gf_X5_7 h.1 rfl ?_
            refine R_iload_n dX5_weightOf_87 rfl ?_
            refine R_bipush (v := 11) dX5_weightOf_88 (by decide) ?_
            refine R_iadd dX5_weightOf_90 ?_
            refine RR.top (y := nI (B + 11)) (nI_add (B) (11)) ?_
            refine R_iload_n dX5_weightOf_91 rfl ?_
            refine R_iadd dX5_weightOf_92 ?_
            refine RR.top (y := nI ((B + 11) + j)) (nI_add (B + 11) (j)) ?_
            refine R_ialdN dX5_weightOf_93 h.a0 (by omega) (by decide) ?_
            refine R_goto (tgt := 98) dX5_weightOf_94 (by decide) ?_
            refine R_iadd dX5_weightOf_98 ?_
            refine R_istore dX5_weightOf_99 (by decide) ?_
            refine R_iload dX5_weightOf_101 rfl ?_
            refine R_iconst (v := 1) dX5_weightOf_103 (by decide) ?_
            refine R_icmp_ge (tgt := 111) dX5_weightOf_104 (by decide) (fun c104 => ?_) (fun c104 => ?_)
            · refine R_iload dX5_weightOf_111 rfl ?_
              exact R_iret dX5_weightOf_113 rfl (⟨_, rfl, by (rw [wt_m (by have q := c12; revert q; cases hasB (a 0 (B + 4)) (nI j) <;> simp [bl]) hr (by rw [if_neg (fun q => by have q1 := q.2; revert c51; simp [bl, q1])]) (by rw [if_pos (Or.inl c72)]), if_neg (Int32.not_lt.mpr c104)]), rfl⟩)
            · refine R_iconst (v := 1) dX5_weightOf_107 (by decide) ?_
              refine R_goto (tgt := 113) dX5_weightOf_108 (by decide) ?_
              exact R_iret dX5_weightOf_113 rfl (⟨_, rfl, by (rw [wt_m (by have q := c12; revert q; cases hasB (a 0 (B + 4)) (nI j) <;> simp [bl]) hr (by rw [if_neg (fun q => by have q1 := q.2; revert c51; simp [bl, q1])]) (by rw [if_pos (Or.inl c72)]), if_pos (Int32.not_le.mp c104)]), rfl⟩)
          · refine R_aload_n dX5_weightOf_75 rfl ?_
            refine R_get dX5_weightOf_76 gf_X5_52 h.1 rfl ?_
            refine R_iconst (v := 3) dX5_weightOf_79 (by decide) ?_
            refine R_icmp_ne (tgt := 97) dX5_weightOf_80 (by decide) (fun c80 => ?_) (fun c80 => ?_)
            · refine R_iconst (v := 0) dX5_weightOf_97 (by decide) ?_
              refine R_iadd dX5_weightOf_98 ?_
              refine R_istore dX5_weightOf_99 (by decide) ?_
              refine R_iload dX5_weightOf_101 rfl ?_
              refine R_iconst (v := 1) dX5_weightOf_103 (by decide) ?_
              refine R_icmp_ge (tgt := 111) dX5_weightOf_104 (by decide) (fun c104 => ?_) (fun c104 => ?_)
              · refine R_iload dX5_weightOf_111 rfl ?_
                exact R_iret dX5_weightOf_113 rfl (⟨_, rfl, by (rw [wt_m (by have q := c12; revert q; cases hasB (a 0 (B + 4)) (nI j) <;> simp [bl]) hr (by rw [if_neg (fun q => by have q1 := q.2; revert c51; simp [bl, q1])]) (by rw [if_neg (fun q => q.elim c72 c80)]), if_neg (Int32.not_lt.mpr c104)]), rfl⟩)
              · refine R_iconst (v := 1) dX5_weightOf_107 (by decide) ?_
                refine R_goto (tgt := 113) dX5_weightOf_108 (by decide) ?_
                exact R_iret dX5_weightOf_113 rfl (⟨_, rfl, by (rw [wt_m (by have q := c12; revert q; cases hasB (a 0 (B + 4)) (nI j) <;> simp [bl]) hr (by rw [if_neg (fun q => by have q1 := q.2; revert c51; simp [bl, q1])]) (by rw [if_neg (fun q => q.elim c72 c80)]), if_pos (Int32.not_le.mp c104)]), rfl⟩)
            · refine R_aload_n dX5_weightOf_83 rfl ?_
              refine R_get dX5_weightOf_84 gf_X5_7 h.1 rfl ?_
              refine R_iload_n dX5_weightOf_87 rfl ?_
              refine R_bipush (v := 11) dX5_weightOf_88 (by decide) ?_
              refine R_iadd dX5_weightOf_90 ?_
              refine RR.top (y := nI (B + 11)) (nI_add (B) (11)) ?_
              refine R_iload_n dX5_weightOf_91 rfl ?_
              refine R_iadd dX5_weightOf_92 ?_
              refine RR.top (y := nI ((B + 11) + j)) (nI_add (B + 11) (j)) ?_
              refine R_ialdN dX5_weightOf_93 h.a0 (by omega) (by decide) ?_
              refine R_goto (tgt := 98) dX5_weightOf_94 (by decide) ?_
              refine R_iadd dX5_weightOf_98 ?_
              refine R_istore dX5_weightOf_99 (by decide) ?_
              refine R_iload dX5_weightOf_101 rfl ?_
              refine R_iconst (v := 1) dX5_weightOf_103 (by decide) ?_
              refine R_icmp_ge (tgt := 111) dX5_weightOf_104 (by decide) (fun c104 => ?_) (fun c104 => ?_)
              · refine R_iload dX5_weightOf_111 rfl ?_
                exact R_iret dX5_weightOf_113 rfl (⟨_, rfl, by (rw [wt_m (by have q := c12; revert q; cases hasB (a 0 (B + 4)) (nI j) <;> simp [bl]) hr (by rw [if_neg (fun q => by have q1 := q.2; revert c51; simp [bl, q1])]) (by rw [if_pos (Or.inr (Classical.not_not.mp c80))]), if_neg (Int32.not_lt.mpr c104)]), rfl⟩)
              · refine R_iconst (v := 1) dX5_weightOf_107 (by decide) ?_
                refine R_goto (tgt := 113) dX5_weightOf_108 (by decide) ?_
                exact R_iret dX5_weightOf_113 rfl (⟨_, rfl, by (rw [wt_m (by have q := c12; revert q; cases hasB (a 0 (B + 4)) (nI j) <;> simp [bl]) hr (by rw [if_neg (fun q => by have q1 := q.2; revert c51; simp [bl, q1])]) (by rw [if_pos (Or.inr (Classical.not_not.mp c80))]), if_pos (Int32.not_le.mp c104)]), rfl⟩)
        · refine R_iconst (v := 2) dX5_weightOf_54 (by decide) ?_
          refine R_iload dX5_weightOf_55 rfl ?_
          refine R_imul dX5_weightOf_57 ?_
          refine R_goto (tgt := 63) dX5_weightOf_58 (by decide) ?_
          refine R_istore dX5_weightOf_63 (by decide) ?_
          refine R_iload dX5_weightOf_65 rfl ?_
          refine R_aload_n dX5_weightOf_67 rfl ?_
          refine R_get dX5_weightOf_68 gf_X5_52 h.1 rfl ?_
          refine R_iconst (v := 2) dX5_weightOf_71 (by decide) ?_
          refine R_icmp_eq (tgt := 83) dX5_weightOf_72 (by decide) (fun c72 => ?_) (fun c72 => ?_)
          · refine R_aload_n dX5_weightOf_83 rfl ?_
            refine R_get dX5_weightOf_84 gf_X5_7 h.1 rfl ?_
            refine R_iload_n dX5_weightOf_87 rfl ?_
            refine R_bipush (v := 11) dX5_weightOf_88 (by decide) ?_
            refine R_iadd dX5_weightOf_90 ?_
            refine RR.top (y := nI (B + 11)) (nI_add (B) (11)) ?_
            refine R_iload_n dX5_weightOf_91 rfl ?_
            refine R_iadd dX5_weightOf_92 ?_
            refine RR.top (y := nI ((B + 11) + j)) (nI_add (B + 11) (j)) ?_
            refine R_ialdN dX5_weightOf_93 h.a0 (by omega) (by decide) ?_
            refine R_goto (tgt := 98) dX5_weightOf_94 (by decide) ?_
            refine R_iadd dX5_weightOf_98 ?_
            refine R_istore dX5_weightOf_99 (by decide) ?_
            refine R_iload dX5_weightOf_101 rfl ?_
            refine R_iconst (v := 1) dX5_weightOf_103 (by decide) ?_
            refine R_icmp_ge (tgt := 111) dX5_weightOf_104 (by decide) (fun c104 => ?_) (fun c104 => ?_)
            · refine R_iload dX5_weightOf_111 rfl ?_
              exact R_iret dX5_weightOf_113 rfl (⟨_, rfl, by (rw [wt_m (by have q := c12; revert q; cases hasB (a 0 (B + 4)) (nI j) <;> simp [bl]) hr (by rw [if_pos ⟨(Or.inr (Classical.not_not.mp c38)), bl_t c51⟩]) (by rw [if_pos (Or.inl c72)]), if_neg (Int32.not_lt.mpr c104)]), rfl⟩)
            · refine R_iconst (v := 1) dX5_weightOf_107 (by decide) ?_
              refine R_goto (tgt := 113) dX5_weightOf_108 (by decide) ?_
              exact R_iret dX5_weightOf_113 rfl (⟨_, rfl, by (rw [wt_m (by have q := c12; revert q; cases hasB (a 0 (B + 4)) (nI j) <;> simp [bl]) hr (by rw [if_pos ⟨(Or.inr (Classical.not_not.mp c38)), bl_t c51⟩]) (by rw [if_pos (Or.inl c72)]), if_pos (Int32.not_le.mp c104)]), rfl⟩)
          · refine R_aload_n dX5_weightOf_75 rfl ?_
            refine R_get dX5_weightOf_76 gf_X5_52 h.1 rfl ?_
            refine R_iconst (v := 3) dX5_weightOf_79 (by decide) ?_
            refine R_icmp_ne (tgt := 97) dX5_weightOf_80 (by decide) (fun c80 => ?_) (fun c80 => ?_)
            · refine R_iconst (v := 0) dX5_weightOf_97 (by decide) ?_
              refine R_iadd dX5_weightOf_98 ?_
              refine R_istore dX5_weightOf_99 (by decide) ?_
              refine R_iload dX5_weightOf_101 rfl ?_
              refine R_iconst (v := 1) dX5_weightOf_103 (by decide) ?_
              refine R_icmp_ge (tgt := 111) dX5_weightOf_104 (by decide) (fun c104 => ?_) (fun c104 => ?_)
              · refine R_iload dX5_weightOf_111 rfl ?_
                exact R_iret dX5_weightOf_113 rfl (⟨_, rfl, by (rw [wt_m (by have q := c12; revert q; cases hasB (a 0 (B + 4)) (nI j) <;> simp [bl]) hr (by rw [if_pos ⟨(Or.inr (Classical.not_not.mp c38)), bl_t c51⟩]) (by rw [if_neg (fun q => q.elim c72 c80)]), if_neg (Int32.not_lt.mpr c104)]), rfl⟩)
              · refine R_iconst (v := 1) dX5_weightOf_107 (by decide) ?_
                refine R_goto (tgt := 113) dX5_weightOf_108 (by decide) ?_
                exact R_iret dX5_weightOf_113 rfl (⟨_, rfl, by (rw [wt_m (by have q := c12; revert q; cases hasB (a 0 (B + 4)) (nI j) <;> simp [bl]) hr (by rw [if_pos ⟨(Or.inr (Classical.not_not.mp c38)), bl_t c51⟩]) (by rw [if_neg (fun q => q.elim c72 c80)]), if_pos (Int32.not_le.mp c104)]), rfl⟩)
            · refine R_aload_n dX5_weightOf_83 rfl ?_
              refine R_get dX5_weightOf_84 gf_X5_7 h.1 rfl ?_
              refine R_iload_n dX5_weightOf_87 rfl ?_
              refine R_bipush (v := 11) dX5_weightOf_88 (by decide) ?_
              refine R_iadd dX5_weightOf_90 ?_
              refine RR.top (y := nI (B + 11)) (nI_add (B) (11)) ?_
              refine R_iload_n dX5_weightOf_91 rfl ?_
              refine R_iadd dX5_weightOf_92 ?_
              refine RR.top (y := nI ((B + 11) + j)) (nI_add (B + 11) (j)) ?_
              refine R_ialdN dX5_weightOf_93 h.a0 (by omega) (by decide) ?_
              refine R_goto (tgt := 98) dX5_weightOf_94 (by decide) ?_
              refine R_iadd dX5_weightOf_98 ?_
              refine R_istore dX5_weightOf_99 (by decide) ?_
              refine R_iload dX5_weightOf_101 rfl ?_
              refine R_iconst (v := 1) dX5_weightOf_103 (by decide) ?_
              refine R_icmp_ge (tgt := 111) dX5_weightOf_104 (by decide) (fun c104 => ?_) (fun c104 => ?_)
              · refine R_iload dX5_weightOf_111 rfl ?_
                exact R_iret dX5_weightOf_113 rfl (⟨_, rfl, by (rw [wt_m (by have q := c12; revert q; cases hasB (a 0 (B + 4)) (nI j) <;> simp [bl]) hr (by rw [if_pos ⟨(Or.inr (Classical.not_not.mp c38)), bl_t c51⟩]) (by rw [if_pos (Or.inr (Classical.not_not.mp c80))]), if_neg (Int32.not_lt.mpr c104)]), rfl⟩)
              · refine R_iconst (v := 1) dX5_weightOf_107 (by decide) ?_
                refine R_goto (tgt := 113) dX5_weightOf_108 (by decide) ?_
                exact R_iret dX5_weightOf_113 rfl (⟨_, rfl, by (rw [wt_m (by have q := c12; revert q; cases hasB (a 0 (B + 4)) (nI j) <;> simp [bl]) hr (by rw [if_pos ⟨(Or.inr (Classical.not_not.mp c38)), bl_t c51⟩]) (by rw [if_pos (Or.inr (Classical.not_not.mp c80))]), if_pos (Int32.not_le.mp c104)]), rfl⟩)
  · refine R_iconst (v := 0) dX5_weightOf_15 (by decide) ?_
    exact R_iret dX5_weightOf_16 rfl (⟨_, rfl, (wt_m0 (bl_t c12)).symm, rfl⟩)
set_option maxRecDepth 4000 in
theorem m_isBarred (G : GG) (hh : HH) {k : Nat} {a : AA} {v : VV} (h : MdAt G hh k a v) {B : Nat} (hB : B ≤ 924) (j : Nat) (hj : j < 6) (p : Int32) : EVp G mX5_isBarred [.ref (ad G k), .int (nI B), .int (nI j), .int p] hh (bl (hasB (mA a B 2 j) p)) := by
  refine EV.of [(0, .ref (ad G k)), (1, .int (nI B)), (2, .int (nI j)), (3, .int p)] (by decide +kernel) (Nat.le_of_ble_eq_true rfl) rfl ?_
  refine R_aload_n dX5_isBarred_0 rfl ?_
  refine R_get dX5_isBarred_1 gf_X5_7 h.1 rfl ?_
  refine R_iload_n dX5_isBarred_4 rfl ?_
  refine R_iconst (v := 5) dX5_isBarred_5 (by decide) ?_
  refine R_iadd dX5_isBarred_6 ?_
  refine RR.top (y := nI (B + 5)) (nI_add (B) (5)) ?_
  refine R_iload_n dX5_isBarred_7 rfl ?_
  refine R_iadd dX5_isBarred_8 ?_
  refine RR.top (y := nI ((B + 5) + j)) (nI_add (B + 5) (j)) ?_
  refine R_ialdN dX5_isBarred_9 h.a0 (by omega) (by decide) ?_
  refine R_iload_n dX5_isBarred_10 rfl ?_
  refine R_callSp dX5_isBarred_11 cs_X5_93 ⟨by decide, by decide⟩ (e_has G hh (a 0 (B + 5 + j)) p) rfl rfl (Nat.le_of_ble_eq_true rfl) ?_
  exact R_zret dX5_isBarred_14 rfl (by first | exact Or.inl rfl | exact Or.inr rfl | assumption | exact bl01 _ | omega) (⟨_, rfl, rfl, rfl⟩)
def chR (r : Nat → Int32) (B : Nat) (c t : Int32) : Nat → Int32 := upd (upd r (B + 1) c) (B + 2) t
theorem chR_st (r : Nat → Int32) (B : Nat) (c t c' t' : Int32) : upd (upd (chR r B c t) (B + 1) c') (B + 2) t' = chR r B c' t' := by
  funext i
  unfold chR upd
  by_cases h1 : i = B + 2
  · rw [if_pos h1, if_pos h1]
  · rw [if_neg h1, if_neg h1]
    by_cases h2 : i = B + 1
    · rw [if_pos h2, if_neg h1, if_pos h2]
    · rw [if_neg h2, if_neg h1, if_neg h2, if_neg h2]
theorem chR_self (r : Nat → Int32) (B : Nat) : chR r B (r (B + 1)) (r (B + 2)) = r := by
  funext i
  unfold chR upd
  by_cases h1 : i = B + 2
  · rw [if_pos h1, h1]
  · rw [if_neg h1]
    by_cases h2 : i = B + 1
    · rw [if_pos h2, h2]
    · rw [if_neg h2]
theorem chR_1 (r : Nat → Int32) (B : Nat) (c t : Int32) : chR r B c t (B + 1) = c := by unfold chR upd; rw [if_neg (by omega), if_pos rfl]
theorem chR_2 (r : Nat → Int32) (B : Nat) (c t : Int32) : chR r B c t (B + 2) = t := by unfold chR upd; rw [if_pos rfl]
theorem chR_o (r : Nat → Int32) {B i : Nat} (c t : Int32) (h1 : i ≠ B + 1) (h2 : i ≠ B + 2) : chR r B c t i = r i := by unfold chR upd; rw [if_neg h2, if_neg h1]
set_option maxRecDepth 4000 in
theorem l_drawFor (G : GG) (hh0 : HH) {k : Nat} {a : AA} {v : VV} {B : Nat} (hB : B ≤ 924) {m : Int32} (hm : 1 ≤ m) : ∀ (d : Nat) (c t x5 : Int32) (hh : HH), 1 ≤ d → accI m (itT d c) → (∀ j, 1 ≤ j → j < d → ¬ accI m (itT j c)) → MdAt G hh k (va_up a 0 (chR (a 0) B c t)) v → Fr k (k + 11) hh0 hh → RR G mX5_drawFor 17 [(0, .ref (ad G k)), (1, .int (nI B)), (2, .int m), (3, .long (wrI m)), (5, .int x5), (6, .int 0)] [] hh (fun r h1 => ∃ w, r = some (.int w) ∧ (w = rmI (halfI (itT d c)) m ∧ MdAt G h1 k (va_up a 0 (chR (a 0) B (itT d c) (t + nI d))) v ∧ Fr k (k + 11) hh0 h1)) := by
  intro d
  induction d with
  | zero =>
    intro c t x5 hh hd1 hacc hmin h hF
    exact absurd hd1 (by omega)
  | succ d ih =>
    intro c t x5 hh hd1 hacc hmin h hF
    refine R_iload dX5_drawFor_17 rfl ?_
    refine R_if_ne (tgt := 83) dX5_drawFor_19 (by decide) (fun c19 => absurd c19 (by decide)) (fun c19 => ?_)
    refine R_aload_n dX5_drawFor_22 rfl ?_
    refine R_get dX5_drawFor_23 gf_X5_7 h.1 rfl ?_
    refine R_iload_n dX5_drawFor_26 rfl ?_
    refine R_iconst (v := 1) dX5_drawFor_27 (by decide) ?_
    refine R_iadd dX5_drawFor_28 ?_
    refine RR.top (y := nI (B + 1)) (nI_add (B) (1)) ?_
    refine R_aload_n dX5_drawFor_29 rfl ?_
    refine R_get dX5_drawFor_30 gf_X5_7 h.1 rfl ?_
    refine R_iload_n dX5_drawFor_33 rfl ?_
    refine R_iconst (v := 1) dX5_drawFor_34 (by decide) ?_
    refine R_iadd dX5_drawFor_35 ?_
    refine RR.top (y := nI (B + 1)) (nI_add (B) (1)) ?_
    refine R_ialdN dX5_drawFor_36 h.a0 (by omega) (by decide) ?_
    refine RR.top (y := c) (chR_1 _ _ _ _) ?_
    refine R_callSp dX5_drawFor_37 cs_X5_148 ⟨by decide, by decide⟩ (m_turned G hh c) rfl rfl (Nat.le_of_ble_eq_true rfl) ?_
    refine Md_ast0N dX5_drawFor_40 h (by omega) (fun hh h hF1 => ?_)
    have hF := hF.tr hF1 (by omega) (by omega)
    refine R_aload_n dX5_drawFor_41 rfl ?_
    refine R_get dX5_drawFor_42 gf_X5_7 h.1 rfl ?_
    refine R_iload_n dX5_drawFor_45 rfl ?_
    refine R_iconst (v := 2) dX5_drawFor_46 (by decide) ?_
    refine R_iadd dX5_drawFor_47 ?_
    refine RR.top (y := nI (B + 2)) (nI_add (B) (2)) ?_
    refine R_dup2 dX5_drawFor_48 rfl rfl ?_
    refine R_ialdN dX5_drawFor_49 h.a0 (by omega) (by decide) ?_
    refine RR.top (y := t) (by show upd (chR (a 0) B c t) (B + 1) (tw c) (B + 2) = t; unfold upd; rw [if_neg (by omega)]; exact chR_2 _ _ _ _) ?_
    refine R_iconst (v := 1) dX5_drawFor_50 (by decide) ?_
    refine R_iadd dX5_drawFor_51 ?_
    refine Md_ast0N dX5_drawFor_52 h (by omega) (fun hh h hF1 => ?_)
    have hF := hF.tr hF1 (by omega) (by omega)
    refine R_aload_n dX5_drawFor_53 rfl ?_
    refine R_get dX5_drawFor_54 gf_X5_7 h.1 rfl ?_
    refine R_iload_n dX5_drawFor_57 rfl ?_
    refine R_iconst (v := 1) dX5_drawFor_58 (by decide) ?_
    refine R_iadd dX5_drawFor_59 ?_
    refine RR.top (y := nI (B + 1)) (nI_add (B) (1)) ?_
    refine R_ialdN dX5_drawFor_60 h.a0 (by omega) (by decide) ?_
    refine RR.top (y := tw c) (by show upd (upd (chR (a 0) B c t) (B + 1) (tw c)) (B + 2) (t + 1) (B + 1) = tw c; rw [chR_st]; exact chR_1 _ _ _ _) ?_
    refine R_iconst (v := 1) dX5_drawFor_61 (by decide) ?_
    refine R_iushr dX5_drawFor_62 ?_
    refine R_istore dX5_drawFor_63 (by decide) ?_
    refine R_iload dX5_drawFor_65 rfl ?_
    refine R_i2l dX5_drawFor_67 ?_
    refine R_lload_n dX5_drawFor_68 rfl ?_
    refine R_lcmp dX5_drawFor_69 ?_
    refine R_if_ge (tgt := 77) dX5_drawFor_70 (by decide) (fun c70 => ?_) (fun c70 => ?_)
    · refine R_iconst (v := 0) dX5_drawFor_77 (by decide) ?_
      refine R_istore dX5_drawFor_78 (by decide) ?_
      refine R_goto (tgt := 17) dX5_drawFor_80 (by decide) ?_
      have h := h.cg (a' := va_up a 0 (chR (a 0) B (tw c) (t + 1))) (by rw [bx_uu, bx_uu, ← chR_st (a 0) B c t (tw c) (t + 1)]; rfl) rfl
      rcases Nat.eq_zero_or_pos d with e | e
      · subst e
        exact absurd c70 hacc
      · have e9 : t + nI (d + 1) = (t + 1) + nI d := by rw [nI_succ, Int32.add_comm (nI d) 1, Int32.add_assoc]
        rw [e9]
        exact RR.pick [2, 3, 4, 5, 1, 0] rfl (ih (tw c) (t + 1) _ hh e hacc (fun j h1 h2 => hmin (j + 1) (by omega) (by omega)) h hF)
    · refine R_iconst (v := 1) dX5_drawFor_73 (by decide) ?_
      refine R_goto (tgt := 78) dX5_drawFor_74 (by decide) ?_
      refine R_istore dX5_drawFor_78 (by decide) ?_
      refine R_goto (tgt := 17) dX5_drawFor_80 (by decide) ?_
      have h := h.cg (a' := va_up a 0 (chR (a 0) B (tw c) (t + 1))) (by rw [bx_uu, bx_uu, ← chR_st (a 0) B c t (tw c) (t + 1)]; rfl) rfl
      rcases Nat.eq_zero_or_pos d with e | e
      · subst e
        refine R_iload dX5_drawFor_17 rfl ?_
        refine R_if_ne (tgt := 83) dX5_drawFor_19 (by decide) (fun c19 => ?_) (fun c19 => absurd (by decide) c19)
        refine R_iload dX5_drawFor_83 rfl ?_
        refine R_iload_n dX5_drawFor_85 rfl ?_
        refine R_irem dX5_drawFor_86 (fl_ne0 hm) ?_
        exact R_iret dX5_drawFor_87 rfl ⟨_, rfl, rfl, h, hF⟩
      · exact absurd c70 (hmin 1 (by omega) (by omega))
set_option maxRecDepth 4000 in
theorem m_drawFor (G : GG) (hh : HH) {k : Nat} {a : AA} {v : VV} {B : Nat} (hB : B ≤ 924) {c t : Int32} (h : MdAt G hh k (va_up a 0 (chR (a 0) B c t)) v) {m : Int32} (hm : 1 ≤ m) (K : Nat) (hK : 1 ≤ K) (hacc : accI m (itT K c)) (hmin : ∀ j, 1 ≤ j → j < K → ¬ accI m (itT j c)) : EVi G mX5_drawFor [.ref (ad G k), .int (nI B), .int m] hh (fun w h1 => w = rmI (halfI (itT K c)) m ∧ MdAt G h1 k (va_up a 0 (chR (a 0) B (itT K c) (t + nI K))) v ∧ Fr k (k + 11) hh h1) := by
  refine EV.of [(0, .ref (ad G k)), (1, .int (nI B)), (2, .int m)] (by decide +kernel) (Nat.le_of_ble_eq_true rfl) rfl ?_
  refine R_ldc2 dX5_drawFor_0 kc_X5_145 ?_
  refine R_iload_n dX5_drawFor_3 rfl ?_
  refine R_i2l dX5_drawFor_4 ?_
  refine R_ldiv dX5_drawFor_5 (fl_ne0L hm) ?_
  refine R_iload_n dX5_drawFor_6 rfl ?_
  refine R_i2l dX5_drawFor_7 ?_
  refine R_lmul dX5_drawFor_8 ?_
  refine RR.topl (y := wrI m) (Int64.mul_comm _ _) ?_
  refine R_lstore_n dX5_drawFor_9 (by decide) ?_
  refine R_ldc dX5_drawFor_10 kc_X5_147 ?_
  refine R_istore dX5_drawFor_12 (by decide) ?_
  refine R_iconst (v := 0) dX5_drawFor_14 (by decide) ?_
  refine R_istore dX5_drawFor_15 (by decide) ?_
  exact RR.pick [3, 4, 5, 2, 1, 0] rfl (l_drawFor G hh hB hm K c t _ hh hK hacc hmin h Fr.rf)
