theorem bl_f {b : Bool} (h : bl b = 0) : ¬ b = true := by cases b <;> simp_all [bl]
theorem clp_lo {u : Int32} (h : ¬ (-99 : Int32) ≤ u) : clpI u = -99 := by
  unfold clpI
  rw [Int32.le_iff_toInt_le] at h
  have e : (-99 : Int32).toInt = -99 := rfl
  have e2 : (99 : Int32).toInt = 99 := rfl
  by_cases q : u < 99
  · rw [if_pos q, if_neg (fun r => by rw [Int32.lt_iff_toInt_lt] at r; omega)]
  · rw [Int32.lt_iff_toInt_lt] at q; omega
theorem clp_hi {u : Int32} (h : ¬ u ≤ 99) : clpI u = 99 := by
  unfold clpI
  rw [Int32.le_iff_toInt_le] at h
  have e2 : (99 : Int32).toInt = 99 := rfl
  rw [if_neg (fun r : u < 99 => by rw [Int32.lt_iff_toInt_lt] at r; omega), if_pos (by decide)]
theorem clp_md {u : Int32} (h1 : (-99 : Int32) ≤ u) (h2 : u ≤ 99) : clpI u = u := by
  unfold clpI
  have e : (-99 : Int32).toInt = -99 := rfl
  have e2 : (99 : Int32).toInt = 99 := rfl
  rw [Int32.le_iff_toInt_le] at h1 h2
  by_cases q : u < 99
  · rw [if_pos q]
    by_cases r : (-99 : Int32) < u
    · rw [if_pos r]
    · rw [if_neg r]
      rw [Int32.lt_iff_toInt_lt] at r
      exact Int32.toInt_inj.mp (by omega)
  · rw [if_neg q, if_pos (by decide)]
    rw [Int32.lt_iff_toInt_lt] at q
    exact Int32.toInt_inj.mp (by omega)
/-- new debts at B -/
def dbR (r : Nat → Int32) (B : Nat) (D : Nat → Int32) (n : Nat) : Nat → Int32 := fun i => if B + 11 ≤ i ∧ i < B + 11 + n then D (i - (B + 11)) else r i
theorem dbR_0 (r : Nat → Int32) (B : Nat) (D : Nat → Int32) : dbR r B D 0 = r := by funext i; unfold dbR; rw [if_neg (by omega)]
theorem dbR_s (r : Nat → Int32) (B : Nat) (D : Nat → Int32) (n : Nat) : upd (dbR r B D n) (B + 11 + n) (D n) = dbR r B D (n + 1) := by
  funext i
  unfold upd dbR
  by_cases e : i = B + 11 + n
  · subst e; rw [if_pos rfl, if_pos (by omega), show B + 11 + n - (B + 11) = n by omega]
  · rw [if_neg e]
    by_cases q : B + 11 ≤ i ∧ i < B + 11 + n
    · rw [if_pos q, if_pos (by omega)]
    · rw [if_neg q, if_neg (by omega)]
theorem dbR_o {r : Nat → Int32} {B : Nat} {D : Nat → Int32} {n i : Nat} (h : i < B + 11 ∨ B + 11 + n ≤ i) : dbR r B D n i = r i := by unfold dbR; rw [if_neg (by omega)]
theorem dbR_i {r : Nat → Int32} {B : Nat} {D : Nat → Int32} {n j : Nat} (h : j < n) : dbR r B D n (B + 11 + j) = D j := by unfold dbR; rw [if_pos (by omega), show B + 11 + j - (B + 11) = j by omega]
theorem dbR_cg {r : Nat → Int32} {B : Nat} {D D' : Nat → Int32} {n : Nat} (h : ∀ j, j < n → D j = D' j) : dbR r B D n = dbR r B D' n := by
  funext i
  unfold dbR
  by_cases q : B + 11 ≤ i ∧ i < B + 11 + n
  · rw [if_pos q, if_pos q, h _ (by omega)]
  · rw [if_neg q, if_neg q]

set_option maxRecDepth 4000 in
theorem l_owe2 (G : GG) (hh0 : HH) {k : Nat} {a : AA} {v : VV} {n : Nat} (hn : n ≤ 6) (hv : v 1 = nI n) {B : Nat} (hB : B ≤ 924) (x : Int32) : ∀ (d i : Nat) (hh : HH), i + d = n → MdAt G hh k (va_up a 0 (dbR (a 0) B (nwD (mA a B) (mV a v B) x n) i)) v → Fr k (k + 11) hh0 hh → RR G mX5_owe 53 [(0, .ref (ad G k)), (1, .int (nI B)), (2, .int x), (3, .int (togS (mA a B) (mV a v B) n)), (4, .int (nI i))] [] hh (fun r h1 => r = none ∧ (MdAt G h1 k (va_up a 0 (dbR (a 0) B (nwD (mA a B) (mV a v B) x n) n)) v ∧ Fr k (k + 11) hh0 h1)) := by
  intro d
  induction d with
  | zero =>
    intro i hh hi h hF
    refine R_iload dX5_owe_53 rfl ?_
    refine R_aload_n dX5_owe_55 rfl ?_
    refine R_get dX5_owe_56 gf_X5_48 h.1 rfl ?_
    refine R_icmp_ge (tgt := 160) dX5_owe_59 (by decide) (fun c59 => ?_) (fun c59 => absurd (by rw [hv]; exact nI_le (by omega) (by omega)) c59)
    exact R_vret dX5_owe_160 rfl (by (have e : i = n := by omega); (subst e); exact ⟨rfl, h, hF⟩)
  | succ d ih =>
    intro i hh hi h hF
    refine R_iload dX5_owe_53 rfl ?_
    refine R_aload_n dX5_owe_55 rfl ?_
    refine R_get dX5_owe_56 gf_X5_48 h.1 rfl ?_
    refine R_icmp_ge (tgt := 160) dX5_owe_59 (by decide) (fun c59 => absurd c59 (by rw [hv]; exact nI_ge (by omega) (by omega))) (fun c59 => ?_)
    refine R_aload_n dX5_owe_62 rfl ?_
    refine R_get dX5_owe_63 gf_X5_7 h.1 rfl ?_
    refine R_iload_n dX5_owe_66 rfl ?_
    refine R_bipush (v := 11) dX5_owe_67 (by decide) ?_
    refine R_iadd dX5_owe_69 ?_
    refine RR.top (y := nI (B + 11)) (nI_add (B) (11)) ?_
    refine R_iload dX5_owe_70 rfl ?_
    refine R_iadd dX5_owe_72 ?_
    refine RR.top (y := nI ((B + 11) + i)) (nI_add (B + 11) (i)) ?_
    refine R_ialdN dX5_owe_73 h.a0 (by omega) (by decide) ?_
    refine RR.top (y := a 0 (B + 11 + i)) (dbR_o (by omega)) ?_
    refine R_aload_n dX5_owe_74 rfl ?_
    refine R_get dX5_owe_75 gf_X5_7 h.1 rfl ?_
    refine R_iload_n dX5_owe_78 rfl ?_
    refine R_iconst (v := 4) dX5_owe_79 (by decide) ?_
    refine R_iadd dX5_owe_80 ?_
    refine RR.top (y := nI (B + 4)) (nI_add (B) (4)) ?_
    refine R_ialdN dX5_owe_81 h.a0 (by omega) (by decide) ?_
    refine RR.top (y := a 0 (B + 4)) (dbR_o (by omega)) ?_
    refine R_iload dX5_owe_82 rfl ?_
    refine R_callSp dX5_owe_84 cs_X5_93 ⟨by decide, by decide⟩ (e_has G hh (a 0 (B + 4)) (nI i)) rfl rfl (Nat.le_of_ble_eq_true rfl) ?_
    refine R_if_eq (tgt := 94) dX5_owe_87 (by decide) (fun c87 => ?_) (fun c87 => ?_)
    · refine R_aload_n dX5_owe_94 rfl ?_
      refine R_get dX5_owe_95 gf_X5_13 h.1 rfl ?_
      refine R_iload dX5_owe_98 rfl ?_
      refine R_ialdN dX5_owe_100 h.a3 (by omega) (by decide) ?_
      refine R_iadd dX5_owe_101 ?_
      refine RR.top (y := a 0 (B + 11 + i) + stA (mA a B) (mV a v B) i) (by rw [show stA (mA a B) (mV a v B) i = a 3 i from if_neg (bl_f c87)]; rfl) ?_
      refine R_iload dX5_owe_102 rfl ?_
      refine R_iload_n dX5_owe_104 rfl ?_
      refine R_icmp_ne (tgt := 112) dX5_owe_105 (by decide) (fun c105 => ?_) (fun c105 => ?_)
      · refine R_iconst (v := 0) dX5_owe_112 (by decide) ?_
        refine R_isub dX5_owe_113 ?_
        refine RR.top (y := (if nI i = x then mA a B 3 i + stA (mA a B) (mV a v B) i - togS (mA a B) (mV a v B) n else mA a B 3 i + stA (mA a B) (mV a v B) i)) (by rw [if_neg c105]; exact Int32.sub_zero _) ?_
        refine R_istore dX5_owe_114 (by decide) ?_
        refine R_aload_n dX5_owe_116 rfl ?_
        refine R_get dX5_owe_117 gf_X5_7 h.1 rfl ?_
        refine R_iload_n dX5_owe_120 rfl ?_
        refine R_bipush (v := 11) dX5_owe_121 (by decide) ?_
        refine R_iadd dX5_owe_123 ?_
        refine RR.top (y := nI (B + 11)) (nI_add (B) (11)) ?_
        refine R_iload dX5_owe_124 rfl ?_
        refine R_iadd dX5_owe_126 ?_
        refine RR.top (y := nI ((B + 11) + i)) (nI_add (B + 11) (i)) ?_
        refine R_iload dX5_owe_127 rfl ?_
        refine R_bipush (v := (-99)) dX5_owe_129 (by decide) ?_
        refine R_icmp_ge (tgt := 139) dX5_owe_131 (by decide) (fun c131 => ?_) (fun c131 => ?_)
        · refine R_iload dX5_owe_139 rfl ?_
          refine R_bipush (v := 99) dX5_owe_141 (by decide) ?_
          refine R_icmp_le (tgt := 151) dX5_owe_143 (by decide) (fun c143 => ?_) (fun c143 => ?_)
          · refine R_iload dX5_owe_151 rfl ?_
            refine RR.top (y := nwD (mA a B) (mV a v B) x n i) ((clp_md c131 c143).symm) ?_
            refine Md_ast0N dX5_owe_153 h (by omega) (fun hh h hF1 => ?_)
            have hF := hF.tr hF1 (by omega) (by omega)
            refine R_iinc (y := nI (i + 1)) dX5_owe_154 rfl (by decide) (nI_s (i)) ?_
            refine R_goto (tgt := 53) dX5_owe_157 (by decide) ?_
            have h := h.cg (a' := va_up a 0 (dbR (a 0) B (nwD (mA a B) (mV a v B) x n) (i + 1))) (by rw [bx_uu, ← dbR_s]; rfl) rfl
            exact RR.pick [2, 3, 4, 5, 0] rfl (ih (i + 1) hh (by omega) h hF)
          · refine R_bipush (v := 99) dX5_owe_146 (by decide) ?_
            refine R_goto (tgt := 153) dX5_owe_148 (by decide) ?_
            refine RR.top (y := nwD (mA a B) (mV a v B) x n i) ((clp_hi c143).symm) ?_
            refine Md_ast0N dX5_owe_153 h (by omega) (fun hh h hF1 => ?_)
            have hF := hF.tr hF1 (by omega) (by omega)
            refine R_iinc (y := nI (i + 1)) dX5_owe_154 rfl (by decide) (nI_s (i)) ?_
            refine R_goto (tgt := 53) dX5_owe_157 (by decide) ?_
            have h := h.cg (a' := va_up a 0 (dbR (a 0) B (nwD (mA a B) (mV a v B) x n) (i + 1))) (by rw [bx_uu, ← dbR_s]; rfl) rfl
            exact RR.pick [2, 3, 4, 5, 0] rfl (ih (i + 1) hh (by omega) h hF)
        · refine R_bipush (v := (-99)) dX5_owe_134 (by decide) ?_
          refine R_goto (tgt := 153) dX5_owe_136 (by decide) ?_
          refine RR.top (y := nwD (mA a B) (mV a v B) x n i) ((clp_lo c131).symm) ?_
          refine Md_ast0N dX5_owe_153 h (by omega) (fun hh h hF1 => ?_)
          have hF := hF.tr hF1 (by omega) (by omega)
          refine R_iinc (y := nI (i + 1)) dX5_owe_154 rfl (by decide) (nI_s (i)) ?_
          refine R_goto (tgt := 53) dX5_owe_157 (by decide) ?_
          have h := h.cg (a' := va_up a 0 (dbR (a 0) B (nwD (mA a B) (mV a v B) x n) (i + 1))) (by rw [bx_uu, ← dbR_s]; rfl) rfl
          exact RR.pick [2, 3, 4, 5, 0] rfl (ih (i + 1) hh (by omega) h hF)
      · refine R_iload_n dX5_owe_108 rfl ?_
        refine R_goto (tgt := 113) dX5_owe_109 (by decide) ?_
        refine R_isub dX5_owe_113 ?_
        refine RR.top (y := (if nI i = x then mA a B 3 i + stA (mA a B) (mV a v B) i - togS (mA a B) (mV a v B) n else mA a B 3 i + stA (mA a B) (mV a v B) i)) (by rw [if_pos (Classical.not_not.mp c105)]; rfl) ?_
        refine R_istore dX5_owe_114 (by decide) ?_
        refine R_aload_n dX5_owe_116 rfl ?_
        refine R_get dX5_owe_117 gf_X5_7 h.1 rfl ?_
        refine R_iload_n dX5_owe_120 rfl ?_
        refine R_bipush (v := 11) dX5_owe_121 (by decide) ?_
        refine R_iadd dX5_owe_123 ?_
        refine RR.top (y := nI (B + 11)) (nI_add (B) (11)) ?_
        refine R_iload dX5_owe_124 rfl ?_
        refine R_iadd dX5_owe_126 ?_
        refine RR.top (y := nI ((B + 11) + i)) (nI_add (B + 11) (i)) ?_
        refine R_iload dX5_owe_127 rfl ?_
        refine R_bipush (v := (-99)) dX5_owe_129 (by decide) ?_
        refine R_icmp_ge (tgt := 139) dX5_owe_131 (by decide) (fun c131 => ?_) (fun c131 => ?_)
        · refine R_iload dX5_owe_139 rfl ?_
          refine R_bipush (v := 99) dX5_owe_141 (by decide) ?_
          refine R_icmp_le (tgt := 151) dX5_owe_143 (by decide) (fun c143 => ?_) (fun c143 => ?_)
          · refine R_iload dX5_owe_151 rfl ?_
            refine RR.top (y := nwD (mA a B) (mV a v B) x n i) ((clp_md c131 c143).symm) ?_
            refine Md_ast0N dX5_owe_153 h (by omega) (fun hh h hF1 => ?_)
            have hF := hF.tr hF1 (by omega) (by omega)
            refine R_iinc (y := nI (i + 1)) dX5_owe_154 rfl (by decide) (nI_s (i)) ?_
            refine R_goto (tgt := 53) dX5_owe_157 (by decide) ?_
            have h := h.cg (a' := va_up a 0 (dbR (a 0) B (nwD (mA a B) (mV a v B) x n) (i + 1))) (by rw [bx_uu, ← dbR_s]; rfl) rfl
            exact RR.pick [2, 3, 4, 5, 0] rfl (ih (i + 1) hh (by omega) h hF)
          · refine R_bipush (v := 99) dX5_owe_146 (by decide) ?_
            refine R_goto (tgt := 153) dX5_owe_148 (by decide) ?_
            refine RR.top (y := nwD (mA a B) (mV a v B) x n i) ((clp_hi c143).symm) ?_
            refine Md_ast0N dX5_owe_153 h (by omega) (fun hh h hF1 => ?_)
            have hF := hF.tr hF1 (by omega) (by omega)
            refine R_iinc (y := nI (i + 1)) dX5_owe_154 rfl (by decide) (nI_s (i)) ?_
            refine R_goto (tgt := 53) dX5_owe_157 (by decide) ?_
            have h := h.cg (a' := va_up a 0 (dbR (a 0) B (nwD (mA a B) (mV a v B) x n) (i + 1))) (by rw [bx_uu, ← dbR_s]; rfl) rfl
            exact RR.pick [2, 3, 4, 5, 0] rfl (ih (i + 1) hh (by omega) h hF)
        · refine R_bipush (v := (-99)) dX5_owe_134 (by decide) ?_
          refine R_goto (tgt := 153) dX5_owe_136 (by decide) ?_
          refine RR.top (y := nwD (mA a B) (mV a v B) x n i) ((clp_lo c131).symm) ?_
          refine Md_ast0N dX5_owe_153 h (by omega) (fun hh h hF1 => ?_)
          have hF := hF.tr hF1 (by omega) (by omega)
          refine R_iinc (y := nI (i + 1)) dX5_owe_154 rfl (by decide) (nI_s (i)) ?_
          refine R_goto (tgt := 53) dX5_owe_157 (by decide) ?_
          have h := h.cg (a' := va_up a 0 (dbR (a 0) B (nwD (mA a B) (mV a v B) x n) (i + 1))) (by rw [bx_uu, ← dbR_s]; rfl) rfl
          exact RR.pick [2, 3, 4, 5, 0] rfl (ih (i + 1) hh (by omega) h hF)
    · refine R_iconst (v := 0) dX5_owe_90 (by decide) ?_
      refine R_goto (tgt := 101) dX5_owe_91 (by decide) ?_
      refine R_iadd dX5_owe_101 ?_
      refine RR.top (y := a 0 (B + 11 + i) + stA (mA a B) (mV a v B) i) (by rw [show stA (mA a B) (mV a v B) i = 0 from if_pos (bl_t c87)]) ?_
      refine R_iload dX5_owe_102 rfl ?_
      refine R_iload_n dX5_owe_104 rfl ?_
      refine R_icmp_ne (tgt := 112) dX5_owe_105 (by decide) (fun c105 => ?_) (fun c105 => ?_)
      · refine R_iconst (v := 0) dX5_owe_112 (by decide) ?_
        refine R_isub dX5_owe_113 ?_
        refine RR.top (y := (if nI i = x then mA a B 3 i + stA (mA a B) (mV a v B) i - togS (mA a B) (mV a v B) n else mA a B 3 i + stA (mA a B) (mV a v B) i)) (by rw [if_neg c105]; exact Int32.sub_zero _) ?_
        refine R_istore dX5_owe_114 (by decide) ?_
        refine R_aload_n dX5_owe_116 rfl ?_
        refine R_get dX5_owe_117 gf_X5_7 h.1 rfl ?_
        refine R_iload_n dX5_owe_120 rfl ?_
        refine R_bipush (v := 11) dX5_owe_121 (by decide) ?_
        refine R_iadd dX5_owe_123 ?_
        refine RR.top (y := nI (B + 11)) (nI_add (B) (11)) ?_
        refine R_iload dX5_owe_124 rfl ?_
        refine R_iadd dX5_owe_126 ?_
        refine RR.top (y := nI ((B + 11) + i)) (nI_add (B + 11) (i)) ?_
        refine R_iload dX5_owe_127 rfl ?_
        refine R_bipush (v := (-99)) dX5_owe_129 (by decide) ?_
        refine R_icmp_ge (tgt := 139) dX5_owe_131 (by decide) (fun c131 => ?_) (fun c131 => ?_)
        · refine R_iload dX5_owe_139 rfl ?_
          refine R_bipush (v := 99) dX5_owe_141 (by decide) ?_
          refine R_icmp_le (tgt := 151) dX5_owe_143 (by decide) (fun c143 => ?_) (fun c143 => ?_)
          · refine R_iload dX5_owe_151 rfl ?_
            refine RR.top (y := nwD (mA a B) (mV a v B) x n i) ((clp_md c131 c143).symm) ?_
            refine Md_ast0N dX5_owe_153 h (by omega) (fun hh h hF1 => ?_)
            have hF := hF.tr hF1 (by omega) (by omega)
            refine R_iinc (y := nI (i + 1)) dX5_owe_154 rfl (by decide) (nI_s (i)) ?_
            refine R_goto (tgt := 53) dX5_owe_157 (by decide) ?_
            have h := h.cg (a' := va_up a 0 (dbR (a 0) B (nwD (mA a B) (mV a v B) x n) (i + 1))) (by rw [bx_uu, ← dbR_s]; rfl) rfl
            exact RR.pick [2, 3, 4, 5, 0] rfl (ih (i + 1) hh (by omega) h hF)
          · refine R_bipush (v := 99) dX5_owe_146 (by decide) ?_
            refine R_goto (tgt := 153) dX5_owe_148 (by decide) ?_
            refine RR.top (y := nwD (mA a B) (mV a v B) x n i) ((clp_hi c143).symm) ?_
            refine Md_ast0N dX5_owe_153 h (by omega) (fun hh h hF1 => ?_)
            have hF := hF.tr hF1 (by omega) (by omega)
            refine R_iinc (y := nI (i + 1)) dX5_owe_154 rfl (by decide) (nI_s (i)) ?_
            refine R_goto (tgt := 53) dX5_owe_157 (by decide) ?_
            have h := h.cg (a' := va_up a 0 (dbR (a 0) B (nwD (mA a B) (mV a v B) x n) (i + 1))) (by rw [bx_uu, ← dbR_s]; rfl) rfl
            exact RR.pick [2, 3, 4, 5, 0] rfl (ih (i + 1) hh (by omega) h hF)
        · refine R_bipush (v := (-99)) dX5_owe_134 (by decide) ?_
          refine R_goto (tgt := 153) dX5_owe_136 (by decide) ?_
          refine RR.top (y := nwD (mA a B) (mV a v B) x n i) ((clp_lo c131).symm) ?_
          refine Md_ast0N dX5_owe_153 h (by omega) (fun hh h hF1 => ?_)
          have hF := hF.tr hF1 (by omega) (by omega)
          refine R_iinc (y := nI (i + 1)) dX5_owe_154 rfl (by decide) (nI_s (i)) ?_
          refine R_goto (tgt := 53) dX5_owe_157 (by decide) ?_
          have h := h.cg (a' := va_up a 0 (dbR (a 0) B (nwD (mA a B) (mV a v B) x n) (i + 1))) (by rw [bx_uu, ← dbR_s]; rfl) rfl
          exact RR.pick [2, 3, 4, 5, 0] rfl (ih (i + 1) hh (by omega) h hF)
      · refine R_iload_n dX5_owe_108 rfl ?_
        refine R_goto (tgt := 113) dX5_owe_109 (by decide) ?_
        refine R_isub dX5_owe_113 ?_
        refine RR.top (y := (if nI i = x then mA a B 3 i + stA (mA a B) (mV a v B) i - togS (mA a B) (mV a v B) n else mA a B 3 i + stA (mA a B) (mV a v B) i)) (by rw [if_pos (Classical.not_not.mp c105)]; rfl) ?_
        refine R_istore dX5_owe_114 (by decide) ?_
        refine R_aload_n dX5_owe_116 rfl ?_
        refine R_get dX5_owe_117 gf_X5_7 h.1 rfl ?_
        refine R_iload_n dX5_owe_120 rfl ?_
        refine R_bipush (v := 11) dX5_owe_121 (by decide) ?_
        refine R_iadd dX5_owe_123 ?_
        refine RR.top (y := nI (B + 11)) (nI_add (B) (11)) ?_
        refine R_iload dX5_owe_124 rfl ?_
        refine R_iadd dX5_owe_126 ?_
        refine RR.top (y := nI ((B + 11) + i)) (nI_add (B + 11) (i)) ?_
        refine R_iload dX5_owe_127 rfl ?_
        refine R_bipush (v := (-99)) dX5_owe_129 (by decide) ?_
        refine R_icmp_ge (tgt := 139) dX5_owe_131 (by decide) (fun c131 => ?_) (fun c131 => ?_)
        · refine R_iload dX5_owe_139 rfl ?_
          refine R_bipush (v := 99) dX5_owe_141 (by decide) ?_
          refine R_icmp_le (tgt := 151) dX5_owe_143 (by decide) (fun c143 => ?_) (fun c143 => ?_)
          · refine R_iload dX5_owe_151 rfl ?_
            refine RR.top (y := nwD (mA a B) (mV a v B) x n i) ((clp_md c131 c143).symm) ?_
            refine Md_ast0N dX5_owe_153 h (by omega) (fun hh h hF1 => ?_)
            have hF := hF.tr hF1 (by omega) (by omega)
            refine R_iinc (y := nI (i + 1)) dX5_owe_154 rfl (by decide) (nI_s (i)) ?_
            refine R_goto (tgt := 53) dX5_owe_157 (by decide) ?_
            have h := h.cg (a' := va_up a 0 (dbR (a 0) B (nwD (mA a B) (mV a v B) x n) (i + 1))) (by rw [bx_uu, ← dbR_s]; rfl) rfl
            exact RR.pick [2, 3, 4, 5, 0] rfl (ih (i + 1) hh (by omega) h hF)
          · refine R_bipush (v := 99) dX5_owe_146 (by decide) ?_
            refine R_goto (tgt := 153) dX5_owe_148 (by decide) ?_
            refine RR.top (y := nwD (mA a B) (mV a v B) x n i) ((clp_hi c143).symm) ?_
            refine Md_ast0N dX5_owe_153 h (by omega) (fun hh h hF1 => ?_)
            have hF := hF.tr hF1 (by omega) (by omega)
            refine R_iinc (y := nI (i + 1)) dX5_owe_154 rfl (by decide) (nI_s (i)) ?_
            refine R_goto (tgt := 53) dX5_owe_157 (by decide) ?_
            have h := h.cg (a' := va_up a 0 (dbR (a 0) B (nwD (mA a B) (mV a v B) x n) (i + 1))) (by rw [bx_uu, ← dbR_s]; rfl) rfl
            exact RR.pick [2, 3, 4, 5, 0] rfl (ih (i + 1) hh (by omega) h hF)
        · refine R_bipush (v := (-99)) dX5_owe_134 (by decide) ?_
          refine R_goto (tgt := 153) dX5_owe_136 (by decide) ?_
          refine RR.top (y := nwD (mA a B) (mV a v B) x n i) ((clp_lo c131).symm) ?_
          refine Md_ast0N dX5_owe_153 h (by omega) (fun hh h hF1 => ?_)
          have hF := hF.tr hF1 (by omega) (by omega)
          refine R_iinc (y := nI (i + 1)) dX5_owe_154 rfl (by decide) (nI_s (i)) ?_
          refine R_goto (tgt := 53) dX5_owe_157 (by decide) ?_
          have h := h.cg (a' := va_up a 0 (dbR (a 0) B (nwD (mA a B) (mV a v B) x n) (i + 1))) (by rw [bx_uu, ← dbR_s]; rfl) rfl
          exact RR.pick [2, 3, 4, 5, 0] rfl (ih (i + 1) hh (by omega) h hF)
set_option maxRecDepth 4000 in
theorem l_owe1 (G : GG) (hh : HH) {k : Nat} {a : AA} {v : VV} (h : MdAt G hh k a v) {n : Nat} (hn : n ≤ 6) (hv : v 1 = nI n) {B : Nat} (hB : B ≤ 924) (x : Int32) : ∀ (d i : Nat), i + d = n → RR G mX5_owe 5 [(0, .ref (ad G k)), (1, .int (nI B)), (2, .int x), (3, .int (foldS (stA (mA a B) (mV a v B)) 0 i 0)), (4, .int (nI i))] [] hh (fun r h1 => r = none ∧ (MdAt G h1 k (va_up a 0 (dbR (a 0) B (nwD (mA a B) (mV a v B) x n) n)) v ∧ Fr k (k + 11) hh h1)) := by
  intro d
  induction d with
  | zero =>
    intro i hi
    refine R_iload dX5_owe_5 rfl ?_
    refine R_aload_n dX5_owe_7 rfl ?_
    refine R_get dX5_owe_8 gf_X5_48 h.1 rfl ?_
    refine R_icmp_ge (tgt := 50) dX5_owe_11 (by decide) (fun c11 => ?_) (fun c11 => absurd (by rw [hv]; exact nI_le (by omega) (by omega)) c11)
    refine R_iconst (v := 0) dX5_owe_50 (by decide) ?_
    refine R_istore dX5_owe_51 (by decide) ?_
    have e : i = n := by omega
    subst e
    exact RR.pick [1, 2, 3, 4, 0] rfl (l_owe2 G hh hn hv hB x i 0 hh (by omega) (h.cg (by rw [dbR_0]; exact va_up_idA a) rfl) Fr.rf)
  | succ d ih =>
    intro i hi
    refine R_iload dX5_owe_5 rfl ?_
    refine R_aload_n dX5_owe_7 rfl ?_
    refine R_get dX5_owe_8 gf_X5_48 h.1 rfl ?_
    refine R_icmp_ge (tgt := 50) dX5_owe_11 (by decide) (fun c11 => absurd c11 (by rw [hv]; exact nI_ge (by omega) (by omega))) (fun c11 => ?_)
    refine R_iload_n dX5_owe_14 rfl ?_
    refine R_aload_n dX5_owe_15 rfl ?_
    refine R_get dX5_owe_16 gf_X5_7 h.1 rfl ?_
    refine R_iload_n dX5_owe_19 rfl ?_
    refine R_iconst (v := 4) dX5_owe_20 (by decide) ?_
    refine R_iadd dX5_owe_21 ?_
    refine RR.top (y := nI (B + 4)) (nI_add (B) (4)) ?_
    refine R_ialdN dX5_owe_22 h.a0 (by omega) (by decide) ?_
    refine R_iload dX5_owe_23 rfl ?_
    refine R_callSp dX5_owe_25 cs_X5_93 ⟨by decide, by decide⟩ (e_has G hh (a 0 (B + 4)) (nI i)) rfl rfl (Nat.le_of_ble_eq_true rfl) ?_
    refine R_if_eq (tgt := 35) dX5_owe_28 (by decide) (fun c28 => ?_) (fun c28 => ?_)
    · refine R_aload_n dX5_owe_35 rfl ?_
      refine R_get dX5_owe_36 gf_X5_13 h.1 rfl ?_
      refine R_iload dX5_owe_39 rfl ?_
      refine R_ialdN dX5_owe_41 h.a3 (by omega) (by decide) ?_
      refine R_iadd dX5_owe_42 ?_
      refine RR.top (y := foldS (stA (mA a B) (mV a v B)) 0 (i + 1) 0) (by rw [foldS_last, Nat.zero_add, show stA (mA a B) (mV a v B) i = a 3 i from if_neg (bl_f c28)]) ?_
      refine R_istore_n dX5_owe_43 (by decide) ?_
      refine R_iinc (y := nI (i + 1)) dX5_owe_44 rfl (by decide) (nI_s (i)) ?_
      refine R_goto (tgt := 5) dX5_owe_47 (by decide) ?_
      exact RR.pick [2, 3, 4, 1, 0] rfl (ih (i + 1) (by omega))
    · refine R_iconst (v := 0) dX5_owe_31 (by decide) ?_
      refine R_goto (tgt := 42) dX5_owe_32 (by decide) ?_
      refine R_iadd dX5_owe_42 ?_
      refine RR.top (y := foldS (stA (mA a B) (mV a v B)) 0 (i + 1) 0) (by rw [foldS_last, Nat.zero_add, show stA (mA a B) (mV a v B) i = 0 from if_pos (bl_t c28)]) ?_
      refine R_istore_n dX5_owe_43 (by decide) ?_
      refine R_iinc (y := nI (i + 1)) dX5_owe_44 rfl (by decide) (nI_s (i)) ?_
      refine R_goto (tgt := 5) dX5_owe_47 (by decide) ?_
      exact RR.pick [2, 3, 4, 1, 0] rfl (ih (i + 1) (by omega))
set_option maxRecDepth 4000 in
theorem m_owe (G : GG) (hh : HH) {k : Nat} {a : AA} {v : VV} (h : MdAt G hh k a v) {n : Nat} (hn : n ≤ 6) (hv : v 1 = nI n) {B : Nat} (hB : B ≤ 924) (x : Int32) : EVv G mX5_owe [.ref (ad G k), .int (nI B), .int x] hh (fun h1 => MdAt G h1 k (va_up a 0 (dbR (a 0) B (nwD (mA a B) (mV a v B) x n) n)) v ∧ Fr k (k + 11) hh h1) := by
  refine EV.of [(0, .ref (ad G k)), (1, .int (nI B)), (2, .int x)] (by decide +kernel) (Nat.le_of_ble_eq_true rfl) rfl ?_
  refine R_iconst (v := 0) dX5_owe_0 (by decide) ?_
  refine R_istore_n dX5_owe_1 (by decide) ?_
  refine R_iconst (v := 0) dX5_owe_2 (by decide) ?_
  refine R_istore dX5_owe_3 (by decide) ?_
  exact RR.pick [2, 3, 4, 1, 0] rfl (l_owe1 G hh h hn hv hB x n 0 (by omega))
/-- the row behind a drawing that judge J got, at chain c, turns t -/
def asR (a : AA) (v : VV) (B n J : Nat) (c t : Int32) : Nat → Int32 := dbR (chR (a 0) B c t) B (nwD (mA a B) (mV a v B) (nI J) n) n
theorem m_oweC (G : GG) (hh : HH) {k : Nat} {a : AA} {v : VV} {B : Nat} (hB : B ≤ 924) {n : Nat} (hn : n ≤ 6) (hv : v 1 = nI n) {c t : Int32} (h : MdAt G hh k (chM a B c t) v) (J : Nat) : EVv G mX5_owe [.ref (ad G k), .int (nI B), .int (nI J)] hh (fun h1 => MdAt G h1 k (va_up a 0 (asR a v B n J c t)) v ∧ Fr k (k + 11) hh h1) := by
  have e := m_owe G hh h hn hv hB (nI J)
  have e2 : va_up (chM a B c t) 0 (dbR (chM a B c t 0) B (nwD (mA (chM a B c t) B) (mV (chM a B c t) v B) (nI J) n) n) = va_up a 0 (asR a v B n J c t) := by
    rw [dbR_cg (fun j hj => (ag_ch a v B n hn c t).nn hj (nI J))]
    rw [bx_uu]
    rfl
  rw [e2] at e
  exact e
theorem fre_jud {a : AA} {v : VV} {s p : Int32} {n : Nat} {c : Int32} (hn : 0 < n) (hT : 1 ≤ totW a v s n) : fre a v (judOf a v s n c) p = !hasB (a 2 (judOf a v s n c)) p := by
  have h := (jud_sp (c := c) hn hT).2
  unfold fre
  revert h
  cases hasB (v 9) (nI (judOf a v s n c)) <;> simp
set_option maxRecDepth 4000 in
theorem l_assigned (G : GG) (hh0 : HH) {k : Nat} {a : AA} {v : VV} {B : Nat} (hB : B ≤ 924) (hr : ruleOK (v 2)) {n : Nat} (hn : n ≤ 6) (hv : v 1 = nI n) (hn0 : 0 < n) (s p : Int32) (hm : 1 ≤ totW (mA a B) (mV a v B) s n) : ∀ (K : Nat) (c t : Int32) (hh : HH), ((fre (mA a B) (mV a v B) (judOf (mA a B) (mV a v B) s n c) p = true ∧ K = 0) ∨ (¬ fre (mA a B) (mV a v B) (judOf (mA a B) (mV a v B) s n c) p = true ∧ firstK (mA a B) (mV a v B) s p n c K)) → MdAt G hh k (chM a B c t) v → Fr k (k + 11) hh0 hh → RR G mX5_assigned 8 [(0, .ref (ad G k)), (1, .int (nI B)), (2, .int s), (3, .int p), (4, .int (nI (judOf (mA a B) (mV a v B) s n c)))] [] hh (fun r h1 => ∃ w, r = some (.int w) ∧ (w = nI (judOf (mA a B) (mV a v B) s n (itT K c)) ∧ MdAt G h1 k (va_up a 0 (asR a v B n (judOf (mA a B) (mV a v B) s n (itT K c)) (itT K c) (t + nI K))) v ∧ Fr k (k + 11) hh0 h1)) := by
  intro K
  induction K using Nat.strongRecOn with
  | ind K ih =>
  intro c t hh hK h hF
  have hjn : (judOf (mA a B) (mV a v B) s n c) < n := jud_lt hn0
  refine R_aload_n dX5_assigned_8 rfl ?_
  refine R_iload_n dX5_assigned_9 rfl ?_
  refine R_iload dX5_assigned_10 rfl ?_
  refine R_iload_n dX5_assigned_12 rfl ?_
  have eb : hasB (mA (chM a B c t) B 2 (judOf (mA a B) (mV a v B) s n c)) p = hasB (mA a B 2 (judOf (mA a B) (mV a v B) s n c)) p := by rw [(ag_ch a v B n hn c t).1 2 (judOf (mA a B) (mV a v B) s n c) (by omega) hjn]
  refine R_callVp (w := bl (hasB (mA a B 2 (judOf (mA a B) (mV a v B) s n c)) p)) dX5_assigned_13 cv_X5_152 ⟨by decide, by decide⟩ ((eb ▸ m_isBarred G hh h hB (judOf (mA a B) (mV a v B) s n c) (by omega) p)) h.1 rfl rfl rfl (Nat.le_of_ble_eq_true rfl) ?_
  refine R_if_eq (tgt := 30) dX5_assigned_16 (by decide) (fun c16 => ?_) (fun c16 => ?_)
  · have hf : fre (mA a B) (mV a v B) (judOf (mA a B) (mV a v B) s n c) p = true := by
      have q := bl_f c16
      rw [fre_jud hn0 hm]
      revert q
      cases hasB (mA a B 2 (judOf (mA a B) (mV a v B) s n c)) p <;> simp
    have e0 : K = 0 := (hK.elim (fun q => q.2) (fun q => absurd hf q.1))
    subst e0
    refine R_aload_n dX5_assigned_30 rfl ?_
    refine R_iload_n dX5_assigned_31 rfl ?_
    refine R_iload dX5_assigned_32 rfl ?_
    refine R_callVv dX5_assigned_34 cv_X5_165 ⟨by decide, by decide⟩ (m_oweC G hh hB hn hv h (judOf (mA a B) (mV a v B) s n c)) h.1 rfl rfl rfl (Nat.le_of_ble_eq_true rfl) (fun hh1 hw => ?_)
    obtain ⟨h, hF1⟩ := hw
    have hF := hF.tr hF1 (by omega) (by omega)
    refine R_iload dX5_assigned_37 rfl ?_
    exact R_iret dX5_assigned_39 rfl (⟨_, rfl, rfl, h.cg (by rw [show t + nI 0 = t from Int32.add_zero t]; rfl) rfl, hF⟩)
  · have hf : ¬ fre (mA a B) (mV a v B) (judOf (mA a B) (mV a v B) s n c) p = true := by
      rw [fre_jud hn0 hm, bl_t c16]; decide
    have hK1 := (hK.resolve_left (fun q => hf q.1)).2
    obtain ⟨k1, hk1, hk2, hacc, hmin, hyes, hno⟩ := hK1.part
    refine R_aload_n dX5_assigned_19 rfl ?_
    refine R_iload_n dX5_assigned_20 rfl ?_
    refine R_iload_n dX5_assigned_21 rfl ?_
    refine R_callVi dX5_assigned_22 cv_X5_162 ⟨by decide, by decide⟩ (m_drawOnce G hh hB hr hn hv h s hm k1 hk1 hacc hmin hn0) h.1 rfl rfl rfl (Nat.le_of_ble_eq_true rfl) (fun w1 hh1 hw => ?_)
    obtain ⟨rfl, h, hF1⟩ := hw
    have hF := hF.tr hF1 (by omega) (by omega)
    refine R_istore dX5_assigned_25 (by decide) ?_
    refine R_goto (tgt := 8) dX5_assigned_27 (by decide) ?_
    have hKn : (fre (mA a B) (mV a v B) (judOf (mA a B) (mV a v B) s n (itT k1 c)) p = true ∧ K - k1 = 0) ∨ (¬ fre (mA a B) (mV a v B) (judOf (mA a B) (mV a v B) s n (itT k1 c)) p = true ∧ firstK (mA a B) (mV a v B) s p n (itT k1 c) (K - k1)) := by
      by_cases q : fre (mA a B) (mV a v B) (judOf (mA a B) (mV a v B) s n (itT k1 c)) p = true
      · exact Or.inl ⟨q, by have := hyes q; omega⟩
      · exact Or.inr ⟨q, (hno q).2⟩
    have e9 : t + nI K = (t + nI k1) + nI (K - k1) := by rw [Int32.add_assoc, nI_add, show k1 + (K - k1) = K by omega]
    have e8 : itT K c = itT (K - k1) (itT k1 c) := by rw [itT_add, show k1 + (K - k1) = K by omega]
    rw [e9, e8]
    exact RR.pick [1, 2, 3, 4, 0] rfl (ih (K - k1) (by omega) _ _ hh1 hKn h hF)
set_option maxRecDepth 4000 in
theorem m_assigned (G : GG) (hh : HH) {k : Nat} {a : AA} {v : VV} (h : MdAt G hh k a v) {B : Nat} (hB : B ≤ 924) (hr : ruleOK (v 2)) {n : Nat} (hn : n ≤ 6) (hv : v 1 = nI n) (hn0 : 0 < n) (s p : Int32) (hm : 1 ≤ totW (mA a B) (mV a v B) s n) {K : Nat} (hK : firstK (mA a B) (mV a v B) s p n (a 0 (B + 1)) K) : EVi G mX5_assigned [.ref (ad G k), .int (nI B), .int s, .int p] hh (fun w h1 => w = nI (judOf (mA a B) (mV a v B) s n (itT K (a 0 (B + 1)))) ∧ MdAt G h1 k (va_up a 0 (asR a v B n (judOf (mA a B) (mV a v B) s n (itT K (a 0 (B + 1)))) (itT K (a 0 (B + 1))) (a 0 (B + 2) + nI K))) v ∧ Fr k (k + 11) hh h1) := by
  refine EV.of [(0, .ref (ad G k)), (1, .int (nI B)), (2, .int s), (3, .int p)] (by decide +kernel) (Nat.le_of_ble_eq_true rfl) rfl ?_
  obtain ⟨k1, hk1, hk2, hacc, hmin, hyes, hno⟩ := hK.part
  refine R_aload_n dX5_assigned_0 rfl ?_
  refine R_iload_n dX5_assigned_1 rfl ?_
  refine R_iload_n dX5_assigned_2 rfl ?_
  refine R_callVi dX5_assigned_3 cv_X5_162 ⟨by decide, by decide⟩ (m_drawOnce G hh hB hr hn hv (c := (a 0 (B + 1))) (t := a 0 (B + 2)) (h.cg (by rw [chM, chR_self]; exact va_up_idA a) rfl) s hm k1 hk1 hacc hmin hn0) h.1 rfl rfl rfl (Nat.le_of_ble_eq_true rfl) (fun w1 hh1 hw => ?_)
  obtain ⟨rfl, h, hF⟩ := hw
  refine R_istore dX5_assigned_6 (by decide) ?_
  have hKn : (fre (mA a B) (mV a v B) (judOf (mA a B) (mV a v B) s n (itT k1 (a 0 (B + 1)))) p = true ∧ K - k1 = 0) ∨ (¬ fre (mA a B) (mV a v B) (judOf (mA a B) (mV a v B) s n (itT k1 (a 0 (B + 1)))) p = true ∧ firstK (mA a B) (mV a v B) s p n (itT k1 (a 0 (B + 1))) (K - k1)) := by
    by_cases q : fre (mA a B) (mV a v B) (judOf (mA a B) (mV a v B) s n (itT k1 (a 0 (B + 1)))) p = true
    · exact Or.inl ⟨q, by have := hyes q; omega⟩
    · exact Or.inr ⟨q, (hno q).2⟩
  have e9 : a 0 (B + 2) + nI K = (a 0 (B + 2) + nI k1) + nI (K - k1) := by rw [Int32.add_assoc, nI_add, show k1 + (K - k1) = K by omega]
  have e8 : itT K (a 0 (B + 1)) = itT (K - k1) (itT k1 (a 0 (B + 1))) := by rw [itT_add, show k1 + (K - k1) = K by omega]
  rw [e9, e8]
  exact RR.pick [1, 2, 3, 4, 0] rfl (l_assigned G hh hB hr hn hv hn0 s p hm (K - k1) _ _ hh1 hKn h hF)
theorem cpR_d {r : Nat → Int32} {x y n : Nat} (h : y ≤ x) : upd (cpR r x y n) (y + n) (cpR r x y n (x + n)) = cpR r x y (n + 1) := by
  funext j
  unfold upd cpR
  by_cases e : j = y + n
  · subst e
    rw [if_pos rfl, if_neg (by omega), if_pos (by omega), show y + n - y = n by omega]
  · rw [if_neg e]
    by_cases q : y ≤ j ∧ j < y + n
    · rw [if_pos q, if_pos (by omega)]
    · rw [if_neg q, if_neg (by omega)]
/-- the row behind keepPast, with z pasts ahead of it -/
def kpR (r : Nat → Int32) (z : Nat) : Nat → Int32 := if z = 8 then cpR (cpR r 154 77 539) 0 616 77 else cpR r 0 (77 + 77 * z) 77
theorem kpR_lo {r : Nat → Int32} {z j : Nat} (h : j < 77) : kpR r z j = r j := by
  unfold kpR
  by_cases q : z = 8
  · rw [if_pos q]; unfold cpR; rw [if_neg (by omega), if_neg (by omega)]
  · rw [if_neg q]; unfold cpR; rw [if_neg (by omega)]
set_option maxRecDepth 4000 in
theorem l_keepPast (G : GG) (hh0 : HH) {k : Nat} {a : AA} {v : VV} (hz : v 5 = 8) : ∀ (d i : Nat) (hh : HH), i + d = 539 → MdAt G hh k (va_up a 0 (cpR (a 0) 154 77 i)) v → Fr k (k + 11) hh0 hh → RR G mX5_keepPast 2 [(0, .ref (ad G k)), (1, .int (nI i))] [] hh (fun r h1 => r = none ∧ (MdAt G h1 k (va_up a 0 (kpR (a 0) 8)) (va_up v 5 8) ∧ Fr k (k + 11) hh0 h1)) := by
  intro d
  induction d with
  | zero =>
    intro i hh hi h hF
    refine R_iload_n dX5_keepPast_2 rfl ?_
    refine R_sipush (v := 539) dX5_keepPast_3 (by decide) ?_
    refine R_icmp_ge (tgt := 43) dX5_keepPast_6 (by decide) (fun c6 => ?_) (fun c6 => absurd (nI_le (a := 539) (by omega) (by omega)) c6)
    have e : i = 539 := by omega
    subst e
    refine R_aload_n dX5_keepPast_43 rfl ?_
    refine R_dup dX5_keepPast_44 rfl ?_
    refine R_get dX5_keepPast_45 gf_X5_136 h.1 rfl ?_
    refine R_aload_n dX5_keepPast_48 rfl ?_
    refine R_get dX5_keepPast_49 gf_X5_136 h.1 rfl ?_
    refine R_bipush (v := 8) dX5_keepPast_52 (by decide) ?_
    refine R_icmp_ne (tgt := 61) dX5_keepPast_54 (by decide) (fun c54 => absurd c54 (fun q => q hz)) (fun c54 => ?_)
    refine R_iconst (v := 1) dX5_keepPast_57 (by decide) ?_
    refine R_goto (tgt := 62) dX5_keepPast_58 (by decide) ?_
    refine R_isub dX5_keepPast_62 ?_
    refine RR.top (y := nI 7) (by rw [hz]; rfl) ?_
    refine Md_put5 dX5_keepPast_63 pf_X5_136 h (fun hh h hF1 => ?_)
    have hF := hF.tr hF1 (by omega) (by omega)
    refine R_aload_n dX5_keepPast_66 rfl ?_
    refine R_iconst (v := 0) dX5_keepPast_67 (by decide) ?_
    refine R_bipush (v := 77) dX5_keepPast_68 (by decide) ?_
    refine R_bipush (v := 77) dX5_keepPast_70 (by decide) ?_
    refine R_aload_n dX5_keepPast_72 rfl ?_
    refine R_get dX5_keepPast_73 gf_X5_136 h.1 rfl ?_
    refine R_imul dX5_keepPast_76 ?_
    refine R_iadd dX5_keepPast_77 ?_
    refine RR.top (y := nI 616) rfl ?_
    refine R_callVv dX5_keepPast_78 cv_X5_44 ⟨by decide, by decide⟩ (m_copyRow G hh h 0 616 (by omega) (by omega) (by omega)) h.1 rfl rfl rfl (Nat.le_of_ble_eq_true rfl) (fun hh hw => ?_)
    obtain ⟨h, hF1⟩ := hw
    have hF := hF.tr hF1 (by omega) (by omega)
    refine R_aload_n dX5_keepPast_81 rfl ?_
    refine R_dup dX5_keepPast_82 rfl ?_
    refine R_get dX5_keepPast_83 gf_X5_136 h.1 rfl ?_
    refine R_iconst (v := 1) dX5_keepPast_86 (by decide) ?_
    refine R_iadd dX5_keepPast_87 ?_
    refine Md_put5 dX5_keepPast_88 pf_X5_136 h (fun hh h hF1 => ?_)
    have hF := hF.tr hF1 (by omega) (by omega)
    exact R_vret dX5_keepPast_91 rfl (⟨rfl, h.cg (by rw [bx_uu]; rfl) (by rw [bx_uu]; rfl), hF⟩)
  | succ d ih =>
    intro i hh hi h hF
    refine R_iload_n dX5_keepPast_2 rfl ?_
    refine R_sipush (v := 539) dX5_keepPast_3 (by decide) ?_
    refine R_icmp_ge (tgt := 43) dX5_keepPast_6 (by decide) (fun c6 => absurd c6 (nI_ge (b := 539) (by omega) (by omega))) (fun c6 => ?_)
    refine R_aload_n dX5_keepPast_9 rfl ?_
    refine R_get dX5_keepPast_10 gf_X5_136 h.1 rfl ?_
    refine R_bipush (v := 8) dX5_keepPast_13 (by decide) ?_
    refine R_icmp_ne (tgt := 43) dX5_keepPast_15 (by decide) (fun c15 => absurd c15 (fun q => q hz)) (fun c15 => ?_)
    refine R_aload_n dX5_keepPast_18 rfl ?_
    refine R_get dX5_keepPast_19 gf_X5_7 h.1 rfl ?_
    refine R_bipush (v := 77) dX5_keepPast_22 (by decide) ?_
    refine R_iload_n dX5_keepPast_24 rfl ?_
    refine R_iadd dX5_keepPast_25 ?_
    refine RR.top (y := nI (77 + i)) (nI_add (77) (i)) ?_
    refine R_aload_n dX5_keepPast_26 rfl ?_
    refine R_get dX5_keepPast_27 gf_X5_7 h.1 rfl ?_
    refine R_sipush (v := 154) dX5_keepPast_30 (by decide) ?_
    refine R_iload_n dX5_keepPast_33 rfl ?_
    refine R_iadd dX5_keepPast_34 ?_
    refine RR.top (y := nI (154 + i)) (nI_add (154) (i)) ?_
    refine R_ialdN dX5_keepPast_35 h.a0 (by omega) (by decide) ?_
    refine Md_ast0N dX5_keepPast_36 h (by omega) (fun hh h hF1 => ?_)
    have hF := hF.tr hF1 (by omega) (by omega)
    refine R_iinc (y := nI (i + 1)) dX5_keepPast_37 rfl (by decide) (nI_s (i)) ?_
    refine R_goto (tgt := 2) dX5_keepPast_40 (by decide) ?_
    have h := h.cg (a' := va_up a 0 (cpR (a 0) 154 77 (i + 1))) (by rw [bx_uu, ← cpR_d (by omega)]; rfl) rfl
    exact RR.pick [1, 0] rfl (ih (i + 1) hh (by omega) h hF)
set_option maxRecDepth 4000 in
theorem m_keepPast8 (G : GG) (hh : HH) {k : Nat} {a : AA} {v : VV} (h : MdAt G hh k a v) (hz : v 5 = 8) : EVv G mX5_keepPast [.ref (ad G k)] hh (fun h1 => MdAt G h1 k (va_up a 0 (kpR (a 0) 8)) (va_up v 5 8) ∧ Fr k (k + 11) hh h1) := by
  refine EV.of [(0, .ref (ad G k))] (by decide +kernel) (Nat.le_of_ble_eq_true rfl) rfl ?_
  refine R_iconst (v := 0) dX5_keepPast_0 (by decide) ?_
  refine R_istore_n dX5_keepPast_1 (by decide) ?_
  exact RR.pick [1, 0] rfl (l_keepPast G hh hz 539 0 hh (by omega) (h.cg (by rw [cpR_0]; exact va_up_idA a) rfl) Fr.rf)
set_option maxRecDepth 4000 in
theorem m_keepPast7 (G : GG) (hh : HH) {k : Nat} {a : AA} {v : VV} (h : MdAt G hh k a v) {z : Nat} (hz8 : z < 8) (hz : v 5 = nI z) : EVv G mX5_keepPast [.ref (ad G k)] hh (fun h1 => MdAt G h1 k (va_up a 0 (kpR (a 0) z)) (va_up v 5 (nI (z + 1))) ∧ Fr k (k + 11) hh h1) := by
  refine EV.of [(0, .ref (ad G k))] (by decide +kernel) (Nat.le_of_ble_eq_true rfl) rfl ?_
  have hF : Fr k (k + 11) hh hh := Fr.rf
  refine R_iconst (v := 0) dX5_keepPast_0 (by decide) ?_
  refine R_istore_n dX5_keepPast_1 (by decide) ?_
  refine R_iload_n dX5_keepPast_2 rfl ?_
  refine R_sipush (v := 539) dX5_keepPast_3 (by decide) ?_
  refine R_icmp_ge (tgt := 43) dX5_keepPast_6 (by decide) (fun c6 => absurd c6 (by decide)) (fun c6 => ?_)
  refine R_aload_n dX5_keepPast_9 rfl ?_
  refine R_get dX5_keepPast_10 gf_X5_136 h.1 rfl ?_
  refine R_bipush (v := 8) dX5_keepPast_13 (by decide) ?_
  refine R_icmp_ne (tgt := 43) dX5_keepPast_15 (by decide) (fun c15 => ?_) (fun c15 => absurd (fun q => by rw [hz] at q; have := (nI_eq (b := 8) (by omega) (by decide)).mp q; omega) c15)
  refine R_aload_n dX5_keepPast_43 rfl ?_
  refine R_dup dX5_keepPast_44 rfl ?_
  refine R_get dX5_keepPast_45 gf_X5_136 h.1 rfl ?_
  refine R_aload_n dX5_keepPast_48 rfl ?_
  refine R_get dX5_keepPast_49 gf_X5_136 h.1 rfl ?_
  refine R_bipush (v := 8) dX5_keepPast_52 (by decide) ?_
  refine R_icmp_ne (tgt := 61) dX5_keepPast_54 (by decide) (fun c54 => ?_) (fun c54 => absurd (fun q => by rw [hz] at q; have := (nI_eq (b := 8) (by omega) (by decide)).mp q; omega) c54)
  refine R_iconst (v := 0) dX5_keepPast_61 (by decide) ?_
  refine R_isub dX5_keepPast_62 ?_
  refine RR.top (y := nI z) (by rw [hz]; exact Int32.sub_zero _) ?_
  refine Md_put5 dX5_keepPast_63 pf_X5_136 h (fun hh h hF1 => ?_)
  have hF := hF.tr hF1 (by omega) (by omega)
  refine R_aload_n dX5_keepPast_66 rfl ?_
  refine R_iconst (v := 0) dX5_keepPast_67 (by decide) ?_
  refine R_bipush (v := 77) dX5_keepPast_68 (by decide) ?_
  refine R_bipush (v := 77) dX5_keepPast_70 (by decide) ?_
  refine R_aload_n dX5_keepPast_72 rfl ?_
  refine R_get dX5_keepPast_73 gf_X5_136 h.1 rfl ?_
  refine R_imul dX5_keepPast_76 ?_
  refine R_iadd dX5_keepPast_77 ?_
  refine RR.top (y := nI (77 + 77 * z)) (by show 77 + 77 * nI z = _; rw [show (77 : Int32) = nI 77 from rfl, pk_mul, nI_add]) ?_
  refine R_callVv dX5_keepPast_78 cv_X5_44 ⟨by decide, by decide⟩ (m_copyRow G hh h 0 (77 + 77 * z) (by omega) (by omega) (by omega)) h.1 rfl rfl rfl (Nat.le_of_ble_eq_true rfl) (fun hh hw => ?_)
  obtain ⟨h, hF1⟩ := hw
  have hF := hF.tr hF1 (by omega) (by omega)
  refine R_aload_n dX5_keepPast_81 rfl ?_
  refine R_dup dX5_keepPast_82 rfl ?_
  refine R_get dX5_keepPast_83 gf_X5_136 h.1 rfl ?_
  refine R_iconst (v := 1) dX5_keepPast_86 (by decide) ?_
  refine R_iadd dX5_keepPast_87 ?_
  refine RR.top (y := nI (z + 1)) (nI_1 z) ?_
  refine Md_put5 dX5_keepPast_88 pf_X5_136 h (fun hh h hF1 => ?_)
  have hF := hF.tr hF1 (by omega) (by omega)
  exact R_vret dX5_keepPast_91 rfl (⟨rfl, h.cg (by unfold kpR; rw [if_neg (by omega)]) (by rw [bx_uu]), hF⟩)
theorem m_keepPast (G : GG) (hh : HH) {k : Nat} {a : AA} {v : VV} (h : MdAt G hh k a v) {z : Nat} (hz8 : z ≤ 8) (hz : v 5 = nI z) : EVv G mX5_keepPast [.ref (ad G k)] hh (fun h1 => MdAt G h1 k (va_up a 0 (kpR (a 0) z)) (va_up v 5 (nI (hiZ z))) ∧ Fr k (k + 11) hh h1) := by
  rcases Nat.lt_or_ge z 8 with q | q
  · rw [show hiZ z = z + 1 from if_pos q]; exact m_keepPast7 G hh h q hz
  · have e : z = 8 := by omega
    subst e
    exact m_keepPast8 G hh h hz
