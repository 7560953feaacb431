def stA (a : AA) (v : VV) (j : Nat) : Int32 := if hasB (v 9) (nI j) = true then 0 else a 0 j
def togS (a : AA) (v : VV) (n : Nat) : Int32 := foldS (stA a v) 0 n 0
def clpI (x : Int32) : Int32 := if (-99 : Int32) < (if x < 99 then x else 99) then (if x < 99 then x else 99) else -99
def nwD (a : AA) (v : VV) (x : Int32) (n : Nat) (j : Nat) : Int32 := clpI (if nI j = x then a 3 j + stA a v j - togS a v n else a 3 j + stA a v j)
/-- the debts behind a case that judge x got -/
def setD (a : AA) (v : VV) (x : Int32) (n : Nat) : AA := va_up a 3 (mixA (nwD a v x n) (a 3) n)
set_option maxRecDepth 4000 in
theorem l_settle2 (G : GG) (hh0 : HH) {k : Nat} {a : AA} {v : VV} {n : Nat} (hn : n ≤ 6) (hv : v 8 = nI n) (x : Int32) : ∀ (d i : Nat) (hh : HH), i + d = n → StAt G hh k (va_up a 3 (mixA (nwD a v x n) (a 3) i)) v → Fr k (k + 9) hh0 hh → RR G mX2_settleDebts 41 [(0, .ref (ad G k)), (1, .int x), (2, .int (togS a v n)), (3, .int (nI i))] [] hh (fun r h1 => r = none ∧ (StAt G h1 k (setD a v x n) v ∧ Fr k (k + 9) hh0 h1)) := by
  intro d
  induction d with
  | zero =>
    intro i hh hi h hF
    refine R_iload_n dX2_settleDebts_41 rfl ?_
    refine R_aload_n dX2_settleDebts_42 rfl ?_
    refine R_get dX2_settleDebts_43 gf_X2_52 h.1 rfl ?_
    refine R_icmp_ge (tgt := 111) dX2_settleDebts_46 (by decide) (fun c46 => ?_) (fun c46 => absurd (by rw [hv]; exact nI_le (by omega) (by omega)) c46)
    exact R_vret dX2_settleDebts_111 rfl (by (have e : i = n := by omega); (subst e); exact ⟨rfl, h, hF⟩)
  | succ d ih =>
    intro i hh hi h hF
    refine R_iload_n dX2_settleDebts_41 rfl ?_
    refine R_aload_n dX2_settleDebts_42 rfl ?_
    refine R_get dX2_settleDebts_43 gf_X2_52 h.1 rfl ?_
    refine R_icmp_ge (tgt := 111) dX2_settleDebts_46 (by decide) (fun c46 => absurd c46 (by rw [hv]; exact nI_ge (by omega) (by omega))) (fun c46 => ?_)
    refine R_aload_n dX2_settleDebts_49 rfl ?_
    refine R_get dX2_settleDebts_50 gf_X2_21 h.1 rfl ?_
    refine R_iload_n dX2_settleDebts_53 rfl ?_
    refine R_ialdN dX2_settleDebts_54 h.a3 (by omega) (by decide) ?_
    refine R_aload_n dX2_settleDebts_55 rfl ?_
    refine R_iload_n dX2_settleDebts_56 rfl ?_
    refine R_callVp dX2_settleDebts_57 cv_X2_74 ⟨by decide, by decide⟩ (e_isAway G hh h (nI i)) h.1 rfl rfl rfl (Nat.le_of_ble_eq_true rfl) ?_
    refine R_if_eq (tgt := 67) dX2_settleDebts_60 (by decide) (fun c60 => ?_) (fun c60 => ?_)
    · refine R_aload_n dX2_settleDebts_67 rfl ?_
      refine R_get dX2_settleDebts_68 gf_X2_9 h.1 rfl ?_
      refine R_iload_n dX2_settleDebts_71 rfl ?_
      refine R_ialdN dX2_settleDebts_72 h.a0 (by omega) (by decide) ?_
      refine R_iadd dX2_settleDebts_73 ?_
      refine RR.top (y := a 3 i + stA a v i) (by simp_all [stA, bl, va_up, mixA]) ?_
      refine R_istore dX2_settleDebts_74 (by decide) ?_
      refine R_iload_n dX2_settleDebts_76 rfl ?_
      refine R_iload_n dX2_settleDebts_77 rfl ?_
      refine R_icmp_ne (tgt := 87) dX2_settleDebts_78 (by decide) (fun c78 => ?_) (fun c78 => ?_)
      · refine R_aload_n dX2_settleDebts_87 rfl ?_
        refine R_get dX2_settleDebts_88 gf_X2_21 h.1 rfl ?_
        refine R_iload_n dX2_settleDebts_91 rfl ?_
        refine R_bipush (v := (-99)) dX2_settleDebts_92 (by decide) ?_
        refine R_bipush (v := 99) dX2_settleDebts_94 (by decide) ?_
        refine R_iload dX2_settleDebts_96 rfl ?_
        refine R_mmin dX2_settleDebts_98 mm_X2_113 mS_min mI_Math mC_min (by decide) (Nat.le_of_ble_eq_true rfl) ?_
        refine R_mmax dX2_settleDebts_101 mm_X2_88 mS_max mI_Math mC_max (by decide) (Nat.le_of_ble_eq_true rfl) ?_
        refine RR.top (y := nwD a v x n i) (by unfold nwD clpI; rw [if_neg c78]) ?_
        refine St_ast3N dX2_settleDebts_104 h (by omega) (fun hh h hF1 => ?_)
        have hF := hF.tr hF1 (by omega) (by omega)
        refine R_iinc (y := nI (i + 1)) dX2_settleDebts_105 rfl (by decide) (nI_s i) ?_
        refine R_goto (tgt := 41) dX2_settleDebts_108 (by decide) ?_
        have e8 : upd (mixA (nwD a v x n) (a 3) i) i (nwD a v x n i) = mixA (nwD a v x n) (a 3) (i + 1) := mixA_s _ _ _
        have h := h.cg (a' := va_up a 3 (mixA (nwD a v x n) (a 3) (i + 1))) (by rw [bx_uu, ← e8]; rfl) rfl
        exact RR.pick [2, 3, 4, 0] rfl (ih (i + 1) hh (by omega) h hF)
      · refine R_iload dX2_settleDebts_81 rfl ?_
        refine R_iload_n dX2_settleDebts_83 rfl ?_
        refine R_isub dX2_settleDebts_84 ?_
        refine R_istore dX2_settleDebts_85 (by decide) ?_
        refine R_aload_n dX2_settleDebts_87 rfl ?_
        refine R_get dX2_settleDebts_88 gf_X2_21 h.1 rfl ?_
        refine R_iload_n dX2_settleDebts_91 rfl ?_
        refine R_bipush (v := (-99)) dX2_settleDebts_92 (by decide) ?_
        refine R_bipush (v := 99) dX2_settleDebts_94 (by decide) ?_
        refine R_iload dX2_settleDebts_96 rfl ?_
        refine R_mmin dX2_settleDebts_98 mm_X2_113 mS_min mI_Math mC_min (by decide) (Nat.le_of_ble_eq_true rfl) ?_
        refine R_mmax dX2_settleDebts_101 mm_X2_88 mS_max mI_Math mC_max (by decide) (Nat.le_of_ble_eq_true rfl) ?_
        refine RR.top (y := nwD a v x n i) (by unfold nwD clpI; rw [if_pos (Classical.not_not.mp c78)]) ?_
        refine St_ast3N dX2_settleDebts_104 h (by omega) (fun hh h hF1 => ?_)
        have hF := hF.tr hF1 (by omega) (by omega)
        refine R_iinc (y := nI (i + 1)) dX2_settleDebts_105 rfl (by decide) (nI_s i) ?_
        refine R_goto (tgt := 41) dX2_settleDebts_108 (by decide) ?_
        have e8 : upd (mixA (nwD a v x n) (a 3) i) i (nwD a v x n i) = mixA (nwD a v x n) (a 3) (i + 1) := mixA_s _ _ _
        have h := h.cg (a' := va_up a 3 (mixA (nwD a v x n) (a 3) (i + 1))) (by rw [bx_uu, ← e8]; rfl) rfl
        exact RR.pick [2, 3, 4, 0] rfl (ih (i + 1) hh (by omega) h hF)
    · refine R_iconst (v := 0) dX2_settleDebts_63 (by decide) ?_
      refine R_goto (tgt := 73) dX2_settleDebts_64 (by decide) ?_
      refine R_iadd dX2_settleDebts_73 ?_
      refine RR.top (y := a 3 i + stA a v i) (by simp_all [stA, bl, va_up, mixA]) ?_
      refine R_istore dX2_settleDebts_74 (by decide) ?_
      refine R_iload_n dX2_settleDebts_76 rfl ?_
      refine R_iload_n dX2_settleDebts_77 rfl ?_
      refine R_icmp_ne (tgt := 87) dX2_settleDebts_78 (by decide) (fun c78 => ?_) (fun c78 => ?_)
      · refine R_aload_n dX2_settleDebts_87 rfl ?_
        refine R_get dX2_settleDebts_88 gf_X2_21 h.1 rfl ?_
        refine R_iload_n dX2_settleDebts_91 rfl ?_
        refine R_bipush (v := (-99)) dX2_settleDebts_92 (by decide) ?_
        refine R_bipush (v := 99) dX2_settleDebts_94 (by decide) ?_
        refine R_iload dX2_settleDebts_96 rfl ?_
        refine R_mmin dX2_settleDebts_98 mm_X2_113 mS_min mI_Math mC_min (by decide) (Nat.le_of_ble_eq_true rfl) ?_
        refine R_mmax dX2_settleDebts_101 mm_X2_88 mS_max mI_Math mC_max (by decide) (Nat.le_of_ble_eq_true rfl) ?_
        refine RR.top (y := nwD a v x n i) (by unfold nwD clpI; rw [if_neg c78]) ?_
        refine St_ast3N dX2_settleDebts_104 h (by omega) (fun hh h hF1 => ?_)
        have hF := hF.tr hF1 (by omega) (by omega)
        refine R_iinc (y := nI (i + 1)) dX2_settleDebts_105 rfl (by decide) (nI_s i) ?_
        refine R_goto (tgt := 41) dX2_settleDebts_108 (by decide) ?_
        have e8 : upd (mixA (nwD a v x n) (a 3) i) i (nwD a v x n i) = mixA (nwD a v x n) (a 3) (i + 1) := mixA_s _ _ _
        have h := h.cg (a' := va_up a 3 (mixA (nwD a v x n) (a 3) (i + 1))) (by rw [bx_uu, ← e8]; rfl) rfl
        exact RR.pick [2, 3, 4, 0] rfl (ih (i + 1) hh (by omega) h hF)
      · refine R_iload dX2_settleDebts_81 rfl ?_
        refine R_iload_n dX2_settleDebts_83 rfl ?_
        refine R_isub dX2_settleDebts_84 ?_
        refine R_istore dX2_settleDebts_85 (by decide) ?_
        refine R_aload_n dX2_settleDebts_87 rfl ?_
        refine R_get dX2_settleDebts_88 gf_X2_21 h.1 rfl ?_
        refine R_iload_n dX2_settleDebts_91 rfl ?_
        refine R_bipush (v := (-99)) dX2_settleDebts_92 (by decide) ?_
        refine R_bipush (v := 99) dX2_settleDebts_94 (by decide) ?_
        refine R_iload dX2_settleDebts_96 rfl ?_
        refine R_mmin dX2_settleDebts_98 mm_X2_113 mS_min mI_Math mC_min (by decide) (Nat.le_of_ble_eq_true rfl) ?_
        refine R_mmax dX2_settleDebts_101 mm_X2_88 mS_max mI_Math mC_max (by decide) (Nat.le_of_ble_eq_true rfl) ?_
        refine RR.top (y := nwD a v x n i) (by unfold nwD clpI; rw [if_pos (Classical.not_not.mp c78)]) ?_
        refine St_ast3N dX2_settleDebts_104 h (by omega) (fun hh h hF1 => ?_)
        have hF := hF.tr hF1 (by omega) (by omega)
        refine R_iinc (y := nI (i + 1)) dX2_settleDebts_105 rfl (by decide) (nI_s i) ?_
        refine R_goto (tgt := 41) dX2_settleDebts_108 (by decide) ?_
        have e8 : upd (mixA (nwD a v x n) (a 3) i) i (nwD a v x n i) = mixA (nwD a v x n) (a 3) (i + 1) := mixA_s _ _ _
        have h := h.cg (a' := va_up a 3 (mixA (nwD a v x n) (a 3) (i + 1))) (by rw [bx_uu, ← e8]; rfl) rfl
        exact RR.pick [2, 3, 4, 0] rfl (ih (i + 1) hh (by omega) h hF)
set_option maxRecDepth 4000 in
theorem l_settle1 (G : GG) (hh : HH) {k : Nat} {a : AA} {v : VV} (h : StAt G hh k a v) {n : Nat} (hn : n ≤ 6) (hv : v 8 = nI n) (x : Int32) : ∀ (d i : Nat), i + d = n → RR G mX2_settleDebts 4 [(0, .ref (ad G k)), (1, .int x), (2, .int (foldS (stA a v) 0 i 0)), (3, .int (nI i))] [] hh (fun r h1 => r = none ∧ (StAt G h1 k (setD a v x n) v ∧ Fr k (k + 9) hh h1)) := by
  intro d
  induction d with
  | zero =>
    intro i hi
    refine R_iload_n dX2_settleDebts_4 rfl ?_
    refine R_aload_n dX2_settleDebts_5 rfl ?_
    refine R_get dX2_settleDebts_6 gf_X2_52 h.1 rfl ?_
    refine R_icmp_ge (tgt := 39) dX2_settleDebts_9 (by decide) (fun c9 => ?_) (fun c9 => absurd (by rw [hv]; exact nI_le (by omega) (by omega)) c9)
    refine R_iconst (v := 0) dX2_settleDebts_39 (by decide) ?_
    refine R_istore_n dX2_settleDebts_40 (by decide) ?_
    have e : i = n := by omega
    subst e
    exact RR.pick [1, 2, 3, 0] rfl (l_settle2 G hh hn hv x i 0 hh (by omega) (h.cg (by rw [mixA_0]; funext j; simp only [va_up]; split <;> simp_all) rfl) Fr.rf)
  | succ d ih =>
    intro i hi
    refine R_iload_n dX2_settleDebts_4 rfl ?_
    refine R_aload_n dX2_settleDebts_5 rfl ?_
    refine R_get dX2_settleDebts_6 gf_X2_52 h.1 rfl ?_
    refine R_icmp_ge (tgt := 39) dX2_settleDebts_9 (by decide) (fun c9 => absurd c9 (by rw [hv]; exact nI_ge (by omega) (by omega))) (fun c9 => ?_)
    refine R_iload_n dX2_settleDebts_12 rfl ?_
    refine R_aload_n dX2_settleDebts_13 rfl ?_
    refine R_iload_n dX2_settleDebts_14 rfl ?_
    refine R_callVp dX2_settleDebts_15 cv_X2_74 ⟨by decide, by decide⟩ (e_isAway G hh h (nI i)) h.1 rfl rfl rfl (Nat.le_of_ble_eq_true rfl) ?_
    refine R_if_eq (tgt := 25) dX2_settleDebts_18 (by decide) (fun c18 => ?_) (fun c18 => ?_)
    · refine R_aload_n dX2_settleDebts_25 rfl ?_
      refine R_get dX2_settleDebts_26 gf_X2_9 h.1 rfl ?_
      refine R_iload_n dX2_settleDebts_29 rfl ?_
      refine R_ialdN dX2_settleDebts_30 h.a0 (by omega) (by decide) ?_
      refine R_iadd dX2_settleDebts_31 ?_
      refine RR.top (y := foldS (stA a v) 0 (i + 1) 0) (by rw [foldS_last, Nat.zero_add]; simp_all [stA, bl]) ?_
      refine R_istore_n dX2_settleDebts_32 (by decide) ?_
      refine R_iinc (y := nI (i + 1)) dX2_settleDebts_33 rfl (by decide) (nI_s i) ?_
      refine R_goto (tgt := 4) dX2_settleDebts_36 (by decide) ?_
      exact RR.pick [2, 3, 1, 0] rfl (ih (i + 1) (by omega))
    · refine R_iconst (v := 0) dX2_settleDebts_21 (by decide) ?_
      refine R_goto (tgt := 31) dX2_settleDebts_22 (by decide) ?_
      refine R_iadd dX2_settleDebts_31 ?_
      refine RR.top (y := foldS (stA a v) 0 (i + 1) 0) (by rw [foldS_last, Nat.zero_add]; simp_all [stA, bl]) ?_
      refine R_istore_n dX2_settleDebts_32 (by decide) ?_
      refine R_iinc (y := nI (i + 1)) dX2_settleDebts_33 rfl (by decide) (nI_s i) ?_
      refine R_goto (tgt := 4) dX2_settleDebts_36 (by decide) ?_
      exact RR.pick [2, 3, 1, 0] rfl (ih (i + 1) (by omega))
set_option maxRecDepth 4000 in
theorem e_settle (G : GG) (hh : HH) {k : Nat} {a : AA} {v : VV} (h : StAt G hh k a v) {n : Nat} (hn : n ≤ 6) (hv : v 8 = nI n) (x : Int32) : EVv G mX2_settleDebts [.ref (ad G k), .int x] hh (fun h1 => StAt G h1 k (setD a v x n) v ∧ Fr k (k + 9) hh h1) := by
  refine EV.of [(0, .ref (ad G k)), (1, .int x)] (by decide +kernel) (Nat.le_of_ble_eq_true rfl) rfl ?_
  refine R_iconst (v := 0) dX2_settleDebts_0 (by decide) ?_
  refine R_istore_n dX2_settleDebts_1 (by decide) ?_
  refine R_iconst (v := 0) dX2_settleDebts_2 (by decide) ?_
  refine R_istore_n dX2_settleDebts_3 (by decide) ?_
  exact RR.pick [2, 3, 1, 0] rfl (l_settle1 G hh h hn hv x n 0 (by omega))
/-- the arrays behind a case more, number c, of judge j -/
def addA (a : AA) (v : VV) (s p : Int32) (n j c : Nat) : AA := va_up (va_up (va_up (setD a v (nI j) n) 4 (upd (a 4) c s)) 5 (upd (a 5) c p)) 6 (upd (a 6) c (nI j))
def addV (v : VV) (K c : Nat) : VV := va_up (vct v (itT K (v 12)) (v 13 + nI K)) 14 (nI (c + 1))
set_option maxRecDepth 4000 in
theorem e_addCase (G : GG) (hh : HH) {k : Nat} {a : AA} {v : VV} (h : StAt G hh k a v) {n : Nat} (hn : n ≤ 6) (hv : v 8 = nI n) (s p : Int32) (hm : 1 ≤ totW a v s n) {K : Nat} (hK : firstK a v s p n (v 12) K) (hK2 : K ≤ 1000000) {c : Nat} (hc20 : c < 20) (hc : v 14 = nI c) : EVi G mX2_addCase [.ref (ad G k), .int s, .int p] hh (fun w h1 => w = nI (judOf a v s n (itT K (v 12))) ∧ ∃ g, StAt G h1 k (va_up (addA a v s p n (judOf a v s n (itT K (v 12))) c) 7 g) (addV v K c) ∧ Fr k (k + 9) hh h1) := by
  refine EV.of [(0, .ref (ad G k)), (1, .int s), (2, .int p)] (by decide +kernel) (Nat.le_of_ble_eq_true rfl) rfl ?_
  refine R_aload_n dX2_addCase_0 rfl ?_
  refine R_get dX2_addCase_1 gf_X2_61 h.1 rfl ?_
  refine R_bipush (v := 20) dX2_addCase_4 (by decide) ?_
  refine R_icmp_lt (tgt := 11) dX2_addCase_6 (by decide) (fun c6 => ?_) (fun c6 => absurd (by rw [hc]; exact nI_lt (b := 20) hc20 (by decide)) c6)
  refine R_aload_n dX2_addCase_11 rfl ?_
  refine R_iload_n dX2_addCase_12 rfl ?_
  refine R_iload_n dX2_addCase_13 rfl ?_
  refine R_callVi dX2_addCase_14 cv_X2_116 ⟨by decide, by decide⟩ (e_drawJudge G hh h hn hv s p hm hK hK2) h.1 rfl rfl rfl (Nat.le_of_ble_eq_true rfl) (fun w1 hh hw => ?_)
  obtain ⟨rfl, g, h, hF⟩ := hw
  refine R_istore_n dX2_addCase_17 (by decide) ?_
  refine R_aload_n dX2_addCase_18 rfl ?_
  refine R_iload_n dX2_addCase_19 rfl ?_
  refine R_callVv dX2_addCase_20 cv_X2_119 ⟨by decide, by decide⟩ (e_settle G hh h hn hv (nI (judOf a v s n (itT K (v 12))))) h.1 rfl rfl rfl (Nat.le_of_ble_eq_true rfl) (fun hh hw => ?_)
  obtain ⟨h, hF1⟩ := hw
  have hF := hF.tr hF1 (by omega) (by omega)
  refine R_aload_n dX2_addCase_23 rfl ?_
  refine R_get dX2_addCase_24 gf_X2_24 h.1 rfl ?_
  refine R_aload_n dX2_addCase_27 rfl ?_
  refine R_get dX2_addCase_28 gf_X2_61 h.1 rfl ?_
  refine RR.top (y := nI c) hc ?_
  refine R_iload_n dX2_addCase_31 rfl ?_
  refine St_ast4N dX2_addCase_32 h (by omega) (fun hh h hF1 => ?_)
  have hF := hF.tr hF1 (by omega) (by omega)
  refine R_aload_n dX2_addCase_33 rfl ?_
  refine R_get dX2_addCase_34 gf_X2_27 h.1 rfl ?_
  refine R_aload_n dX2_addCase_37 rfl ?_
  refine R_get dX2_addCase_38 gf_X2_61 h.1 rfl ?_
  refine RR.top (y := nI c) hc ?_
  refine R_iload_n dX2_addCase_41 rfl ?_
  refine St_ast5N dX2_addCase_42 h (by omega) (fun hh h hF1 => ?_)
  have hF := hF.tr hF1 (by omega) (by omega)
  refine R_aload_n dX2_addCase_43 rfl ?_
  refine R_get dX2_addCase_44 gf_X2_30 h.1 rfl ?_
  refine R_aload_n dX2_addCase_47 rfl ?_
  refine R_get dX2_addCase_48 gf_X2_61 h.1 rfl ?_
  refine RR.top (y := nI c) hc ?_
  refine R_iload_n dX2_addCase_51 rfl ?_
  refine St_ast6N dX2_addCase_52 h (by omega) (fun hh h hF1 => ?_)
  have hF := hF.tr hF1 (by omega) (by omega)
  refine R_aload_n dX2_addCase_53 rfl ?_
  refine R_dup dX2_addCase_54 rfl ?_
  refine R_get dX2_addCase_55 gf_X2_61 h.1 rfl ?_
  refine R_iconst (v := 1) dX2_addCase_58 (by decide) ?_
  refine R_iadd dX2_addCase_59 ?_
  refine RR.top (y := nI (c + 1)) (by show v 14 + 1 = nI (c + 1); rw [hc]; exact nI_1 c) ?_
  refine St_put14 dX2_addCase_60 pf_X2_61 h (fun hh h hF1 => ?_)
  have hF := hF.tr hF1 (by omega) (by omega)
  refine R_iload_n dX2_addCase_63 rfl ?_
  exact R_iret dX2_addCase_64 rfl (⟨_, rfl, rfl, g, h.cgv (fun j hj => by rcases (show j = 0 ∨ j = 1 ∨ j = 2 ∨ j = 3 ∨ j = 4 ∨ j = 5 ∨ j = 6 ∨ j = 7 by omega) with rfl | rfl | rfl | rfl | rfl | rfl | rfl | rfl <;> rfl) (fun j h1 h2 => by rcases (show j = 8 ∨ j = 9 ∨ j = 10 ∨ j = 11 ∨ j = 12 ∨ j = 13 ∨ j = 14 by omega) with rfl | rfl | rfl | rfl | rfl | rfl | rfl <;> rfl), hF⟩)
/-- the arrays behind a refusal of case i by judge jo -/
def barA (a : AA) (i jo : Nat) : AA := va_up a 2 (upd (a 2) jo (a 2 jo ||| ((1 : Int32) <<< (a 5 i &&& 31))))
def agnA (a : AA) (v : VV) (n j i : Nat) : AA := va_up (setD a v (nI j) n) 6 (upd (a 6) i (nI j))
set_option maxRecDepth 4000 in
theorem e_drawCaseAgain (G : GG) (hh : HH) {k : Nat} {a : AA} {v : VV} (h : StAt G hh k a v) {n : Nat} (hn : n ≤ 6) (hv : v 8 = nI n) {i jo : Nat} (hi : i < 20) (hjo : jo < 6) (hj : a 6 i = nI jo) (hm : 1 ≤ totW (barA a i jo) v (a 4 i) n) {K : Nat} (hK : firstK (barA a i jo) v (a 4 i) (a 5 i) n (v 12) K) (hK2 : K ≤ 1000000) : EVi G mX2_drawCaseAgain [.ref (ad G k), .int (nI i)] hh (fun w h1 => w = nI (judOf (barA a i jo) v (a 4 i) n (itT K (v 12))) ∧ ∃ g, StAt G h1 k (va_up (agnA (barA a i jo) v n (judOf (barA a i jo) v (a 4 i) n (itT K (v 12))) i) 7 g) (vct v (itT K (v 12)) (v 13 + nI K)) ∧ Fr k (k + 9) hh h1) := by
  refine EV.of [(0, .ref (ad G k)), (1, .int (nI i))] (by decide +kernel) (Nat.le_of_ble_eq_true rfl) rfl ?_
  refine R_aload_n dX2_drawCaseAgain_0 rfl ?_
  refine R_get dX2_drawCaseAgain_1 gf_X2_18 h.1 rfl ?_
  refine R_aload_n dX2_drawCaseAgain_4 rfl ?_
  refine R_get dX2_drawCaseAgain_5 gf_X2_30 h.1 rfl ?_
  refine R_iload_n dX2_drawCaseAgain_8 rfl ?_
  refine R_ialdN dX2_drawCaseAgain_9 h.a6 (by omega) (by decide) ?_
  refine RR.top (y := nI jo) hj ?_
  refine R_dup2 dX2_drawCaseAgain_10 rfl rfl ?_
  refine R_ialdN dX2_drawCaseAgain_11 h.a2 (by omega) (by decide) ?_
  refine R_iconst (v := 1) dX2_drawCaseAgain_12 (by decide) ?_
  refine R_aload_n dX2_drawCaseAgain_13 rfl ?_
  refine R_get dX2_drawCaseAgain_14 gf_X2_27 h.1 rfl ?_
  refine R_iload_n dX2_drawCaseAgain_17 rfl ?_
  refine R_ialdN dX2_drawCaseAgain_18 h.a5 (by omega) (by decide) ?_
  refine R_ishl dX2_drawCaseAgain_19 ?_
  refine R_ior dX2_drawCaseAgain_20 ?_
  refine St_ast2N dX2_drawCaseAgain_21 h (by omega) (fun hh h hF1 => ?_)
  have hF := hF1
  refine R_aload_n dX2_drawCaseAgain_22 rfl ?_
  refine R_aload_n dX2_drawCaseAgain_23 rfl ?_
  refine R_get dX2_drawCaseAgain_24 gf_X2_24 h.1 rfl ?_
  refine R_iload_n dX2_drawCaseAgain_27 rfl ?_
  refine R_ialdN dX2_drawCaseAgain_28 h.a4 (by omega) (by decide) ?_
  refine R_aload_n dX2_drawCaseAgain_29 rfl ?_
  refine R_get dX2_drawCaseAgain_30 gf_X2_27 h.1 rfl ?_
  refine R_iload_n dX2_drawCaseAgain_33 rfl ?_
  refine R_ialdN dX2_drawCaseAgain_34 h.a5 (by omega) (by decide) ?_
  refine R_callVi dX2_drawCaseAgain_35 cv_X2_116 ⟨by decide, by decide⟩ (e_drawJudge G hh (a := (barA a i jo)) h hn hv (a 4 i) (a 5 i) hm hK hK2) h.1 rfl rfl rfl (Nat.le_of_ble_eq_true rfl) (fun w1 hh hw => ?_)
  obtain ⟨rfl, g, h, hF1⟩ := hw
  have hF := hF.tr hF1 (by omega) (by omega)
  refine R_istore_n dX2_drawCaseAgain_38 (by decide) ?_
  refine R_aload_n dX2_drawCaseAgain_39 rfl ?_
  refine R_iload_n dX2_drawCaseAgain_40 rfl ?_
  refine R_callVv dX2_drawCaseAgain_41 cv_X2_119 ⟨by decide, by decide⟩ (e_settle G hh h hn hv (nI (judOf (barA a i jo) v (a 4 i) n (itT K (v 12))))) h.1 rfl rfl rfl (Nat.le_of_ble_eq_true rfl) (fun hh hw => ?_)
  obtain ⟨h, hF1⟩ := hw
  have hF := hF.tr hF1 (by omega) (by omega)
  refine R_aload_n dX2_drawCaseAgain_44 rfl ?_
  refine R_get dX2_drawCaseAgain_45 gf_X2_30 h.1 rfl ?_
  refine R_iload_n dX2_drawCaseAgain_48 rfl ?_
  refine R_iload_n dX2_drawCaseAgain_49 rfl ?_
  refine St_ast6N dX2_drawCaseAgain_50 h (by omega) (fun hh h hF1 => ?_)
  have hF := hF.tr hF1 (by omega) (by omega)
  refine R_iload_n dX2_drawCaseAgain_51 rfl ?_
  exact R_iret dX2_drawCaseAgain_52 rfl (⟨_, rfl, rfl, g, h.cgv (fun j hj => by rcases (show j = 0 ∨ j = 1 ∨ j = 2 ∨ j = 3 ∨ j = 4 ∨ j = 5 ∨ j = 6 ∨ j = 7 by omega) with rfl | rfl | rfl | rfl | rfl | rfl | rfl | rfl <;> rfl) (fun _ _ _ => rfl), hF⟩)
theorem St_copy0 {G : GG} {μ : MI} {pc : Nat} {lv : List (Nat × Value)} {st : List Value} {hh : HH} {Q : QQ} {k k2 idx : Nat} {a a2 : AA} {v v2 : VV} (hd : decode μ.2.1 pc = .ok (.invokestatic idx, 3)) (w1 : Cond.methodLink μ.1.cls idx arraycopyName ∈ XW) (w2 : Cond.native arraycopyName ∈ XW) (w3 : Cond.static arraycopyName ∈ XW) (w4 : Cond.initialized "java/lang/System" ∈ XW) (hh0 : 1 ≤ μ.2.2.2.2) (h : StAt G hh k a v) (h2 : StAt G hh k2 a2 v2) (hcat : (st.map fun v => v.category).sum ≤ 8) (k1 : ∀ hh1, StAt G hh1 k (va_up a 0 (a2 0)) v → Fr k (k + 9) hh hh1 → RR G μ (pc + 3) lv st hh1 Q) : RR G μ pc lv (.int 6 :: .int 0 :: .ref (ad G (k + 1)) :: .int 0 :: .ref (ad G (k2 + 1)) :: st) hh Q := by
  refine R_copyi (f := a2 0) (g := a 0) hd w1 w2 w3 w4 hh0 h2.a0 h.a0 (by decide) (by decide) (by decide) (by decide) (by decide) hcat ?_
  refine RR.swap (swapI (g := a2 0) (fun j hj => ?_)) (k1 _ (h.s0 _) (Fr.up _ Fr.rf (by omega) (by omega)))
  have e : va_cpy (a2 0) (a 0) 0 0 6 j = a2 0 j := by
    rw [pk_cpy_in (Nat.zero_le _) (by omega)]
    simp
  exact e
theorem St_copy1 {G : GG} {μ : MI} {pc : Nat} {lv : List (Nat × Value)} {st : List Value} {hh : HH} {Q : QQ} {k k2 idx : Nat} {a a2 : AA} {v v2 : VV} (hd : decode μ.2.1 pc = .ok (.invokestatic idx, 3)) (w1 : Cond.methodLink μ.1.cls idx arraycopyName ∈ XW) (w2 : Cond.native arraycopyName ∈ XW) (w3 : Cond.static arraycopyName ∈ XW) (w4 : Cond.initialized "java/lang/System" ∈ XW) (hh0 : 1 ≤ μ.2.2.2.2) (h : StAt G hh k a v) (h2 : StAt G hh k2 a2 v2) (hcat : (st.map fun v => v.category).sum ≤ 8) (k1 : ∀ hh1, StAt G hh1 k (va_up a 1 (a2 1)) v → Fr k (k + 9) hh hh1 → RR G μ (pc + 3) lv st hh1 Q) : RR G μ pc lv (.int 6 :: .int 0 :: .ref (ad G (k + 2)) :: .int 0 :: .ref (ad G (k2 + 2)) :: st) hh Q := by
  refine R_copyi (f := a2 1) (g := a 1) hd w1 w2 w3 w4 hh0 h2.a1 h.a1 (by decide) (by decide) (by decide) (by decide) (by decide) hcat ?_
  refine RR.swap (swapI (g := a2 1) (fun j hj => ?_)) (k1 _ (h.s1 _) (Fr.up _ Fr.rf (by omega) (by omega)))
  have e : va_cpy (a2 1) (a 1) 0 0 6 j = a2 1 j := by
    rw [pk_cpy_in (Nat.zero_le _) (by omega)]
    simp
  exact e
theorem St_copy2 {G : GG} {μ : MI} {pc : Nat} {lv : List (Nat × Value)} {st : List Value} {hh : HH} {Q : QQ} {k k2 idx : Nat} {a a2 : AA} {v v2 : VV} (hd : decode μ.2.1 pc = .ok (.invokestatic idx, 3)) (w1 : Cond.methodLink μ.1.cls idx arraycopyName ∈ XW) (w2 : Cond.native arraycopyName ∈ XW) (w3 : Cond.static arraycopyName ∈ XW) (w4 : Cond.initialized "java/lang/System" ∈ XW) (hh0 : 1 ≤ μ.2.2.2.2) (h : StAt G hh k a v) (h2 : StAt G hh k2 a2 v2) (hcat : (st.map fun v => v.category).sum ≤ 8) (k1 : ∀ hh1, StAt G hh1 k (va_up a 2 (a2 2)) v → Fr k (k + 9) hh hh1 → RR G μ (pc + 3) lv st hh1 Q) : RR G μ pc lv (.int 6 :: .int 0 :: .ref (ad G (k + 3)) :: .int 0 :: .ref (ad G (k2 + 3)) :: st) hh Q := by
  refine R_copyi (f := a2 2) (g := a 2) hd w1 w2 w3 w4 hh0 h2.a2 h.a2 (by decide) (by decide) (by decide) (by decide) (by decide) hcat ?_
  refine RR.swap (swapI (g := a2 2) (fun j hj => ?_)) (k1 _ (h.s2 _) (Fr.up _ Fr.rf (by omega) (by omega)))
  have e : va_cpy (a2 2) (a 2) 0 0 6 j = a2 2 j := by
    rw [pk_cpy_in (Nat.zero_le _) (by omega)]
    simp
  exact e
theorem St_copy3 {G : GG} {μ : MI} {pc : Nat} {lv : List (Nat × Value)} {st : List Value} {hh : HH} {Q : QQ} {k k2 idx : Nat} {a a2 : AA} {v v2 : VV} (hd : decode μ.2.1 pc = .ok (.invokestatic idx, 3)) (w1 : Cond.methodLink μ.1.cls idx arraycopyName ∈ XW) (w2 : Cond.native arraycopyName ∈ XW) (w3 : Cond.static arraycopyName ∈ XW) (w4 : Cond.initialized "java/lang/System" ∈ XW) (hh0 : 1 ≤ μ.2.2.2.2) (h : StAt G hh k a v) (h2 : StAt G hh k2 a2 v2) (hcat : (st.map fun v => v.category).sum ≤ 8) (k1 : ∀ hh1, StAt G hh1 k (va_up a 3 (a2 3)) v → Fr k (k + 9) hh hh1 → RR G μ (pc + 3) lv st hh1 Q) : RR G μ pc lv (.int 6 :: .int 0 :: .ref (ad G (k + 4)) :: .int 0 :: .ref (ad G (k2 + 4)) :: st) hh Q := by
  refine R_copyi (f := a2 3) (g := a 3) hd w1 w2 w3 w4 hh0 h2.a3 h.a3 (by decide) (by decide) (by decide) (by decide) (by decide) hcat ?_
  refine RR.swap (swapI (g := a2 3) (fun j hj => ?_)) (k1 _ (h.s3 _) (Fr.up _ Fr.rf (by omega) (by omega)))
  have e : va_cpy (a2 3) (a 3) 0 0 6 j = a2 3 j := by
    rw [pk_cpy_in (Nat.zero_le _) (by omega)]
    simp
  exact e
theorem St_copy4 {G : GG} {μ : MI} {pc : Nat} {lv : List (Nat × Value)} {st : List Value} {hh : HH} {Q : QQ} {k k2 idx : Nat} {a a2 : AA} {v v2 : VV} (hd : decode μ.2.1 pc = .ok (.invokestatic idx, 3)) (w1 : Cond.methodLink μ.1.cls idx arraycopyName ∈ XW) (w2 : Cond.native arraycopyName ∈ XW) (w3 : Cond.static arraycopyName ∈ XW) (w4 : Cond.initialized "java/lang/System" ∈ XW) (hh0 : 1 ≤ μ.2.2.2.2) (h : StAt G hh k a v) (h2 : StAt G hh k2 a2 v2) (hcat : (st.map fun v => v.category).sum ≤ 8) (k1 : ∀ hh1, StAt G hh1 k (va_up a 4 (a2 4)) v → Fr k (k + 9) hh hh1 → RR G μ (pc + 3) lv st hh1 Q) : RR G μ pc lv (.int 20 :: .int 0 :: .ref (ad G (k + 5)) :: .int 0 :: .ref (ad G (k2 + 5)) :: st) hh Q := by
  refine R_copyi (f := a2 4) (g := a 4) hd w1 w2 w3 w4 hh0 h2.a4 h.a4 (by decide) (by decide) (by decide) (by decide) (by decide) hcat ?_
  refine RR.swap (swapI (g := a2 4) (fun j hj => ?_)) (k1 _ (h.s4 _) (Fr.up _ Fr.rf (by omega) (by omega)))
  have e : va_cpy (a2 4) (a 4) 0 0 20 j = a2 4 j := by
    rw [pk_cpy_in (Nat.zero_le _) (by omega)]
    simp
  exact e
theorem St_copy5 {G : GG} {μ : MI} {pc : Nat} {lv : List (Nat × Value)} {st : List Value} {hh : HH} {Q : QQ} {k k2 idx : Nat} {a a2 : AA} {v v2 : VV} (hd : decode μ.2.1 pc = .ok (.invokestatic idx, 3)) (w1 : Cond.methodLink μ.1.cls idx arraycopyName ∈ XW) (w2 : Cond.native arraycopyName ∈ XW) (w3 : Cond.static arraycopyName ∈ XW) (w4 : Cond.initialized "java/lang/System" ∈ XW) (hh0 : 1 ≤ μ.2.2.2.2) (h : StAt G hh k a v) (h2 : StAt G hh k2 a2 v2) (hcat : (st.map fun v => v.category).sum ≤ 8) (k1 : ∀ hh1, StAt G hh1 k (va_up a 5 (a2 5)) v → Fr k (k + 9) hh hh1 → RR G μ (pc + 3) lv st hh1 Q) : RR G μ pc lv (.int 20 :: .int 0 :: .ref (ad G (k + 6)) :: .int 0 :: .ref (ad G (k2 + 6)) :: st) hh Q := by
  refine R_copyi (f := a2 5) (g := a 5) hd w1 w2 w3 w4 hh0 h2.a5 h.a5 (by decide) (by decide) (by decide) (by decide) (by decide) hcat ?_
  refine RR.swap (swapI (g := a2 5) (fun j hj => ?_)) (k1 _ (h.s5 _) (Fr.up _ Fr.rf (by omega) (by omega)))
  have e : va_cpy (a2 5) (a 5) 0 0 20 j = a2 5 j := by
    rw [pk_cpy_in (Nat.zero_le _) (by omega)]
    simp
  exact e
theorem St_copy6 {G : GG} {μ : MI} {pc : Nat} {lv : List (Nat × Value)} {st : List Value} {hh : HH} {Q : QQ} {k k2 idx : Nat} {a a2 : AA} {v v2 : VV} (hd : decode μ.2.1 pc = .ok (.invokestatic idx, 3)) (w1 : Cond.methodLink μ.1.cls idx arraycopyName ∈ XW) (w2 : Cond.native arraycopyName ∈ XW) (w3 : Cond.static arraycopyName ∈ XW) (w4 : Cond.initialized "java/lang/System" ∈ XW) (hh0 : 1 ≤ μ.2.2.2.2) (h : StAt G hh k a v) (h2 : StAt G hh k2 a2 v2) (hcat : (st.map fun v => v.category).sum ≤ 8) (k1 : ∀ hh1, StAt G hh1 k (va_up a 6 (a2 6)) v → Fr k (k + 9) hh hh1 → RR G μ (pc + 3) lv st hh1 Q) : RR G μ pc lv (.int 20 :: .int 0 :: .ref (ad G (k + 7)) :: .int 0 :: .ref (ad G (k2 + 7)) :: st) hh Q := by
  refine R_copyi (f := a2 6) (g := a 6) hd w1 w2 w3 w4 hh0 h2.a6 h.a6 (by decide) (by decide) (by decide) (by decide) (by decide) hcat ?_
  refine RR.swap (swapI (g := a2 6) (fun j hj => ?_)) (k1 _ (h.s6 _) (Fr.up _ Fr.rf (by omega) (by omega)))
  have e : va_cpy (a2 6) (a 6) 0 0 20 j = a2 6 j := by
    rw [pk_cpy_in (Nat.zero_le _) (by omega)]
    simp
  exact e
set_option maxRecDepth 4000 in
theorem e_copyFrom (G : GG) (hh : HH) {k : Nat} {a : AA} {v : VV} (h : StAt G hh k a v) {k2 : Nat} {a2 : AA} {v2 : VV} (h2 : StAt G hh k2 a2 v2) (hap : k2 + 9 ≤ k ∨ k + 9 ≤ k2) : EVv G mX2_copyFrom [.ref (ad G k), .ref (ad G k2)] hh (fun h1 => StAt G h1 k (va_up a2 7 (a 7)) v2 ∧ Fr k (k + 9) hh h1) := by
  refine EV.of [(0, .ref (ad G k)), (1, .ref (ad G k2))] (by decide +kernel) (Nat.le_of_ble_eq_true rfl) rfl ?_
  refine R_aload_n dX2_copyFrom_0 rfl ?_
  refine R_get dX2_copyFrom_1 gf_X2_9 h2.1 rfl ?_
  refine R_iconst (v := 0) dX2_copyFrom_4 (by decide) ?_
  refine R_aload_n dX2_copyFrom_5 rfl ?_
  refine R_get dX2_copyFrom_6 gf_X2_9 h.1 rfl ?_
  refine R_iconst (v := 0) dX2_copyFrom_9 (by decide) ?_
  refine R_bipush (v := 6) dX2_copyFrom_10 (by decide) ?_
  refine St_copy0 dX2_copyFrom_12 mm_X2_46 aC_n aC_s aC_i (by decide) h h2 (Nat.le_of_ble_eq_true rfl) (fun hh h hF1 => ?_)
  have hF := hF1
  have h2 := h2.fr hF1 (by omega)
  refine R_aload_n dX2_copyFrom_15 rfl ?_
  refine R_get dX2_copyFrom_16 gf_X2_15 h2.1 rfl ?_
  refine R_iconst (v := 0) dX2_copyFrom_19 (by decide) ?_
  refine R_aload_n dX2_copyFrom_20 rfl ?_
  refine R_get dX2_copyFrom_21 gf_X2_15 h.1 rfl ?_
  refine R_iconst (v := 0) dX2_copyFrom_24 (by decide) ?_
  refine R_bipush (v := 6) dX2_copyFrom_25 (by decide) ?_
  refine St_copy1 dX2_copyFrom_27 mm_X2_46 aC_n aC_s aC_i (by decide) h h2 (Nat.le_of_ble_eq_true rfl) (fun hh h hF1 => ?_)
  have hF := hF.tr hF1 (by omega) (by omega)
  have h2 := h2.fr hF1 (by omega)
  refine R_aload_n dX2_copyFrom_30 rfl ?_
  refine R_get dX2_copyFrom_31 gf_X2_18 h2.1 rfl ?_
  refine R_iconst (v := 0) dX2_copyFrom_34 (by decide) ?_
  refine R_aload_n dX2_copyFrom_35 rfl ?_
  refine R_get dX2_copyFrom_36 gf_X2_18 h.1 rfl ?_
  refine R_iconst (v := 0) dX2_copyFrom_39 (by decide) ?_
  refine R_bipush (v := 6) dX2_copyFrom_40 (by decide) ?_
  refine St_copy2 dX2_copyFrom_42 mm_X2_46 aC_n aC_s aC_i (by decide) h h2 (Nat.le_of_ble_eq_true rfl) (fun hh h hF1 => ?_)
  have hF := hF.tr hF1 (by omega) (by omega)
  have h2 := h2.fr hF1 (by omega)
  refine R_aload_n dX2_copyFrom_45 rfl ?_
  refine R_get dX2_copyFrom_46 gf_X2_21 h2.1 rfl ?_
  refine R_iconst (v := 0) dX2_copyFrom_49 (by decide) ?_
  refine R_aload_n dX2_copyFrom_50 rfl ?_
  refine R_get dX2_copyFrom_51 gf_X2_21 h.1 rfl ?_
  refine R_iconst (v := 0) dX2_copyFrom_54 (by decide) ?_
  refine R_bipush (v := 6) dX2_copyFrom_55 (by decide) ?_
  refine St_copy3 dX2_copyFrom_57 mm_X2_46 aC_n aC_s aC_i (by decide) h h2 (Nat.le_of_ble_eq_true rfl) (fun hh h hF1 => ?_)
  have hF := hF.tr hF1 (by omega) (by omega)
  have h2 := h2.fr hF1 (by omega)
  refine R_aload_n dX2_copyFrom_60 rfl ?_
  refine R_get dX2_copyFrom_61 gf_X2_24 h2.1 rfl ?_
  refine R_iconst (v := 0) dX2_copyFrom_64 (by decide) ?_
  refine R_aload_n dX2_copyFrom_65 rfl ?_
  refine R_get dX2_copyFrom_66 gf_X2_24 h.1 rfl ?_
  refine R_iconst (v := 0) dX2_copyFrom_69 (by decide) ?_
  refine R_bipush (v := 20) dX2_copyFrom_70 (by decide) ?_
  refine St_copy4 dX2_copyFrom_72 mm_X2_46 aC_n aC_s aC_i (by decide) h h2 (Nat.le_of_ble_eq_true rfl) (fun hh h hF1 => ?_)
  have hF := hF.tr hF1 (by omega) (by omega)
  have h2 := h2.fr hF1 (by omega)
  refine R_aload_n dX2_copyFrom_75 rfl ?_
  refine R_get dX2_copyFrom_76 gf_X2_27 h2.1 rfl ?_
  refine R_iconst (v := 0) dX2_copyFrom_79 (by decide) ?_
  refine R_aload_n dX2_copyFrom_80 rfl ?_
  refine R_get dX2_copyFrom_81 gf_X2_27 h.1 rfl ?_
  refine R_iconst (v := 0) dX2_copyFrom_84 (by decide) ?_
  refine R_bipush (v := 20) dX2_copyFrom_85 (by decide) ?_
  refine St_copy5 dX2_copyFrom_87 mm_X2_46 aC_n aC_s aC_i (by decide) h h2 (Nat.le_of_ble_eq_true rfl) (fun hh h hF1 => ?_)
  have hF := hF.tr hF1 (by omega) (by omega)
  have h2 := h2.fr hF1 (by omega)
  refine R_aload_n dX2_copyFrom_90 rfl ?_
  refine R_get dX2_copyFrom_91 gf_X2_30 h2.1 rfl ?_
  refine R_iconst (v := 0) dX2_copyFrom_94 (by decide) ?_
  refine R_aload_n dX2_copyFrom_95 rfl ?_
  refine R_get dX2_copyFrom_96 gf_X2_30 h.1 rfl ?_
  refine R_iconst (v := 0) dX2_copyFrom_99 (by decide) ?_
  refine R_bipush (v := 20) dX2_copyFrom_100 (by decide) ?_
  refine St_copy6 dX2_copyFrom_102 mm_X2_46 aC_n aC_s aC_i (by decide) h h2 (Nat.le_of_ble_eq_true rfl) (fun hh h hF1 => ?_)
  have hF := hF.tr hF1 (by omega) (by omega)
  have h2 := h2.fr hF1 (by omega)
  refine R_aload_n dX2_copyFrom_105 rfl ?_
  refine R_aload_n dX2_copyFrom_106 rfl ?_
  refine R_get dX2_copyFrom_107 gf_X2_52 h2.1 rfl ?_
  refine St_put8 dX2_copyFrom_110 pf_X2_52 h (fun hh h hF1 => ?_)
  have hF := hF.tr hF1 (by omega) (by omega)
  have h2 := h2.fr hF1 (by omega)
  refine R_aload_n dX2_copyFrom_113 rfl ?_
  refine R_aload_n dX2_copyFrom_114 rfl ?_
  refine R_get dX2_copyFrom_115 gf_X2_55 h2.1 rfl ?_
  refine St_put9 dX2_copyFrom_118 pf_X2_55 h (fun hh h hF1 => ?_)
  have hF := hF.tr hF1 (by omega) (by omega)
  have h2 := h2.fr hF1 (by omega)
  refine R_aload_n dX2_copyFrom_121 rfl ?_
  refine R_aload_n dX2_copyFrom_122 rfl ?_
  refine R_get dX2_copyFrom_123 gf_X2_36 h2.1 rfl ?_
  refine St_put10 dX2_copyFrom_126 pf_X2_36 h (fun hh h hF1 => ?_)
  have hF := hF.tr hF1 (by omega) (by omega)
  have h2 := h2.fr hF1 (by omega)
  refine R_aload_n dX2_copyFrom_129 rfl ?_
  refine R_aload_n dX2_copyFrom_130 rfl ?_
  refine R_get dX2_copyFrom_131 gf_X2_40 h2.1 rfl ?_
  refine St_put11 dX2_copyFrom_134 pf_X2_40 h (fun hh h hF1 => ?_)
  have hF := hF.tr hF1 (by omega) (by omega)
  have h2 := h2.fr hF1 (by omega)
  refine R_aload_n dX2_copyFrom_137 rfl ?_
  refine R_aload_n dX2_copyFrom_138 rfl ?_
  refine R_get dX2_copyFrom_139 gf_X2_43 h2.1 rfl ?_
  refine St_put12 dX2_copyFrom_142 pf_X2_43 h (fun hh h hF1 => ?_)
  have hF := hF.tr hF1 (by omega) (by omega)
  have h2 := h2.fr hF1 (by omega)
  refine R_aload_n dX2_copyFrom_145 rfl ?_
  refine R_aload_n dX2_copyFrom_146 rfl ?_
  refine R_get dX2_copyFrom_147 gf_X2_58 h2.1 rfl ?_
  refine St_put13 dX2_copyFrom_150 pf_X2_58 h (fun hh h hF1 => ?_)
  have hF := hF.tr hF1 (by omega) (by omega)
  have h2 := h2.fr hF1 (by omega)
  refine R_aload_n dX2_copyFrom_153 rfl ?_
  refine R_aload_n dX2_copyFrom_154 rfl ?_
  refine R_get dX2_copyFrom_155 gf_X2_61 h2.1 rfl ?_
  refine St_put14 dX2_copyFrom_158 pf_X2_61 h (fun hh h hF1 => ?_)
  have hF := hF.tr hF1 (by omega) (by omega)
  have h2 := h2.fr hF1 (by omega)
  exact R_vret dX2_copyFrom_161 rfl (⟨rfl, h.cgv (fun j hj => by rcases (show j = 0 ∨ j = 1 ∨ j = 2 ∨ j = 3 ∨ j = 4 ∨ j = 5 ∨ j = 6 ∨ j = 7 by omega) with rfl | rfl | rfl | rfl | rfl | rfl | rfl | rfl <;> rfl) (fun j h1 h2 => by rcases (show j = 8 ∨ j = 9 ∨ j = 10 ∨ j = 11 ∨ j = 12 ∨ j = 13 ∨ j = 14 by omega) with rfl | rfl | rfl | rfl | rfl | rfl | rfl <;> rfl), hF⟩)
