def stA (a : AA) (v : VV) (j : Nat) : Int32 := if hasB (v 9) (nI j) = true then 0 else a 0 j
def togS (a : AA) (v : VV) (n : Nat) : Int32 := foldS (stA a v) 0 n 0
def clpI (x : Int32) : Int32 := if (-99 : Int32) < (if x < 99 then x else 99) then (if x < 99 then x else 99) else -99
def nwD (a : AA) (v : VV) (x : Int32) (n : Nat) (j : Nat) : Int32 := clpI (if nI j = x then a 3 j + stA a v j - togS a v n else a 3 j + stA a v j)
/-- the debts behind a case that judge x got -/
def setD (a : AA) (v : VV) (x : Int32) (n : Nat) : AA := va_up a 3 (mixA (nwD a v x n) (a 3) n)
set_option maxRecDepth 4000 in
theorem l_settle2 (G : GG) (hh0 : HH) {k : Nat} {a : AA} {v : VV} {n : Nat} (hn : n ≤ 6) (hv : v 8 = nI n) (x : Int32) : ∀ (d i : Nat) (hh : HH), i + d = n → StAt G hh k (va_up a 3 (mixA (nwD a v x n) (a 3) i)) v → Fr k (k + 9) hh0 hh → RR G mX2_settleDebts 41 [(0, .ref (ad G k)), (1, .int x), (2, .int (togS a v n)), (3, .int (nI i))] [] hh (fun r h1 => r = none ∧ (StAt G h1 k (setD a v x n) v ∧ Fr k (k + 9) hh0 h1)) := by
  intro d
  induction d with
  | zero =>
    intro i hh hi h hF
    refine R_iload_n dX2_settleDebts_41 rfl ?_
    refine R_aload_n dX2_settleDebts_42 rfl ?_
    refine R_get dX2_settleDebts_43 gf_X2_52 h.1 rfl ?_
    refine R_icmp_ge (tgt := 111) dX2_settleDebts_46 (by decide) (fun c46 => ?_) (fun c46 => absurd (by rw [hv]; exact nI_le (by omega) (by omega)) c46)
    exact R_vret dX2_settleDebts_111 rfl (by (have e : i = n := by omega); (subst e); exact ⟨rfl, h, hF⟩)
  | succ d ih =>
    intro i hh hi h hF
    refine R_iload_n dX2_settleDebts_41 rfl ?_
    refine R_aload_n dX2_settleDebts_42 rfl ?_
    refine R_get dX2_settleDebts_43 gf_X2_52 h.1 rfl ?_
    refine R_icmp_ge (tgt := 111) dX2_settleDebts_46 (by decide) (fun c46 => absurd c46 (by rw [hv]; exact nI_ge (by omega) (by omega))) (fun c46 => ?_)
    refine R_aload_n dX2_settleDebts_49 rfl ?_
    refine R_get dX2_settleDebts_50 gf_X2_21 h.1 rfl ?_
    refine R_iload_n dX2_settleDebts_53 rfl ?_
    refine R_ialdN dX2_settleDebts_54 h.a3 (by omega) (by decide) ?_
    refine R_aload_n dX2_settleDebts_55 rfl ?_
    refine R_iload_n dX2_settleDebts_56 rfl ?_
    refine R_callVp dX2_settleDebts_57 cv_X2_74 ⟨by decide, by decide⟩ (e_isAway G hh h (nI i)) h.1 rfl rfl rfl (Nat.le_of_ble_eq_true rfl) ?_
    refine R_if_eq (tgt := 67) dX2_settleDebts_60 (by decide) (fun c60 => ?_) (fun c60 => ?_)
    · refine R_aload_n dX2_settleDebts_67 rfl ?_
      refine R_get dX2_settleDebts_68 gf_X2_9 h.1 rfl ?_
      refine R_iload_n dX2_settleDebts_71 rfl ?_
      refine R_ialdN dX2_settleDebts_72 h.a0 (by omega) (by decide) ?_
      refine R_iadd dX2_settleDebts_73 ?_
      refine RR.top (y := a 3 i + stA a v i) (by simp_all [stA, bl, va_up, mixA]) ?_
      refine R_istore dX2_settleDebts_74 (by decide) ?_
      refine R_iload_n dX2_settleDebts_76 rfl ?_
      refine R_iload_n dX2_settleDebts_77 rfl ?_
      refine R_icmp_ne (tgt := 87) dX2_settleDebts_78 (by decide) (fun c78 => ?_) (fun c78 => ?_)
      · refine R_aload_n dX2_settleDebts_87 rfl ?_
        refine R_get dX2_settleDebts_88 gf_X2_21 h.1 rfl ?_
        refine R_iload_n dX2_settleDebts_91 rfl ?_
        refine R_bipush (v := (-99)) dX2_settleDebts_92 (by decide) ?_
        refine R_bipush (v := 99) dX2_settleDebts_94 (by decide) ?_
        refine R_iload dX2_settleDebts_96 rfl ?_
        refine R_mmin dX2_settleDebts_98 mm_X2_113 mS_min mI_Math mC_min (by decide) (Nat.le_of_ble_eq_true rfl) ?_
        refine R_mmax dX2_settleDebts_101 mm_X2_88 mS_max mI_Math mC_max (by decide) (Nat.le_of_ble_eq_true rfl) ?_
        refine RR.top (y := nwD a v x n i) (by unfold nwD clpI; rw [if_neg c78]) ?_
        refine St_ast3N dX2_settleDebts_104 h (by omega) (fun hh h hF1 => ?_)
        have hF := hF.tr hF1 (by omega) (by omega)
        refine R_iinc (y := nI (i + 1)) dX2_settleDebts_105 rfl (by decide) (nI_s i) ?_
        refine R_goto (tgt := 41) dX2_settleDebts_108 (by decide) ?_
        have e8 : upd (mixA (nwD a v x n) (a 3) i) i (nwD a v x n i) = mixA (nwD a v x n) (a 3) (i + 1) := mixA_s _ _ _
        have h := h.cg (a' := va_up a 3 (mixA (nwD a v x n) (a 3) (i + 1))) (by rw [bx_uu, ← e8]; rfl) rfl
        exact RR.pick [2, 3, 4, 0] rfl (ih (i + 1) hh (by omega) h hF)
      · refine R_iload dX2_settleDebts_81 rfl ?_
        refine R_iload_n dX2_settleDebts_83 rfl ?_
        refine R_isub dX2_settleDebts_84 ?_
        refine R_istore dX2_settleDebts_85 (by decide) ?_
        refine R_aload_n dX2_settleDebts_87 rfl ?_
        refine R_get dX2_settleDebts_88 gf_X2_21 h.1 rfl ?_
        refine R_iload_n dX2_settleDebts_91 rfl ?_
        refine R_bipush (v := (-99)) dX2_settleDebts_92 (by decide) ?_
        refine R_bipush (v := 99) dX2_settleDebts_94 (by decide) ?_
        refine R_iload dX2_settleDebts_96 rfl ?_
        refine R_mmin dX2_settleDebts_98 mm_X2_113 mS_min mI_Math mC_min (by decide) (Nat.le_of_ble_eq_true rfl) ?_
        refine R_mmax dX2_settleDebts_101 mm_X2_88 mS_max mI_Math mC_max (by decide) (Nat.le_of_ble_eq_true rfl) ?_
        refine RR.top (y := nwD a v x n i) (by unfold nwD clpI; rw [if_pos (Classical.not_not.mp c78)]) ?_
        refine St_ast3N dX2_settleDebts_104 h (by omega) (fun hh h hF1 => ?_)
        have hF := hF.tr hF1 (by omega) (by omega)
        refine R_iinc (y := nI (i + 1)) dX2_settleDebts_105 rfl (by decide) (nI_s i) ?_
        refine R_goto (tgt := 41) dX2_settleDebts_108 (by decide) ?_
        have e8 : upd (mixA (nwD a v x n) (a 3) i) i (nwD a v x n i) = mixA (nwD a v x n) (a 3) (i + 1) := mixA_s _ _ _
        have h := h.cg (a' := va_up a 3 (mixA (nwD a v x n) (a 3) (i + 1))) (by rw [bx_uu, ← e8]; rfl) rfl
        exact RR.pick [2, 3, 4, 0] rfl (ih (i + 1) hh (by omega) h hF)
    · refine R_iconst (v := 0) dX2_settleDebts_63 (by decide) ?_
      refine R_goto (tgt := 73) dX2_settleDebts_64 (by decide) ?_
      refine R_iadd dX2_settleDebts_73 ?_
      refine RR.top (y := a 3 i + stA a v i) (by simp_all [stA, bl, va_up, mixA]) ?_
      refine R_istore dX2_settleDebts_74 (by decide) ?_
      refine R_iload_n dX2_settleDebts_76 rfl ?_
      refine R_iload_n dX2_settleDebts_77 rfl ?_
      refine R_icmp_ne (tgt := 87) dX2_settleDebts_78 (by decide) (fun c78 => ?_) (fun c78 => ?_)
      · refine R_aload_n dX2_settleDebts_87 rfl ?_
        refine R_get dX2_settleDebts_88 gf_X2_21 h.1 rfl ?_
        refine R_iload_n dX2_settleDebts_91 rfl ?_
        refine R_bipush (v := (-99)) dX2_settleDebts_92 (by decide) ?_
        refine R_bipush (v := 99) dX2_settleDebts_94 (by decide) ?_
        refine R_iload dX2_settleDebts_96 rfl ?_
        refine R_mmin dX2_settleDebts_98 mm_X2_113 mS_min mI_Math mC_min (by decide) (Nat.le_of_ble_eq_true rfl) ?_
        refine R_mmax dX2_settleDebts_101 mm_X2_88 mS_max mI_Math mC_max (by decide) (Nat.le_of_ble_eq_true rfl) ?_
        refine RR.top (y := nwD a v x n i) (by unfold nwD clpI; rw [if_neg c78]) ?_
        refine St_ast3N dX2_settleDebts_104 h (by omega) (fun hh h hF1 => ?_)
        have hF := hF.tr hF1 (by omega) (by omega)
        refine R_iinc (y := nI (i + 1)) dX2_settleDebts_105 rfl (by decide) (nI_s i) ?_
        refine R_goto (tgt := 41) dX2_settleDebts_108 (by decide) ?_
        have e8 : upd (mixA (nwD a v x n) (a 3) i) i (nwD a v x n i) = mixA (nwD a v x n) (a 3) (i + 1) := mixA_s _ _ _
        have h := h.cg (a' := va_up a 3 (mixA (nwD a v x n) (a 3) (i + 1))) (by rw [bx_uu, ← e8]; rfl) rfl
        exact RR.pick [2, 3, 4, 0] rfl (ih (i + 1) hh (by omega) h hF)
      · refine R_iload dX2_settleDebts_81 rfl ?_
        refine R_iload_n dX2_settleDebts_83 rfl ?_
        refine R_isub dX2_settleDebts_84 ?_
        refine R_istore dX2_settleDebts_85 (by decide) ?_
        refine R_aload_n dX2_settleDebts_87 rfl ?_
        refine R_get dX2_settleDebts_88 gf_X2_21 h.1 rfl ?_
        refine R_iload_n dX2_settleDebts_91 rfl ?_
        refine R_bipush (v := (-99)) dX2_settleDebts_92 (by decide) ?_
        refine R_bipush (v := 99) dX2_settleDebts_94 (by decide) ?_
        refine R_iload dX2_settleDebts_96 rfl ?_
        refine R_mmin dX2_settleDebts_98 mm_X2_113 mS_min mI_Math mC_min (by decide) (Nat.le_of_ble_eq_true rfl) ?_
        refine R_mmax dX2_settleDebts_101 mm_X2_88 mS_max mI_Math mC_max (by decide) (Nat.le_of_ble_eq_true rfl) ?_
        refine RR.top (y := nwD a v x n i) (by unfold nwD clpI; rw [if_pos (Classical.not_not.mp c78)]) ?_
        refine St_ast3N dX2_settleDebts_104 h (by omega) (fun hh h hF1 => ?_)
        have hF := hF.tr hF1 (by omega) (by omega)
        refine R_iinc (y := nI (i + 1)) dX2_settleDebts_105 rfl (by decide) (nI_s i) ?_
        refine R_goto (tgt := 41) dX2_settleDebts_108 (by decide) ?_
        have e8 : upd (mixA (nwD a v x n) (a 3) i) i (nwD a v x n i) = mixA (nwD a v x n) (a 3) (i + 1) := mixA_s _ _ _
        have h := h.cg (a' := va_up a 3 (mixA (nwD a v x n) (a 3) (i + 1))) (by rw [bx_uu, ← e8]; rfl) rfl
        exact RR.pick [2, 3, 4, 0] rfl (ih (i + 1) hh (by omega) h hF)
set_option maxRecDepth 4000 in
theorem l_settle1 (G : GG) (hh : HH) {k : Nat} {a : AA} {v : VV} (h : StAt G hh k a v) {n : Nat} (hn : n ≤ 6) (hv : v 8 = nI n) (x : Int32) : ∀ (d i : Nat), i + d = n → RR G mX2_settleDebts 4 [(0, .ref (ad G k)), (1, .int x), (2, .int (foldS (stA a v) 0 i 0)), (3, .int (nI i))] [] hh (fun r h1 => r = none ∧ (StAt G h1 k (setD a v x n) v ∧ Fr k (k + 9) hh h1)) := by
  intro d
  induction d with
  | zero =>
    intro i hi
    refine R_iload_n dX2_settleDebts_4 rfl ?_
    refine R_aload_n dX2_settleDebts_5 rfl ?_
    refine R_get dX2_settleDebts_6 gf_X2_52 h.1 rfl ?_
    refine R_icmp_ge (tgt := 39) dX2_settleDebts_9 (by decide) (fun c9 => ?_) (fun c9 => absurd (by rw [hv]; exact nI_le (by omega) (by omega)) c9)
    refine R_iconst (v := 0) dX2_settleDebts_39 (by decide) ?_
    refine R_istore_n dX2_settleDebts_40 (by decide) ?_
    have e : i = n := by omega
    subst e
    exact RR.pick [1, 2, 3, 0] rfl (l_settle2 G hh hn hv x i 0 hh (by omega) (h.cg (by rw [mixA_0]; funext j; simp only [va_up]; split <;> simp_all) rfl) Fr.rf)
  | succ d ih =>
    intro i hi
    refine R_iload_n dX2_settleDebts_4 rfl ?_
    refine R_aload_n dX2_settleDebts_5 rfl ?_
    refine R_get dX2_settleDebts_6 gf_X2_52 h.1 rfl ?_
    refine R_icmp_ge (tgt := 39) dX2_settleDebts_9 (by decide) (fun c9 => absurd c9 (by rw [hv]; exact nI_ge (by omega) (by omega))) (fun c9 => ?_)
    refine R_iload_n dX2_settleDebts_12 rfl ?_
    refine R_aload_n dX2_settleDebts_13 rfl ?_
    refine R_iload_n dX2_settleDebts_14 rfl ?_
    refine R_callVp dX2_settleDebts_15 cv_X2_74 ⟨by decide, by decide⟩ (e_isAway G hh h (nI i)) h.1 rfl rfl rfl (Nat.le_of_ble_eq_true rfl) ?_
    refine R_if_eq (tgt := 25) dX2_settleDebts_18 (by decide) (fun c18 => ?_) (fun c18 => ?_)
    · refine R_aload_n dX2_settleDebts_25 rfl ?_
      refine R_get dX2_settleDebts_26 gf_X2_9 h.1 rfl ?_
      refine R_iload_n dX2_settleDebts_29 rfl ?_
      refine R_ialdN dX2_settleDebts_30 h.a0 (by omega) (by decide) ?_
      refine R_iadd dX2_settleDebts_31 ?_
      refine RR.top (y := foldS (stA a v) 0 (i + 1) 0) (by rw [foldS_last, Nat.zero_add]; simp_all [stA, bl]) ?_
      refine R_istore_n dX2_settleDebts_32 (by decide) ?_
      refine R_iinc (y := nI (i + 1)) dX2_settleDebts_33 rfl (by decide) (nI_s i) ?_
      refine R_goto (tgt := 4) dX2_settleDebts_36 (by decide) ?_
      exact RR.pick [2, 3, 1, 0] rfl (ih (i + 1) (by omega))
    · refine R_iconst (v := 0) dX2_settleDebts_21 (by decide) ?_
      refine R_goto (tgt := 31) dX2_settleDebts_22 (by decide) ?_
      refine R_iadd dX2_settleDebts_31 ?_
      refine RR.top (y := foldS (stA a v) 0 (i + 1) 0) (by rw [foldS_last, Nat.zero_add]; simp_all [stA, bl]) ?_
      refine R_istore_n dX2_settleDebts_32 (by decide) ?_
      refine R_iinc (y := nI (i + 1)) dX2_settleDebts_33 rfl (by decide) (nI_s i) ?_
      refine R_goto (tgt := 4) dX2_settleDebts_36 (by decide) ?_
      exact RR.pick [2, 3, 1, 0] rfl (ih (i + 1) (by omega))
set_option maxRecDepth 4000 in
theorem e_settle (G : GG) (hh : HH) {k : Nat} {a : AA} {v : VV} (h : StAt G hh k a v) {n : Nat} (hn : n ≤ 6) (hv : v 8 = nI n) (x : Int32) : EVv G mX2_settleDebts [.ref (ad G k), .int x] hh (fun h1 => StAt G h1 k (setD a v x n) v ∧ Fr k (k + 9) hh h1) := by
  refine EV.of [(0, .ref (ad G k)), (1, .int x)] (by decide +kernel) (Nat.le_of_ble_eq_true rfl) rfl ?_
  refine R_iconst (v := 0) dX2_settleDebts_0 (by decide) ?_
  refine R_istore_n dX2_settleDebts_1 (by decide) ?_
  refine R_iconst (v := 0) dX2_settleDebts_2 (by decide) ?_
  refine R_istore_n dX2_settleDebts_3 (by decide) ?_
  exact RR.pick [2, 3, 1, 0] rfl (l_settle1 G hh h hn hv x n 0 (by omega))
