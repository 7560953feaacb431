theorem l_fill (G : GG) (hh : HH) {q L : Nat} (hL : L < 2 ^ 31) {f : Nat → Int32} (hq : hAt G hh q (eI G L f)) (x : Int32) : ∀ (d i : Nat), i + d = L → RR G mJ7_fill_53178 5 [(0, .ref (ad G q)), (1, .int x), (2, .int (nI i)), (3, .int (nI L))] [] (va_up hh q (eI G L (mixA (fun _ => x) f i))) (fun r h1 => r = none ∧ h1 = va_up hh q (eI G L (fun _ => x))) := by
  intro d
  induction d with
  | zero =>
    intro i hi
    refine R_iload_n dJ7_fill_53178_5 rfl ?_
    refine R_iload_n dJ7_fill_53178_6 rfl ?_
    refine R_icmp_ge (tgt := 20) dJ7_fill_53178_7 (by decide) (fun c7 => ?_) (fun c7 => absurd (nI_le (by omega) (by omega)) c7)
    refine RR.swap (swapI (g := fun _ => x) (fun j hj => by simp only [mixA]; rw [if_pos (by omega)])) ?_
    exact R_vret dJ7_fill_53178_20 rfl ⟨rfl, rfl⟩
  | succ d ih =>
    intro i hi
    refine R_iload_n dJ7_fill_53178_5 rfl ?_
    refine R_iload_n dJ7_fill_53178_6 rfl ?_
    refine R_icmp_ge (tgt := 20) dJ7_fill_53178_7 (by decide) (fun c7 => absurd c7 (nI_ge (by omega) (by omega))) (fun c7 => ?_)
    refine R_aload_n dJ7_fill_53178_10 rfl ?_
    refine R_iload_n dJ7_fill_53178_11 rfl ?_
    refine R_iload_n dJ7_fill_53178_12 rfl ?_
    refine R_iast dJ7_fill_53178_13 (hAt.up hq.1) (vp_in_nI (by omega) hL) ?_
    rw [nI_clamp (by omega), bx_uu, mixA_s (fun _ => x) f i]
    refine R_iinc (y := nI (i + 1)) dJ7_fill_53178_14 rfl (by decide) (nI_s i) ?_
    refine R_goto (tgt := 5) dJ7_fill_53178_17 (by decide) ?_
    exact RR.pick [1, 2, 0, 3] rfl (ih (i + 1) (by omega))
theorem e_fill (G : GG) (hh : HH) {q L : Nat} (hL : L < 2 ^ 31) {f : Nat → Int32} (hq : hAt G hh q (eI G L f)) (x : Int32) : EVv G mJ7_fill_53178 [.ref (ad G q), .int x] hh (fun h1 => h1 = va_up hh q (eI G L (fun _ => x))) := by
  refine EV.of [(0, .ref (ad G q)), (1, .int x)] (by decide +kernel) (Nat.le_of_ble_eq_true rfl) rfl ?_
  refine R_iconst (v := 0) dJ7_fill_53178_0 (by decide) ?_
  refine R_istore_n dJ7_fill_53178_1 (by decide) ?_
  refine R_aload_n dJ7_fill_53178_2 rfl ?_
  refine R_alenI dJ7_fill_53178_3 hq ?_
  refine R_istore_n dJ7_fill_53178_4 (by decide) ?_
  have e : hh = va_up hh q (eI G L (mixA (fun _ => x) f 0)) := by
    rw [mixA_0]
    funext i
    by_cases hi : i = q
    · subst hi; rw [hq.2]; simp [va_up]
    · simp [va_up, hi]
  rw [show RR G mJ7_fill_53178 _ _ _ hh _ = RR G mJ7_fill_53178 _ _ _ (va_up hh q (eI G L (mixA (fun _ => x) f 0))) _ from by rw [← e]]
  exact RR.pick [2, 3, 1, 0] rfl (l_fill G hh hL hq x L 0 (by omega))
/-- sealed: seed, chain, no turns, no cases; no debts -/
def sealV (v : VV) (s : Int32) : VV := va_up (va_up (va_up (va_up v 11 s) 12 s) 13 0) 14 0
def sealA (a : AA) : AA := va_up a 3 (fun _ => 0)
set_option maxRecDepth 4000 in
theorem e_startAnew (G : GG) (hh : HH) {k : Nat} {a : AA} {v : VV} (h : StAt G hh k a v) (s : Int32) : EVv G mX2_startAnew [.ref (ad G k), .int s] hh (fun h1 => StAt G h1 k (sealA a) (sealV v s) ∧ Fr k (k + 9) hh h1) := by
  refine EV.of [(0, .ref (ad G k)), (1, .int s)] (by decide +kernel) (Nat.le_of_ble_eq_true rfl) rfl ?_
  have hF : Fr k (k + 9) hh hh := Fr.rf
  refine R_aload_n dX2_startAnew_0 rfl ?_
  refine R_iload_n dX2_startAnew_1 rfl ?_
  refine St_put11 dX2_startAnew_2 pf_X2_40 h (fun hh h hF1 => ?_)
  have hF := hF.tr hF1 (by omega) (by omega)
  refine R_aload_n dX2_startAnew_5 rfl ?_
  refine R_iload_n dX2_startAnew_6 rfl ?_
  refine St_put12 dX2_startAnew_7 pf_X2_43 h (fun hh h hF1 => ?_)
  have hF := hF.tr hF1 (by omega) (by omega)
  refine R_aload_n dX2_startAnew_10 rfl ?_
  refine R_iconst (v := 0) dX2_startAnew_11 (by decide) ?_
  refine St_put13 dX2_startAnew_12 pf_X2_58 h (fun hh h hF1 => ?_)
  have hF := hF.tr hF1 (by omega) (by omega)
  refine R_aload_n dX2_startAnew_15 rfl ?_
  refine R_iconst (v := 0) dX2_startAnew_16 (by decide) ?_
  refine St_put14 dX2_startAnew_17 pf_X2_61 h (fun hh h hF1 => ?_)
  have hF := hF.tr hF1 (by omega) (by omega)
  refine R_aload_n dX2_startAnew_20 rfl ?_
  refine R_get dX2_startAnew_21 gf_X2_21 h.1 rfl ?_
  refine R_iconst (v := 0) dX2_startAnew_24 (by decide) ?_
  refine R_callSv dX2_startAnew_25 cs_X2_68 ⟨by decide, by decide⟩ (e_fill G hh (by decide) h.a3 0) rfl rfl (Nat.le_of_ble_eq_true rfl) (fun hh1 hw => ?_)
  subst hw
  have hF := hF.tr (Fr.up (eI G 6 (fun _ => 0)) (Fr.rf (hh := hh)) (show k ≤ k + 4 by omega) (show k + 4 < k + 9 by omega)) (by omega) (by omega)
  have h := h.s3 (fun _ => 0)
  exact R_vret dX2_startAnew_28 rfl (⟨rfl, h, hF⟩)
def clrV (v : VV) : VV := sealV (va_up (va_up (va_up v 8 0) 9 0) 10 0) 1
set_option maxRecDepth 4000 in
theorem e_clearAll (G : GG) (hh : HH) {k : Nat} {a : AA} {v : VV} (h : StAt G hh k a v) : EVv G mX2_clearAll [.ref (ad G k)] hh (fun h1 => StAt G h1 k (sealA a) (clrV v) ∧ Fr k (k + 9) hh h1) := by
  refine EV.of [(0, .ref (ad G k))] (by decide +kernel) (Nat.le_of_ble_eq_true rfl) rfl ?_
  have hF : Fr k (k + 9) hh hh := Fr.rf
  refine R_aload_n dX2_clearAll_0 rfl ?_
  refine R_iconst (v := 0) dX2_clearAll_1 (by decide) ?_
  refine St_put8 dX2_clearAll_2 pf_X2_52 h (fun hh h hF1 => ?_)
  have hF := hF.tr hF1 (by omega) (by omega)
  refine R_aload_n dX2_clearAll_5 rfl ?_
  refine R_iconst (v := 0) dX2_clearAll_6 (by decide) ?_
  refine St_put9 dX2_clearAll_7 pf_X2_55 h (fun hh h hF1 => ?_)
  have hF := hF.tr hF1 (by omega) (by omega)
  refine R_aload_n dX2_clearAll_10 rfl ?_
  refine R_iconst (v := 0) dX2_clearAll_11 (by decide) ?_
  refine St_put10 dX2_clearAll_12 pf_X2_36 h (fun hh h hF1 => ?_)
  have hF := hF.tr hF1 (by omega) (by omega)
  refine R_aload_n dX2_clearAll_15 rfl ?_
  refine R_iconst (v := 1) dX2_clearAll_16 (by decide) ?_
  refine R_callVv dX2_clearAll_17 cv_X2_64 ⟨by decide, by decide⟩ (e_startAnew G hh h 1) h.1 rfl rfl rfl (Nat.le_of_ble_eq_true rfl) (fun hh hw => ?_)
  obtain ⟨h, hF1⟩ := hw
  have hF := hF.tr hF1 (by omega) (by omega)
  exact R_vret dX2_clearAll_20 rfl (⟨rfl, h, hF⟩)
def ajA (a : AA) (n : Nat) (s w : Int32) : AA := va_up (va_up (va_up (va_up a 0 (upd (a 0) n s)) 1 (upd (a 1) n w)) 2 (upd (a 2) n 0)) 3 (upd (a 3) n 0)
set_option maxRecDepth 4000 in
theorem e_addJudge (G : GG) (hh : HH) {k : Nat} {a : AA} {v : VV} (h : StAt G hh k a v) {n : Nat} (hn : n < 6) (hv : v 8 = nI n) (s w : Int32) : EVv G mX2_addJudge [.ref (ad G k), .int s, .int w] hh (fun h1 => StAt G h1 k (ajA a n s w) (va_up v 8 (nI (n + 1))) ∧ Fr k (k + 9) hh h1) := by
  refine EV.of [(0, .ref (ad G k)), (1, .int s), (2, .int w)] (by decide +kernel) (Nat.le_of_ble_eq_true rfl) rfl ?_
  have hF : Fr k (k + 9) hh hh := Fr.rf
  refine R_aload_n dX2_addJudge_0 rfl ?_
  refine R_get dX2_addJudge_1 gf_X2_52 h.1 rfl ?_
  refine R_bipush (v := 6) dX2_addJudge_4 (by decide) ?_
  refine R_icmp_lt (tgt := 10) dX2_addJudge_6 (by decide) (fun c6 => ?_) (fun c6 => absurd (by rw [hv]; exact nI_lt (b := 6) hn (by decide)) c6)
  refine R_aload_n dX2_addJudge_10 rfl ?_
  refine R_get dX2_addJudge_11 gf_X2_9 h.1 rfl ?_
  refine R_aload_n dX2_addJudge_14 rfl ?_
  refine R_get dX2_addJudge_15 gf_X2_52 h.1 rfl ?_
  refine RR.top (y := nI n) hv ?_
  refine R_iload_n dX2_addJudge_18 rfl ?_
  refine St_ast0N dX2_addJudge_19 h (by omega) (fun hh h hF1 => ?_)
  have hF := hF.tr hF1 (by omega) (by omega)
  refine R_aload_n dX2_addJudge_20 rfl ?_
  refine R_get dX2_addJudge_21 gf_X2_15 h.1 rfl ?_
  refine R_aload_n dX2_addJudge_24 rfl ?_
  refine R_get dX2_addJudge_25 gf_X2_52 h.1 rfl ?_
  refine RR.top (y := nI n) hv ?_
  refine R_iload_n dX2_addJudge_28 rfl ?_
  refine St_ast1N dX2_addJudge_29 h (by omega) (fun hh h hF1 => ?_)
  have hF := hF.tr hF1 (by omega) (by omega)
  refine R_aload_n dX2_addJudge_30 rfl ?_
  refine R_get dX2_addJudge_31 gf_X2_18 h.1 rfl ?_
  refine R_aload_n dX2_addJudge_34 rfl ?_
  refine R_get dX2_addJudge_35 gf_X2_52 h.1 rfl ?_
  refine RR.top (y := nI n) hv ?_
  refine R_iconst (v := 0) dX2_addJudge_38 (by decide) ?_
  refine St_ast2N dX2_addJudge_39 h (by omega) (fun hh h hF1 => ?_)
  have hF := hF.tr hF1 (by omega) (by omega)
  refine R_aload_n dX2_addJudge_40 rfl ?_
  refine R_get dX2_addJudge_41 gf_X2_21 h.1 rfl ?_
  refine R_aload_n dX2_addJudge_44 rfl ?_
  refine R_get dX2_addJudge_45 gf_X2_52 h.1 rfl ?_
  refine RR.top (y := nI n) hv ?_
  refine R_iconst (v := 0) dX2_addJudge_48 (by decide) ?_
  refine St_ast3N dX2_addJudge_49 h (by omega) (fun hh h hF1 => ?_)
  have hF := hF.tr hF1 (by omega) (by omega)
  refine R_aload_n dX2_addJudge_50 rfl ?_
  refine R_dup dX2_addJudge_51 rfl ?_
  refine R_get dX2_addJudge_52 gf_X2_52 h.1 rfl ?_
  refine R_iconst (v := 1) dX2_addJudge_55 (by decide) ?_
  refine R_iadd dX2_addJudge_56 ?_
  refine RR.top (y := nI (n + 1)) (by show v 8 + 1 = nI (n + 1); rw [hv]; exact nI_1 n) ?_
  refine St_put8 dX2_addJudge_57 pf_X2_52 h (fun hh h hF1 => ?_)
  have hF := hF.tr hF1 (by omega) (by omega)
  exact R_vret dX2_addJudge_60 rfl (⟨rfl, h, hF⟩)
