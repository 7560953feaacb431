theorem if_y0 {c : Prop} [Decidable c] {y : Int32} {A B : Prop} (hw : if c then y = 0 ∧ A else y = 1 ∧ B) (h : y = 0) : c ∧ A := by
  by_cases q : c
  · rw [if_pos q] at hw; exact ⟨q, hw.2⟩
  · rw [if_neg q] at hw; rw [h] at hw; exact absurd hw.1 (by decide)
theorem if_y1 {c : Prop} [Decidable c] {y : Int32} {A B : Prop} (hw : if c then y = 0 ∧ A else y = 1 ∧ B) (h : ¬ y = 0) : ¬ c ∧ y = 1 ∧ B := by
  by_cases q : c
  · rw [if_pos q] at hw; exact absurd hw.1 h
  · rw [if_neg q] at hw; exact ⟨q, hw⟩
/-- what stands behind the word w (4 wheel, 5 judge, 6 bar, 7 away, else rule) at s: whether it may, where the reading goes on, the numbers -/
def rsT (f : Nat → Int32) (L s n w : Nat) : Bool × Nat × Int32 × Int32 :=
  if w = 4 then (true, s, 0, 0) else
  if w = 5 then (if nmT f L s 1 9 = -1 then (false, s, 0, 0) else (vsB f L (nx f L s), vsS f L (nx f L s), nmT f L s 1 9, vsV f L (nx f L s))) else
  if w = 6 then (if nmT f L s 0 (nI n - 1) = -1 then (false, s, 0, 0) else if nmT f L (nx f L s) 0 9 = -1 then (false, nx f L s, 0, 0) else (true, nx f L (nx f L s), nmT f L s 0 (nI n - 1), nmT f L (nx f L s) 0 9)) else
  if w = 7 then (if nmT f L s 0 (nI n - 1) = -1 then (false, s, 0, 0) else (true, nx f L s, nmT f L s 0 (nI n - 1), 0)) else
  (if rlT f L s = -1 then (false, s, 0, 0) else (true, nx f L s, rlT f L s, 0))
def rsP (G : GG) (hh : HH) (k : Nat) (a : AA) (v : VV) (L s n w : Nat) (y : Int32) (h1 : HH) : Prop := y = bl (rsT (a 7) L s n w).1 ∧ ∃ N : Nat → Int32, ((rsT (a 7) L s n w).1 = true → (¬ w = 4 → N 0 = (rsT (a 7) L s n w).2.2.1) ∧ (w = 5 ∨ w = 6 → N 1 = (rsT (a 7) L s n w).2.2.2)) ∧ MdAt G h1 k (va_up a 16 N) (vfb v (rsT (a 7) L s n w).2.1 (tkE (a 7) L (rsT (a 7) L s n w).2.1)) ∧ Fr k (k + 11) hh h1
theorem vsS_le {f : Nat → Int32} {L s : Nat} (h : s ≤ L) : vsS f L s ≤ L := by
  unfold vsS
  split
  · exact h
  · split
    · exact nx_le f h
    · exact h
theorem rsT_le {f : Nat → Int32} {L s : Nat} (h : s ≤ L) (n w : Nat) : (rsT f L s n w).2.1 ≤ L := by
  have h1 := nx_le f h
  have h2 := nx_le f h1
  have h3 := vsS_le (f := f) h1
  unfold rsT
  repeat' split
  all_goals assumption
set_option maxRecDepth 4000 in
theorem m_rest4 (G : GG) (hh : HH) {k : Nat} {a : AA} {v : VV} {L : Nat} (hL : L ≤ 200) (hl : v 8 = nI L) {s : Nat} (hs : s ≤ L) (h : MdAt G hh k a (vfb v s (tkE (a 7) L s))) {n : Nat} (hj : v 13 = nI n)  : EVi G mX5_readsRest [.ref (ad G k), .int 4] hh (rsP G hh k a v L s n 4) := by
  refine EV.of [(0, .ref (ad G k)), (1, .int 4)] (by decide +kernel) (Nat.le_of_ble_eq_true rfl) rfl ?_
  have hse := tkE_ge (a 7) L s
  have heL := tkE_le (a 7) hs
  have hF : Fr k (k + 11) hh hh := Fr.rf
  refine R_iload_n dX5_readsRest_0 rfl ?_
  refine R_tabIn (tgt := 32) (off := 31) dX5_readsRest_1 (by decide) (by decide) rfl (by decide) ?_
  refine R_iconst (v := 1) dX5_readsRest_32 (by decide) ?_
  exact R_zret dX5_readsRest_33 rfl (by first | exact Or.inl rfl | exact Or.inr rfl | assumption | exact bl01 _ | omega) (⟨_, rfl, rfl, a 16, fun _ => ⟨fun q9 => absurd rfl q9, fun q9 => by omega⟩, h.cg (va_up_idX a 16) rfl, hF⟩)
set_option maxRecDepth 4000 in
theorem m_rest5 (G : GG) (hh : HH) {k : Nat} {a : AA} {v : VV} {L : Nat} (hL : L ≤ 200) (hl : v 8 = nI L) {s : Nat} (hs : s ≤ L) (h : MdAt G hh k a (vfb v s (tkE (a 7) L s))) {n : Nat} (hj : v 13 = nI n)  : EVi G mX5_readsRest [.ref (ad G k), .int 5] hh (rsP G hh k a v L s n 5) := by
  refine EV.of [(0, .ref (ad G k)), (1, .int 5)] (by decide +kernel) (Nat.le_of_ble_eq_true rfl) rfl ?_
  have hse := tkE_ge (a 7) L s
  have heL := tkE_le (a 7) hs
  have hF : Fr k (k + 11) hh hh := Fr.rf
  refine R_iload_n dX5_readsRest_0 rfl ?_
  refine R_tabIn (tgt := 34) (off := 33) dX5_readsRest_1 (by decide) (by decide) rfl (by decide) ?_
  refine R_aload_n dX5_readsRest_34 rfl ?_
  refine R_iconst (v := 0) dX5_readsRest_35 (by decide) ?_
  refine R_iconst (v := 1) dX5_readsRest_36 (by decide) ?_
  refine R_bipush (v := 9) dX5_readsRest_37 (by decide) ?_
  refine R_callVi dX5_readsRest_39 cv_X5_101 ⟨by decide, by decide⟩ (m_number G hh hL hl hs h (kk := 0) (by decide) (lo := 1) (hi := 9) (by decide)) h.1 rfl rfl rfl (Nat.le_of_ble_eq_true rfl) (fun y hh hw => ?_)
  have hw9 := hw
  refine R_if_eq (tgt := 56) dX5_readsRest_42 (by decide) (fun c42 => ?_) (fun c42 => ?_)
  · obtain ⟨q1, e9⟩ := if_y0 hw c42
    subst e9
    refine R_iconst (v := 0) dX5_readsRest_56 (by decide) ?_
    exact R_zret dX5_readsRest_57 rfl (by first | exact Or.inl rfl | exact Or.inr rfl | assumption | exact bl01 _ | omega) (⟨_, rfl, by (have hR : rsT (a 7) L s n 5 = (false, s, 0, 0) := (by (unfold rsT; rw [if_neg (by decide), if_pos rfl, if_pos q1])); unfold rsP; rw [hR]; exact ⟨rfl, _, fun q9 => Bool.noConfusion q9, h.cg (va_up_idX a 16) rfl, hF⟩)⟩)
  · obtain ⟨q1, rfl, h, hF1⟩ := if_y1 hw c42
    have hF := hF.tr hF1 (by omega) (by omega)
    refine R_aload_n dX5_readsRest_45 rfl ?_
    refine R_callVi dX5_readsRest_46 cv_X5_105 ⟨by decide, by decide⟩ (m_readsVersed G hh hL hl (nx_le (a 7) hs) h) h.1 rfl rfl rfl (Nat.le_of_ble_eq_true rfl) (fun y hh hw => ?_)
    obtain ⟨rfl, w, hv, h, hF1⟩ := hw
    have hF := hF.tr hF1 (by omega) (by omega)
    refine R_if_eq (tgt := 56) dX5_readsRest_49 (by decide) (fun c49 => ?_) (fun c49 => ?_)
    · skip
      refine R_iconst (v := 0) dX5_readsRest_56 (by decide) ?_
      exact R_zret dX5_readsRest_57 rfl (by first | exact Or.inl rfl | exact Or.inr rfl | assumption | exact bl01 _ | omega) (⟨_, rfl, by (have hR : rsT (a 7) L s n 5 = (vsB (a 7) L (nx (a 7) L s), vsS (a 7) L (nx (a 7) L s), nmT (a 7) L s 1 9, vsV (a 7) L (nx (a 7) L s)) := (by (unfold rsT; rw [if_neg (by decide), if_pos rfl, if_neg q1])); have hB : vsB (a 7) L (nx (a 7) L s) = false := Bool.eq_false_iff.mpr (bl_f c49); unfold rsP; rw [hR]; refine ⟨by (show _ = bl (vsB (a 7) L (nx (a 7) L s)); rw [hB]; rfl), upd (upd (a 16) 0 (nmT (a 7) L s 1 9)) 1 w, fun q9 => ⟨fun _ => (show upd (upd (a 16) 0 (nmT (a 7) L s 1 9)) 1 w 0 = nmT (a 7) L s 1 9 from rfl), fun _ => (show upd (upd (a 16) 0 (nmT (a 7) L s 1 9)) 1 w 1 = _ from (show _ = w from rfl).trans (hv q9))⟩, h.cg (by rw [bx_uu]; rfl) rfl, hF⟩)⟩)
    · refine R_iconst (v := 1) dX5_readsRest_52 (by decide) ?_
      refine R_goto (tgt := 57) dX5_readsRest_53 (by decide) ?_
      exact R_zret dX5_readsRest_57 rfl (by first | exact Or.inl rfl | exact Or.inr rfl | assumption | exact bl01 _ | omega) (⟨_, rfl, by (have hR : rsT (a 7) L s n 5 = (vsB (a 7) L (nx (a 7) L s), vsS (a 7) L (nx (a 7) L s), nmT (a 7) L s 1 9, vsV (a 7) L (nx (a 7) L s)) := (by (unfold rsT; rw [if_neg (by decide), if_pos rfl, if_neg q1])); have hB : vsB (a 7) L (nx (a 7) L s) = true := bl_t c49; unfold rsP; rw [hR]; refine ⟨by (show _ = bl (vsB (a 7) L (nx (a 7) L s)); rw [hB]; rfl), upd (upd (a 16) 0 (nmT (a 7) L s 1 9)) 1 w, fun q9 => ⟨fun _ => (show upd (upd (a 16) 0 (nmT (a 7) L s 1 9)) 1 w 0 = nmT (a 7) L s 1 9 from rfl), fun _ => (show upd (upd (a 16) 0 (nmT (a 7) L s 1 9)) 1 w 1 = _ from (show _ = w from rfl).trans (hv q9))⟩, h.cg (by rw [bx_uu]; rfl) rfl, hF⟩)⟩)
set_option maxRecDepth 4000 in
theorem m_rest6 (G : GG) (hh : HH) {k : Nat} {a : AA} {v : VV} {L : Nat} (hL : L ≤ 200) (hl : v 8 = nI L) {s : Nat} (hs : s ≤ L) (h : MdAt G hh k a (vfb v s (tkE (a 7) L s))) {n : Nat} (hj : v 13 = nI n)  : EVi G mX5_readsRest [.ref (ad G k), .int 6] hh (rsP G hh k a v L s n 6) := by
  refine EV.of [(0, .ref (ad G k)), (1, .int 6)] (by decide +kernel) (Nat.le_of_ble_eq_true rfl) rfl ?_
  have hse := tkE_ge (a 7) L s
  have heL := tkE_le (a 7) hs
  have hF : Fr k (k + 11) hh hh := Fr.rf
  refine R_iload_n dX5_readsRest_0 rfl ?_
  refine R_tabIn (tgt := 58) (off := 57) dX5_readsRest_1 (by decide) (by decide) rfl (by decide) ?_
  refine R_aload_n dX5_readsRest_58 rfl ?_
  refine R_iconst (v := 0) dX5_readsRest_59 (by decide) ?_
  refine R_iconst (v := 0) dX5_readsRest_60 (by decide) ?_
  refine R_aload_n dX5_readsRest_61 rfl ?_
  refine R_get dX5_readsRest_62 gf_X5_109 h.1 rfl ?_
  refine RR.top (y := nI n) hj ?_
  refine R_iconst (v := 1) dX5_readsRest_65 (by decide) ?_
  refine R_isub dX5_readsRest_66 ?_
  refine R_callVi dX5_readsRest_67 cv_X5_101 ⟨by decide, by decide⟩ (m_number G hh hL hl hs h (kk := 0) (by decide) (lo := 0) (hi := (nI n - 1)) (by decide)) h.1 rfl rfl rfl (Nat.le_of_ble_eq_true rfl) (fun y hh hw => ?_)
  have hw9 := hw
  refine R_if_eq (tgt := 88) dX5_readsRest_70 (by decide) (fun c70 => ?_) (fun c70 => ?_)
  · obtain ⟨q1, e9⟩ := if_y0 hw c70
    subst e9
    refine R_iconst (v := 0) dX5_readsRest_88 (by decide) ?_
    exact R_zret dX5_readsRest_89 rfl (by first | exact Or.inl rfl | exact Or.inr rfl | assumption | exact bl01 _ | omega) (⟨_, rfl, by (have hR : rsT (a 7) L s n 6 = (false, s, 0, 0) := (by (unfold rsT; rw [if_neg (by decide), if_neg (by decide), if_pos rfl, if_pos q1])); unfold rsP; rw [hR]; exact ⟨rfl, _, fun q9 => Bool.noConfusion q9, h.cg (va_up_idX a 16) rfl, hF⟩)⟩)
  · obtain ⟨q1, rfl, h, hF1⟩ := if_y1 hw c70
    have hF := hF.tr hF1 (by omega) (by omega)
    refine R_aload_n dX5_readsRest_73 rfl ?_
    refine R_iconst (v := 1) dX5_readsRest_74 (by decide) ?_
    refine R_iconst (v := 0) dX5_readsRest_75 (by decide) ?_
    refine R_bipush (v := 9) dX5_readsRest_76 (by decide) ?_
    refine R_callVi dX5_readsRest_78 cv_X5_101 ⟨by decide, by decide⟩ (m_number G hh hL hl (nx_le (a 7) hs) h (kk := 1) (by decide) (lo := 0) (hi := 9) (by decide)) h.1 rfl rfl rfl (Nat.le_of_ble_eq_true rfl) (fun y hh hw => ?_)
    have hw9 := hw
    refine R_if_eq (tgt := 88) dX5_readsRest_81 (by decide) (fun c81 => ?_) (fun c81 => ?_)
    · obtain ⟨q2, e9⟩ := if_y0 hw c81
      subst e9
      have q2 : nmT (a 7) L (nx (a 7) L s) 0 9 = -1 := q2
      refine R_iconst (v := 0) dX5_readsRest_88 (by decide) ?_
      exact R_zret dX5_readsRest_89 rfl (by first | exact Or.inl rfl | exact Or.inr rfl | assumption | exact bl01 _ | omega) (⟨_, rfl, by (have hR : rsT (a 7) L s n 6 = (false, nx (a 7) L s, 0, 0) := (by (unfold rsT; rw [if_neg (by decide), if_neg (by decide), if_pos rfl, if_neg q1, if_pos q2])); unfold rsP; rw [hR]; exact ⟨rfl, _, fun q9 => Bool.noConfusion q9, h, hF⟩)⟩)
    · obtain ⟨q2, rfl, h, hF1⟩ := if_y1 hw c81
      have q2 : ¬ nmT (a 7) L (nx (a 7) L s) 0 9 = -1 := q2
      have hF := hF.tr hF1 (by omega) (by omega)
      refine R_iconst (v := 1) dX5_readsRest_84 (by decide) ?_
      refine R_goto (tgt := 89) dX5_readsRest_85 (by decide) ?_
      exact R_zret dX5_readsRest_89 rfl (by first | exact Or.inl rfl | exact Or.inr rfl | assumption | exact bl01 _ | omega) (⟨_, rfl, by (have hR : rsT (a 7) L s n 6 = (true, nx (a 7) L (nx (a 7) L s), nmT (a 7) L s 0 (nI n - 1), nmT (a 7) L (nx (a 7) L s) 0 9) := (by (unfold rsT; rw [if_neg (by decide), if_neg (by decide), if_pos rfl, if_neg q1, if_neg q2])); unfold rsP; rw [hR]; refine ⟨rfl, upd (upd (a 16) 0 (nmT (a 7) L s 0 (nI n - 1))) 1 (nmT (a 7) L (nx (a 7) L s) 0 9), fun q9 => ⟨fun _ => rfl, fun _ => rfl⟩, h.cg (by rw [bx_uu]; rfl) rfl, hF⟩)⟩)
set_option maxRecDepth 4000 in
theorem m_rest7 (G : GG) (hh : HH) {k : Nat} {a : AA} {v : VV} {L : Nat} (hL : L ≤ 200) (hl : v 8 = nI L) {s : Nat} (hs : s ≤ L) (h : MdAt G hh k a (vfb v s (tkE (a 7) L s))) {n : Nat} (hj : v 13 = nI n)  : EVi G mX5_readsRest [.ref (ad G k), .int 7] hh (rsP G hh k a v L s n 7) := by
  refine EV.of [(0, .ref (ad G k)), (1, .int 7)] (by decide +kernel) (Nat.le_of_ble_eq_true rfl) rfl ?_
  have hse := tkE_ge (a 7) L s
  have heL := tkE_le (a 7) hs
  have hF : Fr k (k + 11) hh hh := Fr.rf
  refine R_iload_n dX5_readsRest_0 rfl ?_
  refine R_tabIn (tgt := 90) (off := 89) dX5_readsRest_1 (by decide) (by decide) rfl (by decide) ?_
  refine R_aload_n dX5_readsRest_90 rfl ?_
  refine R_iconst (v := 0) dX5_readsRest_91 (by decide) ?_
  refine R_iconst (v := 0) dX5_readsRest_92 (by decide) ?_
  refine R_aload_n dX5_readsRest_93 rfl ?_
  refine R_get dX5_readsRest_94 gf_X5_109 h.1 rfl ?_
  refine RR.top (y := nI n) hj ?_
  refine R_iconst (v := 1) dX5_readsRest_97 (by decide) ?_
  refine R_isub dX5_readsRest_98 ?_
  refine R_callVi dX5_readsRest_99 cv_X5_101 ⟨by decide, by decide⟩ (m_number G hh hL hl hs h (kk := 0) (by decide) (lo := 0) (hi := (nI n - 1)) (by decide)) h.1 rfl rfl rfl (Nat.le_of_ble_eq_true rfl) (fun y hh hw => ?_)
  have hy : y = 0 ∨ y = 1 := by (revert hw; split; (intro hw; exact Or.inl hw.1); (intro hw; exact Or.inr hw.1))
  exact R_zret dX5_readsRest_102 rfl (by first | exact Or.inl rfl | exact Or.inr rfl | assumption | exact bl01 _ | omega) (⟨_, rfl, by (by_cases q1 : nmT (a 7) L s 0 (nI n - 1) = -1; (rw [if_pos q1] at hw; obtain ⟨rfl, e9⟩ := hw; subst e9; have hR : rsT (a 7) L s n 7 = (false, s, 0, 0) := (by (unfold rsT; rw [if_neg (by decide), if_neg (by decide), if_neg (by decide), if_pos rfl, if_pos q1])); unfold rsP; rw [hR]; exact ⟨rfl, _, fun q9 => Bool.noConfusion q9, h.cg (va_up_idX a 16) rfl, hF⟩); (rw [if_neg q1] at hw; obtain ⟨rfl, h, hF1⟩ := hw; have hR : rsT (a 7) L s n 7 = (true, nx (a 7) L s, nmT (a 7) L s 0 (nI n - 1), 0) := (by (unfold rsT; rw [if_neg (by decide), if_neg (by decide), if_neg (by decide), if_pos rfl, if_neg q1])); unfold rsP; rw [hR]; exact ⟨rfl, _, fun _ => ⟨fun _ => rfl, fun q9 => by omega⟩, h, hF.tr hF1 (by omega) (by omega)⟩))⟩)
set_option maxRecDepth 4000 in
theorem m_rest8 (G : GG) (hh : HH) {k : Nat} {a : AA} {v : VV} {L : Nat} (hL : L ≤ 200) (hl : v 8 = nI L) {s : Nat} (hs : s ≤ L) (h : MdAt G hh k a (vfb v s (tkE (a 7) L s))) {n : Nat} (hj : v 13 = nI n) (hW : ∀ j, j < 54 → a 17 j = wdA j) : EVi G mX5_readsRest [.ref (ad G k), .int 8] hh (rsP G hh k a v L s n 8) := by
  refine EV.of [(0, .ref (ad G k)), (1, .int 8)] (by decide +kernel) (Nat.le_of_ble_eq_true rfl) rfl ?_
  have hse := tkE_ge (a 7) L s
  have heL := tkE_le (a 7) hs
  have hF : Fr k (k + 11) hh hh := Fr.rf
  refine R_iload_n dX5_readsRest_0 rfl ?_
  refine R_tabOut (tgt := 103) dX5_readsRest_1 (by decide) (by decide) ?_
  refine R_aload_n dX5_readsRest_103 rfl ?_
  refine R_callVi dX5_readsRest_104 cv_X5_112 ⟨by decide, by decide⟩ (m_readsRule G hh hL hl hs h hW) h.1 rfl rfl rfl (Nat.le_of_ble_eq_true rfl) (fun y hh hw => ?_)
  have hy : y = 0 ∨ y = 1 := by (revert hw; split; (intro hw; exact Or.inl hw.1); (intro hw; exact Or.inr hw.1))
  exact R_zret dX5_readsRest_107 rfl (by first | exact Or.inl rfl | exact Or.inr rfl | assumption | exact bl01 _ | omega) (⟨_, rfl, by (by_cases q1 : rlT (a 7) L s = -1; (rw [if_pos q1] at hw; obtain ⟨rfl, ⟨w, h⟩, hF1⟩ := hw; have hR : rsT (a 7) L s n 8 = (false, s, 0, 0) := (by (unfold rsT; rw [if_neg (by decide), if_neg (by decide), if_neg (by decide), if_neg (by decide), if_pos q1])); unfold rsP; rw [hR]; exact ⟨rfl, _, fun q9 => Bool.noConfusion q9, h, hF.tr hF1 (by omega) (by omega)⟩); (rw [if_neg q1] at hw; obtain ⟨rfl, h, hF1⟩ := hw; have hR : rsT (a 7) L s n 8 = (true, nx (a 7) L s, rlT (a 7) L s, 0) := (by (unfold rsT; rw [if_neg (by decide), if_neg (by decide), if_neg (by decide), if_neg (by decide), if_neg q1])); unfold rsP; rw [hR]; exact ⟨rfl, _, fun _ => ⟨fun _ => rfl, fun q9 => by omega⟩, h, hF.tr hF1 (by omega) (by omega)⟩))⟩)
set_option maxRecDepth 4000 in
theorem m_does4 (G : GG) (hh : HH) {k : Nat} {a : AA} {v : VV} (h : MdAt G hh k a v)  : EVv G mX5_does [.ref (ad G k), .int 4] hh (fun h1 => MdAt G h1 k (va_up a 0 (anR (a 0))) (va_up (va_up v 1 0) 2 0) ∧ Fr k (k + 11) hh h1) := by
  refine EV.of [(0, .ref (ad G k)), (1, .int 4)] (by decide +kernel) (Nat.le_of_ble_eq_true rfl) rfl ?_
  have hF : Fr k (k + 11) hh hh := Fr.rf
  refine R_iload_n dX5_does_0 rfl ?_
  refine R_tabIn (tgt := 32) (off := 31) dX5_does_1 (by decide) (by decide) rfl (by decide) ?_
  refine R_aload_n dX5_does_32 rfl ?_
  refine R_callVv dX5_does_33 cv_X5_41 ⟨by decide, by decide⟩ (m_anew G hh h) h.1 rfl rfl rfl (Nat.le_of_ble_eq_true rfl) (fun hh hw => ?_)
  obtain ⟨h, hF1⟩ := hw
  have hF := hF.tr hF1 (by omega) (by omega)
  refine R_goto (tgt := 139) dX5_does_36 (by decide) ?_
  exact R_vret dX5_does_139 rfl (⟨rfl, h, hF⟩)
set_option maxRecDepth 4000 in
theorem m_does5 (G : GG) (hh : HH) {k : Nat} {a : AA} {v : VV} (h : MdAt G hh k a v) {n : Nat} (hn : n < 6) (hv : v 1 = nI n) : EVv G mX5_does [.ref (ad G k), .int 5] hh (fun h1 => MdAt G h1 k (va_up (va_up a 3 (upd (a 3) n (a 16 0))) 4 (upd (a 4) n (a 16 1))) (va_up v 1 (nI (n + 1))) ∧ Fr k (k + 11) hh h1) := by
  refine EV.of [(0, .ref (ad G k)), (1, .int 5)] (by decide +kernel) (Nat.le_of_ble_eq_true rfl) rfl ?_
  have hF : Fr k (k + 11) hh hh := Fr.rf
  refine R_iload_n dX5_does_0 rfl ?_
  refine R_tabIn (tgt := 39) (off := 38) dX5_does_1 (by decide) (by decide) rfl (by decide) ?_
  refine R_aload_n dX5_does_39 rfl ?_
  refine R_get dX5_does_40 gf_X5_13 h.1 rfl ?_
  refine R_aload_n dX5_does_43 rfl ?_
  refine R_get dX5_does_44 gf_X5_48 h.1 rfl ?_
  refine RR.top (y := nI (n)) (hv) ?_
  refine R_aload_n dX5_does_47 rfl ?_
  refine R_get dX5_does_48 gf_X5_32 h.1 rfl ?_
  refine R_iconst (v := 0) dX5_does_51 (by decide) ?_
  refine R_ialdN dX5_does_52 h.a16 (by first | omega | decide) (by decide) ?_
  refine Md_ast3N dX5_does_53 h (by first | omega | decide) (fun hh h hF1 => ?_)
  have hF := hF.tr hF1 (by omega) (by omega)
  refine R_aload_n dX5_does_54 rfl ?_
  refine R_get dX5_does_55 gf_X5_16 h.1 rfl ?_
  refine R_aload_n dX5_does_58 rfl ?_
  refine R_get dX5_does_59 gf_X5_48 h.1 rfl ?_
  refine RR.top (y := nI (n)) (hv) ?_
  refine R_aload_n dX5_does_62 rfl ?_
  refine R_get dX5_does_63 gf_X5_32 h.1 rfl ?_
  refine R_iconst (v := 1) dX5_does_66 (by decide) ?_
  refine R_ialdN dX5_does_67 h.a16 (by first | omega | decide) (by decide) ?_
  refine Md_ast4N dX5_does_68 h (by first | omega | decide) (fun hh h hF1 => ?_)
  have hF := hF.tr hF1 (by omega) (by omega)
  refine R_aload_n dX5_does_69 rfl ?_
  refine R_dup dX5_does_70 rfl ?_
  refine R_get dX5_does_71 gf_X5_48 h.1 rfl ?_
  refine RR.top (y := nI (n)) (hv) ?_
  refine R_iconst (v := 1) dX5_does_74 (by decide) ?_
  refine R_iadd dX5_does_75 ?_
  refine RR.top (y := nI (n + 1)) (nI_add (n) (1)) ?_
  refine Md_put1 dX5_does_76 pf_X5_48 h (fun hh h hF1 => ?_)
  have hF := hF.tr hF1 (by omega) (by omega)
  refine R_goto (tgt := 139) dX5_does_79 (by decide) ?_
  exact R_vret dX5_does_139 rfl (⟨rfl, h, hF⟩)
set_option maxRecDepth 4000 in
theorem m_does6 (G : GG) (hh : HH) {k : Nat} {a : AA} {v : VV} (h : MdAt G hh k a v) {j : Nat} (hj : j < 6) (h0 : a 16 0 = nI j) : EVv G mX5_does [.ref (ad G k), .int 6] hh (fun h1 => MdAt G h1 k (va_up a 0 (upd (a 0) (5 + j) (a 0 (5 + j) ||| ((1 : Int32) <<< (a 16 1 &&& 31))))) v ∧ Fr k (k + 11) hh h1) := by
  refine EV.of [(0, .ref (ad G k)), (1, .int 6)] (by decide +kernel) (Nat.le_of_ble_eq_true rfl) rfl ?_
  have hF : Fr k (k + 11) hh hh := Fr.rf
  refine R_iload_n dX5_does_0 rfl ?_
  refine R_tabIn (tgt := 82) (off := 81) dX5_does_1 (by decide) (by decide) rfl (by decide) ?_
  refine R_aload_n dX5_does_82 rfl ?_
  refine R_get dX5_does_83 gf_X5_7 h.1 rfl ?_
  refine R_iconst (v := 5) dX5_does_86 (by decide) ?_
  refine R_aload_n dX5_does_87 rfl ?_
  refine R_get dX5_does_88 gf_X5_32 h.1 rfl ?_
  refine R_iconst (v := 0) dX5_does_91 (by decide) ?_
  refine R_ialdN dX5_does_92 h.a16 (by first | omega | decide) (by decide) ?_
  refine RR.top (y := nI (j)) (h0) ?_
  refine R_iadd dX5_does_93 ?_
  refine RR.top (y := nI (5 + j)) (nI_add (5) (j)) ?_
  refine R_dup2 dX5_does_94 rfl rfl ?_
  refine R_ialdN dX5_does_95 h.a0 (by first | omega | decide) (by decide) ?_
  refine R_iconst (v := 1) dX5_does_96 (by decide) ?_
  refine R_aload_n dX5_does_97 rfl ?_
  refine R_get dX5_does_98 gf_X5_32 h.1 rfl ?_
  refine R_iconst (v := 1) dX5_does_101 (by decide) ?_
  refine R_ialdN dX5_does_102 h.a16 (by first | omega | decide) (by decide) ?_
  refine R_ishl dX5_does_103 ?_
  refine R_ior dX5_does_104 ?_
  refine Md_ast0N dX5_does_105 h (by first | omega | decide) (fun hh h hF1 => ?_)
  have hF := hF.tr hF1 (by omega) (by omega)
  refine R_goto (tgt := 139) dX5_does_106 (by decide) ?_
  exact R_vret dX5_does_139 rfl (⟨rfl, h, hF⟩)
set_option maxRecDepth 4000 in
theorem m_does7 (G : GG) (hh : HH) {k : Nat} {a : AA} {v : VV} (h : MdAt G hh k a v)  : EVv G mX5_does [.ref (ad G k), .int 7] hh (fun h1 => MdAt G h1 k (va_up a 0 (upd (a 0) 4 (a 0 4 ||| ((1 : Int32) <<< (a 16 0 &&& 31))))) v ∧ Fr k (k + 11) hh h1) := by
  refine EV.of [(0, .ref (ad G k)), (1, .int 7)] (by decide +kernel) (Nat.le_of_ble_eq_true rfl) rfl ?_
  have hF : Fr k (k + 11) hh hh := Fr.rf
  refine R_iload_n dX5_does_0 rfl ?_
  refine R_tabIn (tgt := 109) (off := 108) dX5_does_1 (by decide) (by decide) rfl (by decide) ?_
  refine R_aload_n dX5_does_109 rfl ?_
  refine R_get dX5_does_110 gf_X5_7 h.1 rfl ?_
  refine R_iconst (v := 4) dX5_does_113 (by decide) ?_
  refine R_dup2 dX5_does_114 rfl rfl ?_
  refine R_ialdN dX5_does_115 h.a0 (by first | omega | decide) (by decide) ?_
  refine R_iconst (v := 1) dX5_does_116 (by decide) ?_
  refine R_aload_n dX5_does_117 rfl ?_
  refine R_get dX5_does_118 gf_X5_32 h.1 rfl ?_
  refine R_iconst (v := 0) dX5_does_121 (by decide) ?_
  refine R_ialdN dX5_does_122 h.a16 (by first | omega | decide) (by decide) ?_
  refine R_ishl dX5_does_123 ?_
  refine R_ior dX5_does_124 ?_
  refine Md_ast0N dX5_does_125 h (by first | omega | decide) (fun hh h hF1 => ?_)
  have hF := hF.tr hF1 (by omega) (by omega)
  refine R_goto (tgt := 139) dX5_does_126 (by decide) ?_
  exact R_vret dX5_does_139 rfl (⟨rfl, h, hF⟩)
set_option maxRecDepth 4000 in
theorem m_does8 (G : GG) (hh : HH) {k : Nat} {a : AA} {v : VV} (h : MdAt G hh k a v)  : EVv G mX5_does [.ref (ad G k), .int 8] hh (fun h1 => MdAt G h1 k a (va_up v 2 (a 16 0)) ∧ Fr k (k + 11) hh h1) := by
  refine EV.of [(0, .ref (ad G k)), (1, .int 8)] (by decide +kernel) (Nat.le_of_ble_eq_true rfl) rfl ?_
  have hF : Fr k (k + 11) hh hh := Fr.rf
  refine R_iload_n dX5_does_0 rfl ?_
  refine R_tabOut (tgt := 129) dX5_does_1 (by decide) (by decide) ?_
  refine R_aload_n dX5_does_129 rfl ?_
  refine R_aload_n dX5_does_130 rfl ?_
  refine R_get dX5_does_131 gf_X5_32 h.1 rfl ?_
  refine R_iconst (v := 0) dX5_does_134 (by decide) ?_
  refine R_ialdN dX5_does_135 h.a16 (by first | omega | decide) (by decide) ?_
  refine Md_put2 dX5_does_136 pf_X5_52 h (fun hh h hF1 => ?_)
  have hF := hF.tr hF1 (by omega) (by omega)
  exact R_vret dX5_does_139 rfl (⟨rfl, h, hF⟩)
