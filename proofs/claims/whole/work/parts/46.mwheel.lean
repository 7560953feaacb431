set_option maxRecDepth 4000 in
theorem m_reads (G : GG) (hh : HH) {k : Nat} {a : AA} {v : VV} {L : Nat} (hL : L ≤ 200) (hl : v 8 = nI L) (h : MdAt G hh k a v) {n : Nat} (hn : n ≤ 6) (hv1 : v 1 = nI n) (hW : ∀ j, j < 54 → a 17 j = wdA j) (b : Bool) (sX : Nat) (c9 : AA) (u9 : VV) (hT : b = true → TlM n c9 u9 a v) : EVi G mX5_reads [.ref (ad G k), .int (bl b)] hh (rdP G hh k a v b (mrd (a 7) L n) (rdL (a 7) L 24 sX 0 c9 u9 0).2.2.1 (rdL (a 7) L 24 sX 0 c9 u9 0).2.2.2) := by
  refine EV.of [(0, .ref (ad G k)), (1, .int (bl b))] (by decide +kernel) (Nat.le_of_ble_eq_true rfl) rfl ?_
  have hF : Fr k (k + 11) hh hh := Fr.rf
  refine R_aload_n dX5_reads_0 rfl ?_
  refine R_iload_n dX5_reads_1 rfl ?_
  refine Md_put15 dX5_reads_2 pf_X5_118 h (bl01 b) (fun hh h hF1 => ?_)
  have hF := hF.tr hF1 (by omega) (by omega)
  refine R_aload_n dX5_reads_5 rfl ?_
  refine R_iconst (v := 0) dX5_reads_6 (by decide) ?_
  refine Md_put12 dX5_reads_7 pf_X5_72 h (fun hh h hF1 => ?_)
  have hF := hF.tr hF1 (by omega) (by omega)
  refine R_aload_n dX5_reads_10 rfl ?_
  refine R_iconst (v := 1) dX5_reads_11 (by decide) ?_
  refine Md_put14 dX5_reads_12 pf_X5_126 h (fun hh h hF1 => ?_)
  have hF := hF.tr hF1 (by omega) (by omega)
  refine R_aload_n dX5_reads_15 rfl ?_
  refine R_aload_n dX5_reads_16 rfl ?_
  refine R_get dX5_reads_17 gf_X5_48 h.1 rfl ?_
  refine Md_put13 dX5_reads_20 pf_X5_109 h (fun hh h hF1 => ?_)
  have hF := hF.tr hF1 (by omega) (by omega)
  refine R_aload_n dX5_reads_23 rfl ?_
  obtain ⟨s0, es0⟩ := nI_all (v 11)
  have h := h.cg rfl (vfb_self (v := va_up (va_up (va_up (va_up v 15 (bl b)) 12 0) 14 1) 13 (v 1)) (s := s0) (e := 0) es0 rfl).symm
  refine R_callVv dX5_reads_24 cv_X5_88 ⟨by decide, by decide⟩ (m_nextToken G hh (v := va_up (va_up (va_up (va_up v 15 (bl b)) 12 0) 14 1) 13 (v 1)) hL hl (Nat.zero_le L) h) h.1 rfl rfl rfl (Nat.le_of_ble_eq_true rfl) (fun hh hw9 => ?_)
  obtain ⟨h, hF1⟩ := hw9
  have hF := hF.tr hF1 (by omega) (by omega)
  refine R_aload_n dX5_reads_27 rfl ?_
  refine R_callVi dX5_reads_28 cv_X5_129 ⟨by decide, by decide⟩ (m_readsClause G hh (v := va_up (va_up (va_up (va_up v 15 (bl b)) 12 0) 14 1) 13 (v 1)) hL hl (tkS_le (a 7) (Nat.zero_le L)) h hn (b := b) hv1 rfl (fun _ => hv1) hW) h.1 rfl rfl rfl (Nat.le_of_ble_eq_true rfl) (fun y hh hw9 => ?_)
  obtain ⟨rfl, a', v', h, hF1, f11, f12, f13, hK, hS, hD⟩ := hw9
  have hF := hF.tr hF1 (by omega) (by omega)
  refine R_istore_n dX5_reads_31 (by decide) ?_
  have h7 : a' 7 = a 7 := hK.1 7 (by decide) (by decide) (by decide) (by decide)
  have hK2 : kqR a v a' v' := (kqR.v (fun i _ _ q9 => by simp only [va_up]; rw [if_neg (by omega), if_neg (by omega), if_neg (by omega), if_neg (by omega)])).tr (kpM.Q hK)
  have hS2 : b = false → sdM a v a' v' := fun q9 => hS q9
  have f14 : v' 14 = nI 1 := hK.2.2 14 (by decide) (by decide) (by decide) (by decide) (by decide)
  cases hM : (mc (a 7) L (tkS (a 7) L 0) n).1
  · refine RR.pick [1, 2, 0] rfl (l_reads0 G hh ⟨_, rfl, ?_⟩)
    have e9 : mrd (a 7) L n = (false, (mc (a 7) L (tkS (a 7) L 0) n).2.1, 1) := if_neg (by rw [hM]; decide)
    rw [e9]
    exact ⟨rfl, a', v', h, hF, f11, f14, hK2, hS2, fun _ q9 => Bool.noConfusion q9⟩
  · have hx := mc_le (f := a 7) (tkS_le (a 7) (Nat.zero_le L)) n
    have hm := mc_n (f := a 7) (L := L) (s := tkS (a 7) L 0) hn
    have e9 : mrd (a 7) L n = lp (a 7) L 23 (mc (a 7) L (tkS (a 7) L 0) n).2.1 (mc (a 7) L (tkS (a 7) L 0) n).2.2 1 := if_pos hM
    refine RR.pick [1, 2, 0] rfl (RR.post (l_reads G hL 23 (mc (a 7) L (tkS (a 7) L 0) n).2.1 (mc (a 7) L (tkS (a 7) L 0) n).2.2 1 (clC (a 7) L (tkS (a 7) L 0) c9 u9 n).2.2.1 (clC (a 7) L (tkS (a 7) L 0) c9 u9 n).2.2.2 a' v' hh (by omega) hx hm ((hK2.2.2 8 (by decide) (by decide) (by decide)).trans hl) f11 (by rw [h7]; exact f12) f13 f14 (hK.2.2 15 (by decide) (by decide) (by decide) (by decide) (by decide)) (fun q9 => hD q9 hM c9 u9 (hT q9)) (fun j hj => by rw [hK.1 17 (by decide) (by decide) (by decide) (by decide)]; exact hW j hj) h) (fun r9 h1 hq => ?_))
    obtain ⟨y, rfl, hp⟩ := hq
    refine ⟨y, rfl, ?_⟩
    rw [h7] at hp
    have hp := hp.tr hK2 hS2 hF
    rw [e9]
    cases b with
    | false => exact rdP.ff hp
    | true =>
      have hu := (hT rfl).2.1
      obtain ⟨m1, _⟩ := mc_cl (a 7) L (tkS (a 7) L 0) c9 u9 hn hu
      obtain ⟨p1, p2, p3⟩ := m1 hM
      rw [rdL_s (a 7) L 23 sX 0 c9 u9 0 hn hu, p1, if_pos (show true = true from rfl), p2]
      exact hp
set_option maxRecDepth 4000 in
theorem m_fault (G : GG) (hh : HH) {k : Nat} {a : AA} {v : VV} {L : Nat} (hL : L ≤ 200) (hl : v 8 = nI L) (h : MdAt G hh k a v) {n : Nat} (hn : n ≤ 6) (hv1 : v 1 = nI n) (hW : ∀ j, j < 54 → a 17 j = wdA j) : EVi G mX5_fault [.ref (ad G k)] hh (fun y h1 => y = (if (mrd (a 7) L n).1 = true then -1 else nI (mrd (a 7) L n).2.1) ∧ ∃ a' v', MdAt G h1 k a' v' ∧ Fr k (k + 11) hh h1 ∧ kqR a v a' v' ∧ sdM a v a' v') := by
  refine EV.of [(0, .ref (ad G k))] (by decide +kernel) (Nat.le_of_ble_eq_true rfl) rfl ?_
  have hF : Fr k (k + 11) hh hh := Fr.rf
  refine R_aload_n dX5_fault_0 rfl ?_
  refine R_iconst (v := 0) dX5_fault_1 (by decide) ?_
  refine R_callVi dX5_fault_2 cv_X5_132 ⟨by decide, by decide⟩ (m_reads G hh hL hl h hn hv1 hW false 0 a v (fun q9 => Bool.noConfusion q9)) h.1 rfl rfl rfl (Nat.le_of_ble_eq_true rfl) (fun y hh hw9 => ?_)
  obtain ⟨rfl, a', v', h, hF1, f11, f14, hK, hS, _⟩ := hw9
  have hF := hF.tr hF1 (by omega) (by omega)
  refine R_if_eq (tgt := 12) dX5_fault_5 (by decide) (fun c5 => ?_) (fun c5 => ?_)
  · refine R_aload_n dX5_fault_12 rfl ?_
    refine R_get dX5_fault_13 gf_X5_75 h.1 rfl ?_
    refine RR.top (y := nI (mrd (a 7) L n).2.1) f11 ?_
    exact R_iret dX5_fault_16 rfl (⟨_, rfl, (if_neg (bl_f c5)).symm, a', v', h, hF, hK, hS rfl⟩)
  · refine R_iconst (v := (-1)) dX5_fault_8 (by decide) ?_
    refine R_goto (tgt := 16) dX5_fault_9 (by decide) ?_
    skip
    exact R_iret dX5_fault_16 rfl (⟨_, rfl, (if_pos (bl_t c5)).symm, a', v', h, hF, hK, hS rfl⟩)
theorem Tl.cg {n : Nat} {c : AA} {u : VV} {r r' st ve : Nat → Int32} {jn ru : Int32} (h : Tl n c u r st ve jn ru) (hr : ∀ j, j < 17 → r' j = r j) : Tl n c u r' st ve jn ru := by
  obtain ⟨h1, h2, h3, h4, h5, h6, h7, h8, h9, h10, h11⟩ := h
  refine ⟨h1, h2, h3, fun j hj => ?_, fun j g1 g2 => ?_, fun j hj => ?_, ?_, h8, h9, h10, ?_⟩
  · rw [hr _ (by omega)]; exact h4 j hj
  · rw [hr _ (by omega)]; exact h5 j g1 g2
  · rw [hr _ (by omega)]; exact h6 j hj
  · rw [hr _ (by omega)]; exact h7
  · rw [hr _ (by omega), hr _ (by omega), hr _ (by omega), hr _ (by omega)]; exact h11
/-- the reference behind a wheel that stands -/
def whP (a a' : AA) (v' : VV) (c : AA) (u : VV) : Prop := (∃ n', Tl n' c u (fun j => a' 0 (847 + j)) (a' 3) (a' 4) (v' 1) (v' 2)) ∧ (∀ j, j < 77 → a' 0 j = a' 0 (847 + j)) ∧ v' 8 = 0 ∧ v' 5 = 0 ∧ (∀ i, i < 2 → a' 6 i = 0) ∧ (∀ t, t < 3 → a' 9 t = -1) ∧ a' 17 = a 17 ∧ a' 7 = a 7
set_option maxRecDepth 4000 in
theorem m_wheel (G : GG) (hh : HH) {k : Nat} {a : AA} {v : VV} {L : Nat} (hL : L ≤ 200) (hl : v 8 = nI L) (h : MdAt G hh k a v) {n : Nat} (hn : n ≤ 6) (hv1 : v 1 = nI n) (hW : ∀ j, j < 54 → a 17 j = wdA j) (sX : Nat) (c9 : AA) (u9 : VV) (hT : Tl n c9 u9 (fun j => a 0 (847 + j)) (a 3) (a 4) (v 1) (v 2)) : EVi G mX5_wheel [.ref (ad G k)] hh (fun y h1 => if (mrd (a 7) L n).1 = true then y = nI (mrd (a 7) L n).2.2 ∧ ∃ a' v', MdAt G h1 k a' v' ∧ Fr k (k + 11) hh h1 ∧ whP a a' v' (rdL (a 7) L 24 sX 0 c9 u9 0).2.2.1 (rdL (a 7) L 24 sX 0 c9 u9 0).2.2.2 else y = -4 ∧ ∃ a' v', MdAt G h1 k a' v' ∧ Fr k (k + 11) hh h1 ∧ kqR a v a' v' ∧ sdM a v a' v') := by
  refine EV.of [(0, .ref (ad G k))] (by decide +kernel) (Nat.le_of_ble_eq_true rfl) rfl ?_
  have hF : Fr k (k + 11) hh hh := Fr.rf
  refine R_aload_n dX5_wheel_0 rfl ?_
  refine R_iconst (v := 0) dX5_wheel_1 (by decide) ?_
  refine R_callVi dX5_wheel_2 cv_X5_132 ⟨by decide, by decide⟩ (m_reads G hh hL hl h hn hv1 hW false 0 a v (fun q9 => Bool.noConfusion q9)) h.1 rfl rfl rfl (Nat.le_of_ble_eq_true rfl) (fun y hh hw9 => ?_)
  obtain ⟨rfl, a', v', h, hF1, f11, f14, hK, hS, _⟩ := hw9
  have hF := hF.tr hF1 (by omega) (by omega)
  refine R_if_ne (tgt := 11) dX5_wheel_5 (by decide) (fun c5 => ?_) (fun c5 => ?_)
  · have hM : (mrd (a 7) L n).1 = true := bl_t c5
    have h7 : a' 7 = a 7 := hK.1 7 (by decide) (by decide) (by decide) (by decide)
    obtain ⟨s0, s3, s4, s1, s2⟩ := hS rfl
    refine R_aload_n dX5_wheel_11 rfl ?_
    refine R_sipush (v := 847) dX5_wheel_12 (by decide) ?_
    refine R_iconst (v := 0) dX5_wheel_15 (by decide) ?_
    refine R_callVv dX5_wheel_16 cv_X5_44 ⟨by decide, by decide⟩ (m_copyRow G hh h 847 0 (by omega) (by omega) (by omega)) h.1 rfl rfl rfl (Nat.le_of_ble_eq_true rfl) (fun hh hw => ?_)
    obtain ⟨h, hF1⟩ := hw
    have hF := hF.tr hF1 (by omega) (by omega)
    refine R_aload_n dX5_wheel_19 rfl ?_
    have hT1 : TlM n c9 u9 (va_up a' 0 (cpR (a' 0) 847 0 77)) v' := by
      show Tl n c9 u9 (cpR (a' 0) 847 0 77) (a' 3) (a' 4) (v' 1) (v' 2)
      rw [s3, s4, s1, s2, s0]
      exact hT.cg (fun j hj => by have := cpR_in (r := a 0) (x := 847) (y := 0) (n := 77) (j := j) (by omega); rw [Nat.zero_add] at this; exact this)
    refine R_iconst (v := 1) dX5_wheel_20 (by decide) ?_
    refine R_callVi dX5_wheel_21 cv_X5_132 ⟨by decide, by decide⟩ (m_reads G hh hL ((hK.2.2 8 (by decide) (by decide) (by decide)).trans hl) h hn (s1.trans hv1) (fun j hj => by rw [show (va_up a' 0 (cpR (a' 0) 847 0 77)) 17 = a' 17 from rfl, hK.1 17 (by decide) (by decide) (by decide) (by decide)]; exact hW j hj) true sX c9 u9 (fun _ => hT1)) h.1 rfl rfl rfl (Nat.le_of_ble_eq_true rfl) (fun y hh hw9 => ?_)
    rw [show (va_up a' 0 (cpR (a' 0) 847 0 77)) 7 = a 7 from h7] at hw9
    obtain ⟨rfl, a2, v2, h, hF1, g11, g14, gK, _, gT⟩ := hw9
    obtain ⟨n', hT2⟩ := gT rfl hM
    have hF := hF.tr hF1 (by omega) (by omega)
    refine R_pop dX5_wheel_24 rfl ?_
    refine R_aload_n dX5_wheel_25 rfl ?_
    refine R_iconst (v := 0) dX5_wheel_26 (by decide) ?_
    refine R_sipush (v := 847) dX5_wheel_27 (by decide) ?_
    refine R_callVv dX5_wheel_30 cv_X5_44 ⟨by decide, by decide⟩ (m_copyRow G hh h 0 847 (by omega) (by omega) (by omega)) h.1 rfl rfl rfl (Nat.le_of_ble_eq_true rfl) (fun hh hw => ?_)
    obtain ⟨h, hF1⟩ := hw
    have hF := hF.tr hF1 (by omega) (by omega)
    have hrow : ∀ j, j < 77 → cpR (a2 0) 0 847 77 j = cpR (a2 0) 0 847 77 (847 + j) := fun j hj => by rw [cpR_in hj, cpR_out (by omega), Nat.zero_add]
    have hT2 : Tl n' (rdL (a 7) L 24 sX 0 c9 u9 0).2.2.1 (rdL (a 7) L 24 sX 0 c9 u9 0).2.2.2 (fun j => cpR (a2 0) 0 847 77 (847 + j)) (a2 3) (a2 4) (v2 1) (v2 2) := hT2.cg (fun j hj => by show cpR (a2 0) 0 847 77 (847 + j) = a2 0 j; rw [cpR_in (by omega), Nat.zero_add])
    have g7 : a2 7 = a 7 := (gK.1 7 (by decide) (by decide) (by decide) (by decide)).trans (hK.1 7 (by decide) (by decide) (by decide) (by decide))
    have h17 : a2 17 = a 17 := (gK.1 17 (by decide) (by decide) (by decide) (by decide)).trans (hK.1 17 (by decide) (by decide) (by decide) (by decide))
    refine R_aload_n dX5_wheel_33 rfl ?_
    refine R_iconst (v := 0) dX5_wheel_34 (by decide) ?_
    refine Md_put8 dX5_wheel_35 pf_X5_61 h (fun hh h hF1 => ?_)
    have hF := hF.tr hF1 (by omega) (by omega)
    refine R_aload_n dX5_wheel_38 rfl ?_
    refine R_iconst (v := 0) dX5_wheel_39 (by decide) ?_
    refine Md_put5 dX5_wheel_40 pf_X5_136 h (fun hh h hF1 => ?_)
    have hF := hF.tr hF1 (by omega) (by omega)
    refine R_aload_n dX5_wheel_43 rfl ?_
    refine R_get dX5_wheel_44 gf_X5_19 h.1 rfl ?_
    refine R_iconst (v := 0) dX5_wheel_47 (by decide) ?_
    refine R_iconst (v := 0) dX5_wheel_48 (by decide) ?_
    refine Md_ast6N dX5_wheel_49 h (by first | omega | decide) (fun hh h hF1 => ?_)
    have hF := hF.tr hF1 (by omega) (by omega)
    refine R_aload_n dX5_wheel_50 rfl ?_
    refine R_get dX5_wheel_51 gf_X5_19 h.1 rfl ?_
    refine R_iconst (v := 1) dX5_wheel_54 (by decide) ?_
    refine R_iconst (v := 0) dX5_wheel_55 (by decide) ?_
    refine Md_ast6N dX5_wheel_56 h (by first | omega | decide) (fun hh h hF1 => ?_)
    have hF := hF.tr hF1 (by omega) (by omega)
    refine R_iconst (v := 0) dX5_wheel_57 (by decide) ?_
    refine R_istore_n dX5_wheel_58 (by decide) ?_
    refine R_iload_n dX5_wheel_59 rfl ?_
    refine R_iconst (v := 3) dX5_wheel_60 (by decide) ?_
    refine R_icmp_ge (tgt := 77) dX5_wheel_61 (by decide) (fun c61 => absurd c61 (by decide)) (fun c61 => ?_)
    refine R_aload_n dX5_wheel_64 rfl ?_
    refine R_get dX5_wheel_65 gf_X5_26 h.1 rfl ?_
    refine R_iload_n dX5_wheel_68 rfl ?_
    refine R_iconst (v := (-1)) dX5_wheel_69 (by decide) ?_
    refine Md_ast9N dX5_wheel_70 h (by first | omega | decide) (fun hh h hF1 => ?_)
    have hF := hF.tr hF1 (by omega) (by omega)
    refine R_iinc (y := nI (0 + 1)) dX5_wheel_71 rfl (by decide) (nI_s (0)) ?_
    refine R_goto (tgt := 59) dX5_wheel_74 (by decide) ?_
    refine R_iload_n dX5_wheel_59 rfl ?_
    refine R_iconst (v := 3) dX5_wheel_60 (by decide) ?_
    refine R_icmp_ge (tgt := 77) dX5_wheel_61 (by decide) (fun c61 => absurd c61 (by decide)) (fun c61 => ?_)
    refine R_aload_n dX5_wheel_64 rfl ?_
    refine R_get dX5_wheel_65 gf_X5_26 h.1 rfl ?_
    refine R_iload_n dX5_wheel_68 rfl ?_
    refine R_iconst (v := (-1)) dX5_wheel_69 (by decide) ?_
    refine Md_ast9N dX5_wheel_70 h (by first | omega | decide) (fun hh h hF1 => ?_)
    have hF := hF.tr hF1 (by omega) (by omega)
    refine R_iinc (y := nI (0 + 1 + 1)) dX5_wheel_71 rfl (by decide) (nI_s (0 + 1)) ?_
    refine R_goto (tgt := 59) dX5_wheel_74 (by decide) ?_
    refine R_iload_n dX5_wheel_59 rfl ?_
    refine R_iconst (v := 3) dX5_wheel_60 (by decide) ?_
    refine R_icmp_ge (tgt := 77) dX5_wheel_61 (by decide) (fun c61 => absurd c61 (by decide)) (fun c61 => ?_)
    refine R_aload_n dX5_wheel_64 rfl ?_
    refine R_get dX5_wheel_65 gf_X5_26 h.1 rfl ?_
    refine R_iload_n dX5_wheel_68 rfl ?_
    refine R_iconst (v := (-1)) dX5_wheel_69 (by decide) ?_
    refine Md_ast9N dX5_wheel_70 h (by first | omega | decide) (fun hh h hF1 => ?_)
    have hF := hF.tr hF1 (by omega) (by omega)
    refine R_iinc (y := nI (0 + 1 + 1 + 1)) dX5_wheel_71 rfl (by decide) (nI_s (0 + 1 + 1)) ?_
    refine R_goto (tgt := 59) dX5_wheel_74 (by decide) ?_
    refine R_iload_n dX5_wheel_59 rfl ?_
    refine R_iconst (v := 3) dX5_wheel_60 (by decide) ?_
    refine R_icmp_ge (tgt := 77) dX5_wheel_61 (by decide) (fun c61 => ?_) (fun c61 => absurd (by decide) c61)
    refine R_aload_n dX5_wheel_77 rfl ?_
    refine R_get dX5_wheel_78 gf_X5_126 h.1 rfl ?_
    exact R_iret dX5_wheel_81 rfl (⟨_, rfl, by (dsimp only; rw [if_pos hM]; exact ⟨g14, _, _, h, hF, ⟨n', hT2⟩, hrow, rfl, rfl, fun i hi => by (rcases (show i = 0 ∨ i = 1 by omega) with rfl | rfl <;> rfl), fun t ht => by (rcases (show t = 0 ∨ t = 1 ∨ t = 2 by omega) with rfl | rfl | rfl <;> rfl), h17, g7⟩)⟩)
  · refine R_bipush (v := (-4)) dX5_wheel_8 (by decide) ?_
    exact R_iret dX5_wheel_10 rfl (⟨_, rfl, by (dsimp only; rw [if_neg (bl_f (Classical.not_not.mp c5))]; exact ⟨rfl, a', v', h, hF, hK, hS rfl⟩)⟩)
