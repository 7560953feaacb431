/-- the reference's token begins at s and ends ahead of e -/
def vfb (v : VV) (s e : Nat) : VV := va_up (va_up v 11 (nI s)) 12 (nI e)
theorem vfb_1 (v : VV) (s e j : Nat) : va_up (vfb v s e) 11 (nI j) = vfb v j e := by
  funext i
  simp only [vfb, va_up]
  by_cases h1 : i = 11
  · subst h1; simp
  · rw [if_neg h1, if_neg h1, if_neg h1]
theorem vfb_2 (v : VV) (s e j : Nat) : va_up (vfb v s e) 12 (nI j) = vfb v s j := by
  funext i
  simp only [vfb, va_up]
  by_cases h1 : i = 12
  · rw [if_pos h1, if_pos h1]
  · rw [if_neg h1, if_neg h1, if_neg h1]
theorem vfb_self {v : VV} {s e : Nat} (h1 : v 11 = nI s) (h2 : v 12 = nI e) : vfb v s e = v := by
  funext i
  simp only [vfb, va_up]
  by_cases q : i = 12
  · rw [if_pos q, q, h2]
  · rw [if_neg q]
    by_cases r : i = 11
    · rw [if_pos r, r, h1]
    · rw [if_neg r]
theorem spn_all (p : Nat → Bool) : ∀ (d i j : Nat), i ≤ j → j < spn p i d → p j = true
  | 0, i, j, h1, h2 => absurd h2 (by show ¬ j < i; omega)
  | d + 1, i, j, h1, h2 => by
    have h2 : j < (if p i = true then spn p (i + 1) d else i) := h2
    by_cases q : p i = true
    · rw [if_pos q] at h2
      rcases Nat.eq_or_lt_of_le h1 with e | e
      · rw [← e]; exact q
      · exact spn_all p d (i + 1) j e h2
    · rw [if_neg q] at h2; omega
theorem sm_ne0 {x : Int32} (h : smB x = true) : ¬ x = 0 := fun e => by rw [e] at h; exact absurd h (by decide)
theorem dg_ne0 {x : Int32} (h : dgB x = true) : ¬ x = 0 := fun e => by rw [e] at h; exact absurd h (by decide)
theorem sm_dg {x : Int32} (h : smB x = true) : ¬ dgB x = true := fun q => by
  have h1 := (of_decide_eq_true h).1
  have h2 := (of_decide_eq_true q).2
  exact absurd (Int32.le_trans h1 h2) (by decide)
theorem tk_lt {f : Nat → Int32} {L s : Nat} (h : s < tkE f L s) : s < L := by
  rcases Nat.lt_or_ge s L with q | q
  · exact q
  · unfold tkE at h; rw [if_pos q] at h; omega
theorem tk_sm {f : Nat → Int32} {L s : Nat} (hs : s < L) (h : smB (f s) = true) : tkK f L s = 1 ∧ ∀ j, s ≤ j → j < tkE f L s → smB (f j) = true := by
  constructor
  · unfold tkK; rw [if_neg (by omega), if_pos h]
  · intro j h1 h2
    unfold tkE at h2
    rw [if_neg (by omega), if_pos h] at h2
    exact spn_all _ _ _ _ h1 h2
theorem tk_dg {f : Nat → Int32} {L s : Nat} (hs : s < L) (h : dgB (f s) = true) : tkK f L s = 2 ∧ s < tkE f L s ∧ ∀ j, s ≤ j → j < tkE f L s → dgB (f j) = true := by
  have hn : ¬ smB (f s) = true := fun q => sm_dg q h
  have e : tkE f L s = spn (fun j => dgB (f j)) s (L - s) := by unfold tkE; rw [if_neg (by omega), if_neg hn, if_pos h]
  refine ⟨by unfold tkK; rw [if_neg (by omega), if_neg hn, if_pos h], ?_, fun j h1 h2 => ?_⟩
  · rw [e, show L - s = (L - s - 1) + 1 by omega]
    show s < (if dgB (f s) = true then spn (fun j => dgB (f j)) (s + 1) (L - s - 1) else s)
    rw [if_pos h]
    have := spn_ge (fun j => dgB (f j)) (L - s - 1) (s + 1)
    omega
  · rw [e] at h2; exact spn_all _ _ _ _ h1 h2
theorem wd_eq {f : Nat → Int32} {L s w : Nat} (hw : w < 9) : nmL (fun j => f (s + j)) (tkE f L s - s) w 0 6 (decide (1 ≤ tkE f L s - s ∧ tkE f L s - s ≤ 6)) = wdT f L s (wix w) := by
  unfold wdT
  by_cases q : tkK f L s = 1
  · have hs : s < L := by
      rcases Nat.lt_or_ge s L with r | r
      · exact r
      · unfold tkK at q; rw [if_pos r] at q; exact absurd q (by decide)
    have h1 : smB (f s) = true := by
      cases r : smB (f s)
      · unfold tkK at q; rw [if_neg (by omega), r, if_neg (by decide)] at q
        split at q <;> exact absurd q (by decide)
      · rfl
    rw [decide_eq_true q, Bool.true_and]
    exact nm_isW hw (fun j hj => sm_ne0 ((tk_sm hs h1).2 (s + j) (by omega) (by omega)))
  · rw [decide_eq_false q, Bool.false_and, Bool.eq_false_iff]
    intro r
    obtain ⟨⟨r1, r2⟩, r3⟩ := nm_iff.mp r
    have hs : s < L := tk_lt (f := f) (by omega)
    have a1 := r3 0 (by omega)
    rw [if_pos (by omega), Nat.add_zero] at a1
    obtain ⟨t1, t2, t3⟩ := wd_tab w hw
    have a2 := ((t3 0 (by omega)).1 (by omega)).2.2
    rw [Nat.add_zero, a1] at a2
    exact q (tk_sm hs a2).1
theorem spn_s {p : Nat → Bool} {i d : Nat} (h : p i = true) : spn p i (d + 1) = spn p (i + 1) d := if_pos h
theorem spn_n {p : Nat → Bool} {i d : Nat} (h : ¬ p i = true) : spn p i (d + 1) = i := if_neg h
set_option maxRecDepth 4000 in
theorem l_mskip (G : GG) (hh0 : HH) {k : Nat} {a : AA} {v : VV} {L : Nat} (hL : L ≤ 200) (hl : v 8 = nI L) {e : Nat} {Q : QQ} : ∀ (d i : Nat) (hh : HH), i + d = L → MdAt G hh k a (vfb v i e) → Fr k (k + 11) hh0 hh → (∀ hh, MdAt G hh k a (vfb v (spn (fun j => decide (a 7 j = 32)) i d) e) → Fr k (k + 11) hh0 hh → RR G mX5_nextToken 46 [(0, .ref (ad G k))] [] hh Q) → RR G mX5_nextToken 8 [(0, .ref (ad G k))] [] hh (Q) := by
  intro d
  induction d with
  | zero =>
    intro i hh hi h hF K
    refine R_aload_n dX5_nextToken_8 rfl ?_
    refine R_get dX5_nextToken_9 gf_X5_75 h.1 rfl ?_
    refine RR.top (y := nI (i)) (rfl) ?_
    refine R_aload_n dX5_nextToken_12 rfl ?_
    refine R_get dX5_nextToken_13 gf_X5_61 h.1 rfl ?_
    refine RR.top (y := nI (L)) (hl) ?_
    refine R_icmp_ge (tgt := 46) dX5_nextToken_16 (by decide) (fun c16 => ?_) (fun c16 => absurd (nI_le (by omega) (by omega)) c16)
    exact RR.pick [0] rfl (K hh h hF)
  | succ d ih =>
    intro i hh hi h hF K
    refine R_aload_n dX5_nextToken_8 rfl ?_
    refine R_get dX5_nextToken_9 gf_X5_75 h.1 rfl ?_
    refine RR.top (y := nI (i)) (rfl) ?_
    refine R_aload_n dX5_nextToken_12 rfl ?_
    refine R_get dX5_nextToken_13 gf_X5_61 h.1 rfl ?_
    refine RR.top (y := nI (L)) (hl) ?_
    refine R_icmp_ge (tgt := 46) dX5_nextToken_16 (by decide) (fun c16 => absurd c16 (nI_ge (by omega) (by omega))) (fun c16 => ?_)
    refine R_aload_n dX5_nextToken_19 rfl ?_
    refine R_get dX5_nextToken_20 gf_X5_23 h.1 rfl ?_
    refine R_aload_n dX5_nextToken_23 rfl ?_
    refine R_get dX5_nextToken_24 gf_X5_75 h.1 rfl ?_
    refine RR.top (y := nI (i)) (rfl) ?_
    refine R_ialdN dX5_nextToken_27 h.a7 (by first | omega | decide) (by decide) ?_
    refine R_bipush (v := 32) dX5_nextToken_28 (by decide) ?_
    refine R_icmp_ne (tgt := 46) dX5_nextToken_30 (by decide) (fun c30 => ?_) (fun c30 => ?_)
    · rw [spn_n (p := fun j => decide (a 7 j = 32)) ((fun q9 => c30 (of_decide_eq_true q9)))] at K
      exact RR.pick [0] rfl (K hh h hF)
    · refine R_aload_n dX5_nextToken_33 rfl ?_
      refine R_dup dX5_nextToken_34 rfl ?_
      refine R_get dX5_nextToken_35 gf_X5_75 h.1 rfl ?_
      refine RR.top (y := nI (i)) (rfl) ?_
      refine R_iconst (v := 1) dX5_nextToken_38 (by decide) ?_
      refine R_iadd dX5_nextToken_39 ?_
      refine RR.top (y := nI (i + 1)) (nI_add (i) (1)) ?_
      refine Md_put11 dX5_nextToken_40 pf_X5_75 h (fun hh h hF1 => ?_)
      have hF := hF.tr hF1 (by omega) (by omega)
      refine R_goto (tgt := 8) dX5_nextToken_43 (by decide) ?_
      have h := h.cg rfl (vfb_1 _ _ _ _)
      refine RR.pick [0] rfl (ih (i + 1) hh (by omega) h hF ?_)
      rw [spn_s (p := fun j => decide (a 7 j = 32)) (decide_eq_true (Classical.not_not.mp c30))] at K
      exact K
set_option maxRecDepth 4000 in
theorem l_msm (G : GG) (hh0 : HH) {k : Nat} {a : AA} {v : VV} {L : Nat} (hL : L ≤ 200) (hl : v 8 = nI L) {s : Nat} {Q : QQ} : ∀ (d i : Nat) (hh : HH), i + d = L → MdAt G hh k a (vfb v s i) → Fr k (k + 11) hh0 hh → (∀ hh, MdAt G hh k a (vfb v s (spn (fun j => smB (a 7 j)) i d)) → Fr k (k + 11) hh0 hh → RR G mX5_nextToken 204 [(0, .ref (ad G k))] [] hh Q) → RR G mX5_nextToken 100 [(0, .ref (ad G k))] [] hh (Q) := by
  intro d
  induction d with
  | zero =>
    intro i hh hi h hF K
    refine R_aload_n dX5_nextToken_100 rfl ?_
    refine R_get dX5_nextToken_101 gf_X5_72 h.1 rfl ?_
    refine RR.top (y := nI (i)) (rfl) ?_
    refine R_aload_n dX5_nextToken_104 rfl ?_
    refine R_get dX5_nextToken_105 gf_X5_61 h.1 rfl ?_
    refine RR.top (y := nI (L)) (hl) ?_
    refine R_icmp_ge (tgt := 204) dX5_nextToken_108 (by decide) (fun c108 => ?_) (fun c108 => absurd (nI_le (by omega) (by omega)) c108)
    exact RR.pick [0] rfl (K hh h hF)
  | succ d ih =>
    intro i hh hi h hF K
    refine R_aload_n dX5_nextToken_100 rfl ?_
    refine R_get dX5_nextToken_101 gf_X5_72 h.1 rfl ?_
    refine RR.top (y := nI (i)) (rfl) ?_
    refine R_aload_n dX5_nextToken_104 rfl ?_
    refine R_get dX5_nextToken_105 gf_X5_61 h.1 rfl ?_
    refine RR.top (y := nI (L)) (hl) ?_
    refine R_icmp_ge (tgt := 204) dX5_nextToken_108 (by decide) (fun c108 => absurd c108 (nI_ge (by omega) (by omega))) (fun c108 => ?_)
    refine R_aload_n dX5_nextToken_111 rfl ?_
    refine R_get dX5_nextToken_112 gf_X5_23 h.1 rfl ?_
    refine R_aload_n dX5_nextToken_115 rfl ?_
    refine R_get dX5_nextToken_116 gf_X5_72 h.1 rfl ?_
    refine RR.top (y := nI (i)) (rfl) ?_
    refine R_ialdN dX5_nextToken_119 h.a7 (by first | omega | decide) (by decide) ?_
    refine R_callSp dX5_nextToken_120 cs_X5_78 ⟨by decide, by decide⟩ (d_isSmall G hh (a 7 i)) rfl rfl (Nat.le_of_ble_eq_true rfl) ?_
    refine R_if_eq (tgt := 204) dX5_nextToken_123 (by decide) (fun c123 => ?_) (fun c123 => ?_)
    · rw [spn_n (p := fun j => smB (a 7 j)) (bl_f c123)] at K
      exact RR.pick [0] rfl (K hh h hF)
    · refine R_aload_n dX5_nextToken_126 rfl ?_
      refine R_dup dX5_nextToken_127 rfl ?_
      refine R_get dX5_nextToken_128 gf_X5_72 h.1 rfl ?_
      refine RR.top (y := nI (i)) (rfl) ?_
      refine R_iconst (v := 1) dX5_nextToken_131 (by decide) ?_
      refine R_iadd dX5_nextToken_132 ?_
      refine RR.top (y := nI (i + 1)) (nI_add (i) (1)) ?_
      refine Md_put12 dX5_nextToken_133 pf_X5_72 h (fun hh h hF1 => ?_)
      have hF := hF.tr hF1 (by omega) (by omega)
      refine R_goto (tgt := 100) dX5_nextToken_136 (by decide) ?_
      have h := h.cg rfl (vfb_2 _ _ _ _)
      refine RR.pick [0] rfl (ih (i + 1) hh (by omega) h hF ?_)
      rw [spn_s (p := fun j => smB (a 7 j)) (bl_t c123)] at K
      exact K
set_option maxRecDepth 4000 in
theorem l_mdg (G : GG) (hh0 : HH) {k : Nat} {a : AA} {v : VV} {L : Nat} (hL : L ≤ 200) (hl : v 8 = nI L) {s : Nat} {Q : QQ} : ∀ (d i : Nat) (hh : HH), i + d = L → MdAt G hh k a (vfb v s i) → Fr k (k + 11) hh0 hh → (∀ hh, MdAt G hh k a (vfb v s (spn (fun j => dgB (a 7 j)) i d)) → Fr k (k + 11) hh0 hh → RR G mX5_nextToken 204 [(0, .ref (ad G k))] [] hh Q) → RR G mX5_nextToken 165 [(0, .ref (ad G k))] [] hh (Q) := by
  intro d
  induction d with
  | zero =>
    intro i hh hi h hF K
    refine R_aload_n dX5_nextToken_165 rfl ?_
    refine R_get dX5_nextToken_166 gf_X5_72 h.1 rfl ?_
    refine RR.top (y := nI (i)) (rfl) ?_
    refine R_aload_n dX5_nextToken_169 rfl ?_
    refine R_get dX5_nextToken_170 gf_X5_61 h.1 rfl ?_
    refine RR.top (y := nI (L)) (hl) ?_
    refine R_icmp_ge (tgt := 204) dX5_nextToken_173 (by decide) (fun c173 => ?_) (fun c173 => absurd (nI_le (by omega) (by omega)) c173)
    exact RR.pick [0] rfl (K hh h hF)
  | succ d ih =>
    intro i hh hi h hF K
    refine R_aload_n dX5_nextToken_165 rfl ?_
    refine R_get dX5_nextToken_166 gf_X5_72 h.1 rfl ?_
    refine RR.top (y := nI (i)) (rfl) ?_
    refine R_aload_n dX5_nextToken_169 rfl ?_
    refine R_get dX5_nextToken_170 gf_X5_61 h.1 rfl ?_
    refine RR.top (y := nI (L)) (hl) ?_
    refine R_icmp_ge (tgt := 204) dX5_nextToken_173 (by decide) (fun c173 => absurd c173 (nI_ge (by omega) (by omega))) (fun c173 => ?_)
    refine R_aload_n dX5_nextToken_176 rfl ?_
    refine R_get dX5_nextToken_177 gf_X5_23 h.1 rfl ?_
    refine R_aload_n dX5_nextToken_180 rfl ?_
    refine R_get dX5_nextToken_181 gf_X5_72 h.1 rfl ?_
    refine RR.top (y := nI (i)) (rfl) ?_
    refine R_ialdN dX5_nextToken_184 h.a7 (by first | omega | decide) (by decide) ?_
    refine R_callSp dX5_nextToken_185 cs_X5_82 ⟨by decide, by decide⟩ (d_isDigit G hh (a 7 i)) rfl rfl (Nat.le_of_ble_eq_true rfl) ?_
    refine R_if_eq (tgt := 204) dX5_nextToken_188 (by decide) (fun c188 => ?_) (fun c188 => ?_)
    · rw [spn_n (p := fun j => dgB (a 7 j)) (bl_f c188)] at K
      exact RR.pick [0] rfl (K hh h hF)
    · refine R_aload_n dX5_nextToken_191 rfl ?_
      refine R_dup dX5_nextToken_192 rfl ?_
      refine R_get dX5_nextToken_193 gf_X5_72 h.1 rfl ?_
      refine RR.top (y := nI (i)) (rfl) ?_
      refine R_iconst (v := 1) dX5_nextToken_196 (by decide) ?_
      refine R_iadd dX5_nextToken_197 ?_
      refine RR.top (y := nI (i + 1)) (nI_add (i) (1)) ?_
      refine Md_put12 dX5_nextToken_198 pf_X5_72 h (fun hh h hF1 => ?_)
      have hF := hF.tr hF1 (by omega) (by omega)
      refine R_goto (tgt := 165) dX5_nextToken_201 (by decide) ?_
      have h := h.cg rfl (vfb_2 _ _ _ _)
      refine RR.pick [0] rfl (ih (i + 1) hh (by omega) h hF ?_)
      rw [spn_s (p := fun j => dgB (a 7 j)) (bl_t c188)] at K
      exact K
set_option maxRecDepth 4000 in
theorem m_nextToken (G : GG) (hh : HH) {k : Nat} {a : AA} {v : VV} {L : Nat} (hL : L ≤ 200) (hl : v 8 = nI L) {s e : Nat} (he : e ≤ L) (h : MdAt G hh k a (vfb v s e)) : EVv G mX5_nextToken [.ref (ad G k)] hh (fun h1 => MdAt G h1 k a (vfb v (tkS (a 7) L e) (tkE (a 7) L (tkS (a 7) L e))) ∧ Fr k (k + 11) hh h1) := by
  refine EV.of [(0, .ref (ad G k))] (by decide +kernel) (Nat.le_of_ble_eq_true rfl) rfl ?_
  have hF : Fr k (k + 11) hh hh := Fr.rf
  refine R_aload_n dX5_nextToken_0 rfl ?_
  refine R_aload_n dX5_nextToken_1 rfl ?_
  refine R_get dX5_nextToken_2 gf_X5_72 h.1 rfl ?_
  refine RR.top (y := nI e) rfl ?_
  refine Md_put11 dX5_nextToken_5 pf_X5_75 h (fun hh h hF1 => ?_)
  have hF := hF.tr hF1 (by omega) (by omega)
  refine RR.pick [0] rfl (l_mskip G _ hL hl (L - e) e hh (by omega) (h.cg rfl (vfb_1 _ _ _ _)) hF (fun hh h hF => ?_))
  obtain ⟨S, hS⟩ : ∃ S, S = tkS (a 7) L e := ⟨_, rfl⟩
  have hSL : S ≤ L := hS ▸ tkS_le (a 7) he
  have h : MdAt G hh k a (vfb v S e) := by (rw [hS]; exact h)
  refine R_aload_n dX5_nextToken_46 rfl ?_
  refine R_aload_n dX5_nextToken_47 rfl ?_
  refine R_get dX5_nextToken_48 gf_X5_75 h.1 rfl ?_
  refine RR.top (y := nI (S)) (rfl) ?_
  refine R_aload_n dX5_nextToken_51 rfl ?_
  refine R_get dX5_nextToken_52 gf_X5_61 h.1 rfl ?_
  refine RR.top (y := nI (L)) (hl) ?_
  refine R_icmp_ge (tgt := 67) dX5_nextToken_55 (by decide) (fun c55 => ?_) (fun c55 => ?_)
  · refine R_aload_n dX5_nextToken_67 rfl ?_
    refine R_get dX5_nextToken_68 gf_X5_75 h.1 rfl ?_
    refine RR.top (y := nI (S)) (rfl) ?_
    refine Md_put12 dX5_nextToken_71 pf_X5_72 h (fun hh h hF1 => ?_)
    have hF := hF.tr hF1 (by omega) (by omega)
    refine R_aload_n dX5_nextToken_74 rfl ?_
    refine R_get dX5_nextToken_75 gf_X5_75 h.1 rfl ?_
    refine RR.top (y := nI (S)) (rfl) ?_
    refine R_aload_n dX5_nextToken_78 rfl ?_
    refine R_get dX5_nextToken_79 gf_X5_61 h.1 rfl ?_
    refine RR.top (y := nI (L)) (hl) ?_
    refine R_icmp_ge (tgt := 139) dX5_nextToken_82 (by decide) (fun c82 => ?_) (fun c82 => absurd c55 c82)
    refine R_aload_n dX5_nextToken_139 rfl ?_
    refine R_get dX5_nextToken_140 gf_X5_75 h.1 rfl ?_
    refine RR.top (y := nI (S)) (rfl) ?_
    refine R_aload_n dX5_nextToken_143 rfl ?_
    refine R_get dX5_nextToken_144 gf_X5_61 h.1 rfl ?_
    refine RR.top (y := nI (L)) (hl) ?_
    refine R_icmp_ge (tgt := 204) dX5_nextToken_147 (by decide) (fun c147 => ?_) (fun c147 => absurd c55 c147)
    exact R_vret dX5_nextToken_204 rfl (⟨rfl, by (rw [← hS]; exact h.cg rfl ((vfb_2 _ _ _ _).trans (by rw [show tkE (a 7) L S = S from if_pos ((nI_leI (by omega) (by omega)).mp c55)]))), hF⟩)
  · refine R_aload_n dX5_nextToken_58 rfl ?_
    refine R_get dX5_nextToken_59 gf_X5_75 h.1 rfl ?_
    refine RR.top (y := nI (S)) (rfl) ?_
    refine R_iconst (v := 1) dX5_nextToken_62 (by decide) ?_
    refine R_iadd dX5_nextToken_63 ?_
    refine RR.top (y := nI (S + 1)) (nI_add (S) (1)) ?_
    refine R_goto (tgt := 71) dX5_nextToken_64 (by decide) ?_
    refine Md_put12 dX5_nextToken_71 pf_X5_72 h (fun hh h hF1 => ?_)
    have hF := hF.tr hF1 (by omega) (by omega)
    refine R_aload_n dX5_nextToken_74 rfl ?_
    refine R_get dX5_nextToken_75 gf_X5_75 h.1 rfl ?_
    refine RR.top (y := nI (S)) (rfl) ?_
    refine R_aload_n dX5_nextToken_78 rfl ?_
    refine R_get dX5_nextToken_79 gf_X5_61 h.1 rfl ?_
    refine RR.top (y := nI (L)) (hl) ?_
    refine R_icmp_ge (tgt := 139) dX5_nextToken_82 (by decide) (fun c82 => absurd c82 c55) (fun c82 => ?_)
    have hlt : S < L := Nat.lt_of_not_ge (fun q => c55 (nI_le q (by omega)))
    refine R_aload_n dX5_nextToken_85 rfl ?_
    refine R_get dX5_nextToken_86 gf_X5_23 h.1 rfl ?_
    refine R_aload_n dX5_nextToken_89 rfl ?_
    refine R_get dX5_nextToken_90 gf_X5_75 h.1 rfl ?_
    refine RR.top (y := nI (S)) (rfl) ?_
    refine R_ialdN dX5_nextToken_93 h.a7 (by first | omega | decide) (by decide) ?_
    refine R_callSp dX5_nextToken_94 cs_X5_78 ⟨by decide, by decide⟩ (d_isSmall G hh (a 7 S)) rfl rfl (Nat.le_of_ble_eq_true rfl) ?_
    refine R_if_eq (tgt := 139) dX5_nextToken_97 (by decide) (fun c97 => ?_) (fun c97 => ?_)
    · refine R_aload_n dX5_nextToken_139 rfl ?_
      refine R_get dX5_nextToken_140 gf_X5_75 h.1 rfl ?_
      refine RR.top (y := nI (S)) (rfl) ?_
      refine R_aload_n dX5_nextToken_143 rfl ?_
      refine R_get dX5_nextToken_144 gf_X5_61 h.1 rfl ?_
      refine RR.top (y := nI (L)) (hl) ?_
      refine R_icmp_ge (tgt := 204) dX5_nextToken_147 (by decide) (fun c147 => absurd c147 c55) (fun c147 => ?_)
      have hlt : S < L := Nat.lt_of_not_ge (fun q => c55 (nI_le q (by omega)))
      refine R_aload_n dX5_nextToken_150 rfl ?_
      refine R_get dX5_nextToken_151 gf_X5_23 h.1 rfl ?_
      refine R_aload_n dX5_nextToken_154 rfl ?_
      refine R_get dX5_nextToken_155 gf_X5_75 h.1 rfl ?_
      refine RR.top (y := nI (S)) (rfl) ?_
      refine R_ialdN dX5_nextToken_158 h.a7 (by first | omega | decide) (by decide) ?_
      refine R_callSp dX5_nextToken_159 cs_X5_82 ⟨by decide, by decide⟩ (d_isDigit G hh (a 7 S)) rfl rfl (Nat.le_of_ble_eq_true rfl) ?_
      refine R_if_eq (tgt := 204) dX5_nextToken_162 (by decide) (fun c162 => ?_) (fun c162 => ?_)
      · exact R_vret dX5_nextToken_204 rfl (⟨rfl, by (rw [← hS]; exact h.cg rfl ((vfb_2 _ _ _ _).trans (by rw [show tkE (a 7) L S = S + 1 from by (unfold tkE; rw [if_neg (fun q => c55 (nI_le q (by omega))), if_neg (bl_f c97), if_neg (bl_f c162)])]))), hF⟩)
      · refine RR.pick [0] rfl (l_mdg G _ hL hl (L - (S + 1)) (S + 1) hh (by omega) (h.cg rfl (vfb_2 _ _ _ _)) hF (fun hh h hF => ?_))
        have ee : tkE (a 7) L S = spn (fun j => dgB (a 7 j)) (S + 1) (L - (S + 1)) := by
          unfold tkE
          rw [if_neg (fun q => c55 (nI_le q (by omega))), if_neg (bl_f c97), if_pos (bl_t c162), show L - S = L - (S + 1) + 1 by (have : S < L := Nat.lt_of_not_ge (fun q => c55 (nI_le q (by omega))); omega)]
          exact spn_s (p := fun j => dgB (a 7 j)) (bl_t c162)
        rw [← ee] at h
        exact R_vret dX5_nextToken_204 rfl (⟨rfl, hS ▸ h, hF⟩)
    · refine RR.pick [0] rfl (l_msm G _ hL hl (L - (S + 1)) (S + 1) hh (by omega) (h.cg rfl (vfb_2 _ _ _ _)) hF (fun hh h hF => ?_))
      have ee : tkE (a 7) L S = spn (fun j => smB (a 7 j)) (S + 1) (L - (S + 1)) := by
        unfold tkE
        rw [if_neg (fun q => c55 (nI_le q (by omega))), if_pos (bl_t c97), show L - S = L - (S + 1) + 1 by (have : S < L := Nat.lt_of_not_ge (fun q => c55 (nI_le q (by omega))); omega)]
        exact spn_s (p := fun j => smB (a 7 j)) (bl_t c97)
      rw [← ee] at h
      exact R_vret dX5_nextToken_204 rfl (⟨rfl, hS ▸ h, hF⟩)
set_option maxRecDepth 4000 in
theorem l_misWord (G : GG) (hh : HH) {k : Nat} {a : AA} {v : VV} {L : Nat} (hL : L ≤ 200) (hl : v 8 = nI L) {s e : Nat} (hse : s ≤ e) (he : e ≤ L) (h : MdAt G hh k a (vfb v s e)) (hW : ∀ j, j < 54 → a 17 j = wdA j) {w : Nat} (hw : w < 9) : ∀ (d c : Nat) (is : Bool), c + d = 6 → RR G mX5_isWord 33 [(0, .ref (ad G k)), (1, .int (nI w)), (2, .int (bl is)), (3, .int (nI c))] [] hh (fun r9 h1 => ∃ y, r9 = some (.int y) ∧ (y = bl (nmL (fun j => a 7 (s + j)) (e - s) w c d is) ∧ h1 = hh)) := by
  intro d
  induction d with
  | zero =>
    intro c is hd
    refine R_iload_n dX5_isWord_33 rfl ?_
    refine R_bipush (v := 6) dX5_isWord_34 (by decide) ?_
    refine R_icmp_ge (tgt := 97) dX5_isWord_36 (by decide) (fun c36 => ?_) (fun c36 => absurd (nI_le (a := 6) (by omega) (by omega)) c36)
    refine R_iload_n dX5_isWord_97 rfl ?_
    exact R_zret dX5_isWord_98 rfl (by first | exact Or.inl rfl | exact Or.inr rfl | assumption | exact bl01 _ | omega) (⟨_, rfl, rfl, rfl⟩)
  | succ d ih =>
    intro c is hd
    refine R_iload_n dX5_isWord_33 rfl ?_
    refine R_bipush (v := 6) dX5_isWord_34 (by decide) ?_
    refine R_icmp_ge (tgt := 97) dX5_isWord_36 (by decide) (fun c36 => absurd c36 (nI_ge (b := 6) (by omega) (by decide))) (fun c36 => ?_)
    refine R_iload_n dX5_isWord_39 rfl ?_
    refine R_if_eq (tgt := 97) dX5_isWord_40 (by decide) (fun c40 => ?_) (fun c40 => ?_)
    · refine R_iload_n dX5_isWord_97 rfl ?_
      exact R_zret dX5_isWord_98 rfl (by first | exact Or.inl rfl | exact Or.inr rfl | assumption | exact bl01 _ | omega) (⟨_, rfl, by rw [show nmL (fun j => a 7 (s + j)) (e - s) w c (d + 1) is = false from if_neg (bl_f c40), show is = false from Bool.eq_false_iff.mpr (bl_f c40)], rfl⟩)
    · refine R_aload_n dX5_isWord_43 rfl ?_
      refine R_get dX5_isWord_44 gf_X5_35 h.1 rfl ?_
      refine R_bipush (v := 6) dX5_isWord_47 (by decide) ?_
      refine R_iload_n dX5_isWord_49 rfl ?_
      refine R_imul dX5_isWord_50 ?_
      refine RR.top (y := nI (6 * w)) (pk_mul (6) (w)) ?_
      refine R_iload_n dX5_isWord_51 rfl ?_
      refine R_iadd dX5_isWord_52 ?_
      refine RR.top (y := nI ((6 * w) + c)) (nI_add (6 * w) (c)) ?_
      refine R_ialdN dX5_isWord_53 h.a17 (by first | omega | decide) (by decide) ?_
      refine RR.top (y := wdA (6 * w + c)) (hW _ (by omega)) ?_
      refine R_aload_n dX5_isWord_54 rfl ?_
      refine R_get dX5_isWord_55 gf_X5_75 h.1 rfl ?_
      refine RR.top (y := nI (s)) (rfl) ?_
      refine R_iload_n dX5_isWord_58 rfl ?_
      refine R_iadd dX5_isWord_59 ?_
      refine RR.top (y := nI (s + c)) (nI_add (s) (c)) ?_
      refine R_aload_n dX5_isWord_60 rfl ?_
      refine R_get dX5_isWord_61 gf_X5_72 h.1 rfl ?_
      refine RR.top (y := nI (e)) (rfl) ?_
      refine R_icmp_ge (tgt := 81) dX5_isWord_64 (by decide) (fun c64 => ?_) (fun c64 => ?_)
      · refine R_iconst (v := 0) dX5_isWord_81 (by decide) ?_
        refine R_icmp_ne (tgt := 89) dX5_isWord_82 (by decide) (fun c82 => ?_) (fun c82 => ?_)
        · refine R_iconst (v := 0) dX5_isWord_89 (by decide) ?_
          refine R_istore_n dX5_isWord_90 (by decide) ?_
          refine R_iinc (y := nI (c + 1)) dX5_isWord_91 rfl (by decide) (nI_s (c)) ?_
          refine R_goto (tgt := 33) dX5_isWord_94 (by decide) ?_
          have e9 : nmL (fun j => a 7 (s + j)) (e - s) w c (d + 1) is = nmL (fun j => a 7 (s + j)) (e - s) w (c + 1) d false := (if_pos (bl_t c40)).trans (by rw [decide_eq_false (by rw [if_neg (by have := (nI_leI (by omega) (by omega)).mp c64; omega)]; exact c82)])
          rw [e9]
          exact RR.pick [2, 3, 1, 0] rfl (ih (c + 1) false (by omega))
        · refine R_iconst (v := 1) dX5_isWord_85 (by decide) ?_
          refine R_goto (tgt := 90) dX5_isWord_86 (by decide) ?_
          refine R_istore_n dX5_isWord_90 (by decide) ?_
          refine R_iinc (y := nI (c + 1)) dX5_isWord_91 rfl (by decide) (nI_s (c)) ?_
          refine R_goto (tgt := 33) dX5_isWord_94 (by decide) ?_
          have e9 : nmL (fun j => a 7 (s + j)) (e - s) w c (d + 1) is = nmL (fun j => a 7 (s + j)) (e - s) w (c + 1) d true := (if_pos (bl_t c40)).trans (by rw [decide_eq_true (by rw [if_neg (by have := (nI_leI (by omega) (by omega)).mp c64; omega)]; exact Classical.not_not.mp c82)])
          rw [e9]
          exact RR.pick [2, 3, 1, 0] rfl (ih (c + 1) true (by omega))
      · have hlt : s + c < e := Nat.lt_of_not_ge (fun q9 => c64 (nI_le q9 (by omega)))
        refine R_aload_n dX5_isWord_67 rfl ?_
        refine R_get dX5_isWord_68 gf_X5_23 h.1 rfl ?_
        refine R_aload_n dX5_isWord_71 rfl ?_
        refine R_get dX5_isWord_72 gf_X5_75 h.1 rfl ?_
        refine RR.top (y := nI (s)) (rfl) ?_
        refine R_iload_n dX5_isWord_75 rfl ?_
        refine R_iadd dX5_isWord_76 ?_
        refine RR.top (y := nI (s + c)) (nI_add (s) (c)) ?_
        refine R_ialdN dX5_isWord_77 h.a7 (by first | omega | decide) (by decide) ?_
        refine R_goto (tgt := 82) dX5_isWord_78 (by decide) ?_
        refine R_icmp_ne (tgt := 89) dX5_isWord_82 (by decide) (fun c82 => ?_) (fun c82 => ?_)
        · refine R_iconst (v := 0) dX5_isWord_89 (by decide) ?_
          refine R_istore_n dX5_isWord_90 (by decide) ?_
          refine R_iinc (y := nI (c + 1)) dX5_isWord_91 rfl (by decide) (nI_s (c)) ?_
          refine R_goto (tgt := 33) dX5_isWord_94 (by decide) ?_
          have e9 : nmL (fun j => a 7 (s + j)) (e - s) w c (d + 1) is = nmL (fun j => a 7 (s + j)) (e - s) w (c + 1) d false := (if_pos (bl_t c40)).trans (by rw [decide_eq_false (by rw [if_pos (by have : ¬ e ≤ s + c := fun q9 => c64 (nI_le q9 (by omega)); omega)]; exact c82)])
          rw [e9]
          exact RR.pick [2, 3, 1, 0] rfl (ih (c + 1) false (by omega))
        · refine R_iconst (v := 1) dX5_isWord_85 (by decide) ?_
          refine R_goto (tgt := 90) dX5_isWord_86 (by decide) ?_
          refine R_istore_n dX5_isWord_90 (by decide) ?_
          refine R_iinc (y := nI (c + 1)) dX5_isWord_91 rfl (by decide) (nI_s (c)) ?_
          refine R_goto (tgt := 33) dX5_isWord_94 (by decide) ?_
          have e9 : nmL (fun j => a 7 (s + j)) (e - s) w c (d + 1) is = nmL (fun j => a 7 (s + j)) (e - s) w (c + 1) d true := (if_pos (bl_t c40)).trans (by rw [decide_eq_true (by rw [if_pos (by have : ¬ e ≤ s + c := fun q9 => c64 (nI_le q9 (by omega)); omega)]; exact Classical.not_not.mp c82)])
          rw [e9]
          exact RR.pick [2, 3, 1, 0] rfl (ih (c + 1) true (by omega))
set_option maxRecDepth 4000 in
theorem m_isWord (G : GG) (hh : HH) {k : Nat} {a : AA} {v : VV} {L : Nat} (hL : L ≤ 200) (hl : v 8 = nI L) {s : Nat} (hs : s ≤ L) (h : MdAt G hh k a (vfb v s (tkE (a 7) L s))) (hW : ∀ j, j < 54 → a 17 j = wdA j) {w : Nat} (hw : w < 9) : EVp G mX5_isWord [.ref (ad G k), .int (nI w)] hh (bl (wdT (a 7) L s (wix w))) := by
  refine EV.of [(0, .ref (ad G k)), (1, .int (nI w))] (by decide +kernel) (Nat.le_of_ble_eq_true rfl) rfl ?_
  have hse := tkE_ge (a 7) L s
  have heL := tkE_le (a 7) hs
  refine R_aload_n dX5_isWord_0 rfl ?_
  refine R_get dX5_isWord_1 gf_X5_72 h.1 rfl ?_
  refine RR.top (y := nI ((tkE (a 7) L s))) (rfl) ?_
  refine R_aload_n dX5_isWord_4 rfl ?_
  refine R_get dX5_isWord_5 gf_X5_75 h.1 rfl ?_
  refine RR.top (y := nI (s)) (rfl) ?_
  refine R_icmp_le (tgt := 29) dX5_isWord_8 (by decide) (fun c8 => ?_) (fun c8 => ?_)
  · refine R_iconst (v := 0) dX5_isWord_29 (by decide) ?_
    refine R_istore_n dX5_isWord_30 (by decide) ?_
    refine R_iconst (v := 0) dX5_isWord_31 (by decide) ?_
    refine R_istore_n dX5_isWord_32 (by decide) ?_
    have eb : decide (1 ≤ tkE (a 7) L s - s ∧ tkE (a 7) L s - s ≤ 6) = false := decide_eq_false (fun q9 => absurd ((nI_leI (by omega) (by omega)).mp c8) (by omega))
    rw [← wd_eq hw, eb]
    exact RR.pick [2, 3, 1, 0] rfl (l_misWord G hh hL hl hse heL h hW hw 6 0 false (by omega))
  · refine R_aload_n dX5_isWord_11 rfl ?_
    refine R_get dX5_isWord_12 gf_X5_72 h.1 rfl ?_
    refine RR.top (y := nI ((tkE (a 7) L s))) (rfl) ?_
    refine R_aload_n dX5_isWord_15 rfl ?_
    refine R_get dX5_isWord_16 gf_X5_75 h.1 rfl ?_
    refine RR.top (y := nI (s)) (rfl) ?_
    refine R_isub dX5_isWord_19 ?_
    refine RR.top (y := nI (((tkE (a 7) L s)) - s)) (pk_sub (a := (tkE (a 7) L s)) (b := s) (by omega)) ?_
    refine R_bipush (v := 7) dX5_isWord_20 (by decide) ?_
    refine R_icmp_ge (tgt := 29) dX5_isWord_22 (by decide) (fun c22 => ?_) (fun c22 => ?_)
    · refine R_iconst (v := 0) dX5_isWord_29 (by decide) ?_
      refine R_istore_n dX5_isWord_30 (by decide) ?_
      refine R_iconst (v := 0) dX5_isWord_31 (by decide) ?_
      refine R_istore_n dX5_isWord_32 (by decide) ?_
      have eb : decide (1 ≤ tkE (a 7) L s - s ∧ tkE (a 7) L s - s ≤ 6) = false := decide_eq_false (fun q9 => absurd ((nI_leI (a := 7) (by decide) (by omega)).mp c22) (by omega))
      rw [← wd_eq hw, eb]
      exact RR.pick [2, 3, 1, 0] rfl (l_misWord G hh hL hl hse heL h hW hw 6 0 false (by omega))
    · refine R_iconst (v := 1) dX5_isWord_25 (by decide) ?_
      refine R_goto (tgt := 30) dX5_isWord_26 (by decide) ?_
      refine R_istore_n dX5_isWord_30 (by decide) ?_
      refine R_iconst (v := 0) dX5_isWord_31 (by decide) ?_
      refine R_istore_n dX5_isWord_32 (by decide) ?_
      have eb : decide (1 ≤ tkE (a 7) L s - s ∧ tkE (a 7) L s - s ≤ 6) = true := decide_eq_true ⟨by (have : ¬ tkE (a 7) L s ≤ s := fun q9 => c8 (nI_le q9 (by omega)); omega), by (have : ¬ 7 ≤ tkE (a 7) L s - s := fun q9 => c22 (nI_le (a := 7) q9 (by omega)); omega)⟩
      rw [← wd_eq hw, eb]
      exact RR.pick [2, 3, 1, 0] rfl (l_misWord G hh hL hl hse heL h hW hw 6 0 true (by omega))
/-- the first of the reference's words from i on, d of them, that the token is -/
def fwd (f : Nat → Int32) (L s : Nat) : Nat → Nat → Int32
  | _, 0 => -1
  | i, d + 1 => if wdT f L s (wix i) = true then nI i else fwd f L s (i + 1) d
theorem fwd_rul (f : Nat → Int32) (L s : Nat) : fwd f L s 0 4 = rlT f L s := by
  unfold rlT
  have hg : ∀ (d i : Nat), i + d = 4 → fwd f L s i d = if tkK f L s = 1 then rulL f s (tkE f L s) i d else -1 := by
    intro d
    induction d with
    | zero => intro i _; show (-1 : Int32) = _; split <;> rfl
    | succ d ih =>
      intro i hi
      show (if wdT f L s (wix i) = true then nI i else fwd f L s (i + 1) d) = _
      rw [ih (i + 1) (by omega), show wix i = 5 + i from if_pos (by omega)]
      unfold wdT
      by_cases q : tkK f L s = 1
      · rw [decide_eq_true q, Bool.true_and, if_pos q, if_pos q]; rfl
      · rw [decide_eq_false q, Bool.false_and, if_neg (by decide), if_neg q, if_neg q]
  exact hg 4 0 rfl
set_option maxRecDepth 4000 in
theorem l_wordOf (G : GG) (hh : HH) {k : Nat} {a : AA} {v : VV} {L : Nat} (hL : L ≤ 200) (hl : v 8 = nI L) {s : Nat} (hs : s ≤ L) (h : MdAt G hh k a (vfb v s (tkE (a 7) L s))) (hW : ∀ j, j < 54 → a 17 j = wdA j) {i0 t : Nat} (ht : t < 9) : ∀ (d w : Nat), w + d = t + 1 → RR G mX5_wordOf 2 [(0, .ref (ad G k)), (1, .int (nI i0)), (2, .int (nI t)), (3, .int (nI w))] [] hh (fun r9 h1 => ∃ y, r9 = some (.int y) ∧ (y = fwd (a 7) L s w d ∧ h1 = hh)) := by
  intro d
  induction d with
  | zero =>
    intro w hd
    refine R_iload_n dX5_wordOf_2 rfl ?_
    refine R_iload_n dX5_wordOf_3 rfl ?_
    refine R_icmp_gt (tgt := 23) dX5_wordOf_4 (by decide) (fun c4 => ?_) (fun c4 => absurd (nI_lt (by omega) (by omega)) c4)
    refine R_iconst (v := (-1)) dX5_wordOf_23 (by decide) ?_
    exact R_iret dX5_wordOf_24 rfl (⟨_, rfl, rfl, rfl⟩)
  | succ d ih =>
    intro w hd
    refine R_iload_n dX5_wordOf_2 rfl ?_
    refine R_iload_n dX5_wordOf_3 rfl ?_
    refine R_icmp_gt (tgt := 23) dX5_wordOf_4 (by decide) (fun c4 => absurd c4 (nI_nlt (by omega) (by omega))) (fun c4 => ?_)
    refine R_aload_n dX5_wordOf_7 rfl ?_
    refine R_iload_n dX5_wordOf_8 rfl ?_
    refine R_callVp dX5_wordOf_9 cv_X5_85 ⟨by decide, by decide⟩ (m_isWord G hh hL hl hs h hW (w := w) (by omega)) h.1 rfl rfl rfl (Nat.le_of_ble_eq_true rfl) ?_
    refine R_if_eq (tgt := 17) dX5_wordOf_12 (by decide) (fun c12 => ?_) (fun c12 => ?_)
    · refine R_iinc (y := nI (w + 1)) dX5_wordOf_17 rfl (by decide) (nI_s (w)) ?_
      refine R_goto (tgt := 2) dX5_wordOf_20 (by decide) ?_
      have e9 : fwd (a 7) L s w (d + 1) = fwd (a 7) L s (w + 1) d := if_neg (bl_f c12)
      rw [e9]
      exact RR.pick [1, 2, 3, 0] rfl (ih (w + 1) (by omega))
    · refine R_iload_n dX5_wordOf_15 rfl ?_
      exact R_iret dX5_wordOf_16 rfl (⟨_, rfl, (if_pos (bl_t c12)).symm, rfl⟩)
set_option maxRecDepth 4000 in
theorem m_wordOf (G : GG) (hh : HH) {k : Nat} {a : AA} {v : VV} {L : Nat} (hL : L ≤ 200) (hl : v 8 = nI L) {s : Nat} (hs : s ≤ L) (h : MdAt G hh k a (vfb v s (tkE (a 7) L s))) (hW : ∀ j, j < 54 → a 17 j = wdA j) {i t : Nat} (ht : t < 9) (hi : i ≤ t + 1) : EVp G mX5_wordOf [.ref (ad G k), .int (nI i), .int (nI t)] hh (fwd (a 7) L s i (t + 1 - i)) := by
  refine EV.of [(0, .ref (ad G k)), (1, .int (nI i)), (2, .int (nI t))] (by decide +kernel) (Nat.le_of_ble_eq_true rfl) rfl ?_
  refine R_iload_n dX5_wordOf_0 rfl ?_
  refine R_istore_n dX5_wordOf_1 (by decide) ?_
  exact RR.pick [1, 2, 3, 0] rfl (l_wordOf G hh hL hl hs h hW ht (t + 1 - i) i (by omega))
