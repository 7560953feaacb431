theorem m1_lt {lo : Int32} (h : 0 ≤ lo) : (-1 : Int32) < lo := Int32.lt_of_lt_of_le (by decide) h
theorem nmT_no {f : Nat → Int32} {L s : Nat} {lo hi : Int32} (hlo : 0 ≤ lo) (h : ¬ tkK f L s = 2 ∨ 2 < tkE f L s - s) : nmT f L s lo hi = -1 := by
  unfold nmT numW
  by_cases q : tkK f L s = 2
  · have h2 : 2 < tkE f L s - s := by rcases h with h | h; exact absurd q h; exact h
    simp only [q, if_true]
    rw [show numOf f s (tkE f L s) 2 = -1 from if_pos (Or.inr h2), if_pos (Or.inl (m1_lt hlo))]
  · simp only [if_neg q]
    rw [if_pos (Or.inl (m1_lt hlo))]
theorem nmT_one {f : Nat → Int32} {L s : Nat} (lo hi : Int32) (hs : s < L) (hd : dgB (f s) = true) (he : tkE f L s - s = 1) : nmT f L s lo hi = if f s - 48 < lo ∨ hi < f s - 48 then -1 else f s - 48 := by
  unfold nmT numW
  have hk := (tk_dg hs hd).1
  have e : numOf f s (tkE f L s) 2 = f s - 48 := by
    unfold numOf
    rw [if_neg (by omega), he]
    show (if f s - 48 < 0 ∨ 9 < f s - 48 then -1 else 10 * 0 + (f s - 48)) = _
    rw [if_neg (dg_dif.mp hd), Int32.mul_zero, Int32.zero_add]
  simp only [hk, if_true, e]
theorem nmT_two {f : Nat → Int32} {L s : Nat} (lo hi : Int32) (hs : s < L) (hd : dgB (f s) = true) (he : tkE f L s - s = 2) : nmT f L s lo hi = if 10 * (f s - 48) + f (s + 1) - 48 < lo ∨ hi < 10 * (f s - 48) + f (s + 1) - 48 then -1 else 10 * (f s - 48) + f (s + 1) - 48 := by
  unfold nmT numW
  have hk := tk_dg hs hd
  have hd2 := hk.2.2 (s + 1) (by omega) (by omega)
  have e : numOf f s (tkE f L s) 2 = 10 * (f s - 48) + f (s + 1) - 48 := by
    unfold numOf
    rw [if_neg (by omega), he]
    show (if f s - 48 < 0 ∨ 9 < f s - 48 then -1 else (if f (s + 1) - 48 < 0 ∨ 9 < f (s + 1) - 48 then -1 else 10 * (10 * 0 + (f s - 48)) + (f (s + 1) - 48))) = _
    rw [if_neg (dg_dif.mp hd), if_neg (dg_dif.mp hd2), Int32.mul_zero, Int32.zero_add, Int32.sub_eq_add_neg, Int32.sub_eq_add_neg, Int32.sub_eq_add_neg, Int32.add_assoc]
  simp only [hk.1, if_true, e]
theorem nmT_out {y x lo hi : Int32} (h : y = if x < lo ∨ hi < x then -1 else x) (q : ¬ (lo ≤ x ∧ x ≤ hi)) : y = -1 := by
  rw [h, if_pos]
  by_cases r : x < lo
  · exact Or.inl r
  · exact Or.inr (Int32.not_le.mp (fun z => q ⟨Int32.not_lt.mp r, z⟩))
theorem nmT_in {y x lo hi : Int32} (hlo : 0 ≤ lo) (h : y = if x < lo ∨ hi < x then -1 else x) (q : lo ≤ x ∧ x ≤ hi) : y = x ∧ ¬ x = -1 := by
  refine ⟨h.trans (if_neg ?_), fun e => ?_⟩
  · rintro (r | r)
    · exact absurd q.1 (Int32.not_le.mpr r)
    · exact absurd q.2 (Int32.not_le.mpr r)
  · rw [e] at q
    exact absurd (Int32.le_trans hlo q.1) (by decide)
theorem d_inX (G : GG) (hh : HH) (x lo hi : Int32) : EVp G mX5_in [.long x.toInt64, .long lo.toInt64, .long hi.toInt64] hh (bl (decide (lo ≤ x ∧ x ≤ hi))) := by
  have e := e_inI G hh x (lo := lo.toInt64) (hi := hi.toInt64) (l := lo.toInt) (r := hi.toInt) (Int32.toInt_toInt64 _) (Int32.toInt_toInt64 _)
  rw [inB_g rfl rfl] at e
  exact e
theorem d_in04 (G : GG) (hh : HH) (x : Int32) : EVp G mX5_in [.long x.toInt64, .long 0, .long 4] hh (bl (decide (0 ≤ x ∧ x < 5))) := by
  have e := e_inI G hh x (lo := 0) (hi := 4) (l := 0) (r := 4) rfl rfl
  rw [inB_d (hi := 5) rfl] at e
  exact e
theorem upd_uu (f : Nat → Int32) (i : Nat) (x y : Int32) : upd (upd f i x) i y = upd f i y := by
  funext j
  unfold upd
  by_cases h : j = i
  · rw [if_pos h, if_pos h]
  · rw [if_neg h, if_neg h, if_neg h]
theorem tk_2 {f : Nat → Int32} {L s : Nat} (h : tkK f L s = 2) : dgB (f s) = true := by
  unfold tkK at h
  split at h
  · exact absurd h (by decide)
  · split at h
    · exact absurd h (by decide)
    · split at h
      · assumption
      · exact absurd h (by decide)
set_option maxRecDepth 4000 in
theorem m_number (G : GG) (hh : HH) {k : Nat} {a : AA} {v : VV} {L : Nat} (hL : L ≤ 200) (hl : v 8 = nI L) {s : Nat} (hs : s ≤ L) (h : MdAt G hh k a (vfb v s (tkE (a 7) L s))) {kk : Nat} (hkk : kk < 2) {lo hi : Int32} (hlo : 0 ≤ lo) : EVi G mX5_number [.ref (ad G k), .int (nI kk), .int lo, .int hi] hh (fun y h1 => (if (nmT (a 7) L s lo hi) = -1 then y = 0 ∧ h1 = hh else y = 1 ∧ MdAt G h1 k (va_up a 16 (upd (a 16) kk (nmT (a 7) L s lo hi))) (vfb v (nx (a 7) L s) (tkE (a 7) L (nx (a 7) L s))) ∧ Fr k (k + 11) hh h1)) := by
  refine EV.of [(0, .ref (ad G k)), (1, .int (nI kk)), (2, .int lo), (3, .int hi)] (by decide +kernel) (Nat.le_of_ble_eq_true rfl) rfl ?_
  have hse := tkE_ge (a 7) L s
  have heL := tkE_le (a 7) hs
  have hF : Fr k (k + 11) hh hh := Fr.rf
  refine R_aload_n dX5_number_0 rfl ?_
  refine R_get dX5_number_1 gf_X5_75 h.1 rfl ?_
  refine RR.top (y := nI (s)) (rfl) ?_
  refine R_aload_n dX5_number_4 rfl ?_
  refine R_get dX5_number_5 gf_X5_61 h.1 rfl ?_
  refine RR.top (y := nI (L)) (hl) ?_
  refine R_icmp_eq (tgt := 39) dX5_number_8 (by decide) (fun c8 => ?_) (fun c8 => ?_)
  · refine R_iconst (v := 0) dX5_number_39 (by decide) ?_
    exact R_zret dX5_number_40 rfl (by first | exact Or.inl rfl | exact Or.inr rfl | assumption | exact bl01 _ | omega) (⟨_, rfl, by (dsimp only; rw [if_pos (nmT_no hlo (Or.inl (by (have e9 := (nI_eq (by omega) (by omega)).mp c8); unfold tkK; rw [if_pos (by omega)]; decide)))]; exact ⟨rfl, rfl⟩)⟩)
  · have hlt : s < L := Nat.lt_of_le_of_ne hs (fun q9 => c8 ((nI_eq (by omega) (by omega)).mpr q9))
    refine R_aload_n dX5_number_11 rfl ?_
    refine R_get dX5_number_12 gf_X5_23 h.1 rfl ?_
    refine R_aload_n dX5_number_15 rfl ?_
    refine R_get dX5_number_16 gf_X5_75 h.1 rfl ?_
    refine RR.top (y := nI (s)) (rfl) ?_
    refine R_ialdN dX5_number_19 h.a7 (by first | omega | decide) (by decide) ?_
    refine R_callSp dX5_number_20 cs_X5_82 ⟨by decide, by decide⟩ (d_isDigit G hh (a 7 s)) rfl rfl (Nat.le_of_ble_eq_true rfl) ?_
    refine R_if_eq (tgt := 39) dX5_number_23 (by decide) (fun c23 => ?_) (fun c23 => ?_)
    · refine R_iconst (v := 0) dX5_number_39 (by decide) ?_
      exact R_zret dX5_number_40 rfl (by first | exact Or.inl rfl | exact Or.inr rfl | assumption | exact bl01 _ | omega) (⟨_, rfl, by (dsimp only; rw [if_pos (nmT_no hlo (Or.inl (fun q9 => bl_f c23 (tk_2 q9))))]; exact ⟨rfl, rfl⟩)⟩)
    · have c23 := bl_t c23
      refine R_aload_n dX5_number_26 rfl ?_
      refine R_get dX5_number_27 gf_X5_72 h.1 rfl ?_
      refine RR.top (y := nI ((tkE (a 7) L s))) (rfl) ?_
      refine R_aload_n dX5_number_30 rfl ?_
      refine R_get dX5_number_31 gf_X5_75 h.1 rfl ?_
      refine RR.top (y := nI (s)) (rfl) ?_
      refine R_isub dX5_number_34 ?_
      refine RR.top (y := nI (((tkE (a 7) L s)) - s)) (pk_sub (a := (tkE (a 7) L s)) (b := s) (by omega)) ?_
      refine R_iconst (v := 2) dX5_number_35 (by decide) ?_
      refine R_icmp_le (tgt := 41) dX5_number_36 (by decide) (fun c36 => ?_) (fun c36 => ?_)
      · refine R_aload_n dX5_number_41 rfl ?_
        refine R_get dX5_number_42 gf_X5_23 h.1 rfl ?_
        refine R_aload_n dX5_number_45 rfl ?_
        refine R_get dX5_number_46 gf_X5_75 h.1 rfl ?_
        refine RR.top (y := nI (s)) (rfl) ?_
        refine R_ialdN dX5_number_49 h.a7 (by first | omega | decide) (by decide) ?_
        refine R_bipush (v := 48) dX5_number_50 (by decide) ?_
        refine R_isub dX5_number_52 ?_
        refine R_istore dX5_number_53 (by decide) ?_
        refine R_aload_n dX5_number_55 rfl ?_
        refine R_get dX5_number_56 gf_X5_72 h.1 rfl ?_
        refine RR.top (y := nI ((tkE (a 7) L s))) (rfl) ?_
        refine R_aload_n dX5_number_59 rfl ?_
        refine R_get dX5_number_60 gf_X5_75 h.1 rfl ?_
        refine RR.top (y := nI (s)) (rfl) ?_
        refine R_isub dX5_number_63 ?_
        refine RR.top (y := nI (((tkE (a 7) L s)) - s)) (pk_sub (a := (tkE (a 7) L s)) (b := s) (by omega)) ?_
        refine R_iconst (v := 2) dX5_number_64 (by decide) ?_
        refine R_icmp_ne (tgt := 91) dX5_number_65 (by decide) (fun c65 => ?_) (fun c65 => ?_)
        · refine R_iload dX5_number_91 rfl ?_
          refine R_istore dX5_number_93 (by decide) ?_
          have hx := nmT_one (f := a 7) (L := L) lo hi hlt c23 (by have : ¬ tkE (a 7) L s - s = 2 := fun q9 => c65 ((nI_eq (b := 2) (by omega) (by decide)).mpr q9); have := (tk_dg hlt c23).2.1; have := (nI_leI (a := tkE (a 7) L s - s) (b := 2) (by omega) (by decide)).mp c36; omega)
          refine R_iload dX5_number_95 rfl ?_
          refine R_i2l dX5_number_97 ?_
          refine R_iload_n dX5_number_98 rfl ?_
          refine R_i2l dX5_number_99 ?_
          refine R_iload_n dX5_number_100 rfl ?_
          refine R_i2l dX5_number_101 ?_
          refine R_callSp dX5_number_102 cs_X5_57 ⟨by decide, by decide⟩ (d_inX G hh _ lo hi) rfl rfl (Nat.le_of_ble_eq_true rfl) ?_
          refine R_istore dX5_number_105 (by decide) ?_
          refine R_iload dX5_number_107 rfl ?_
          refine R_if_eq (tgt := 124) dX5_number_109 (by decide) (fun c109 => ?_) (fun c109 => ?_)
          · refine R_iload dX5_number_124 rfl ?_
            exact R_zret dX5_number_126 rfl (by first | exact Or.inl rfl | exact Or.inr rfl | assumption | exact bl01 _ | omega) (⟨_, rfl, by (dsimp only; rw [if_pos (nmT_out hx (df c109))]; exact ⟨c109, rfl⟩)⟩)
          · refine R_aload_n dX5_number_112 rfl ?_
            refine R_get dX5_number_113 gf_X5_32 h.1 rfl ?_
            refine R_iload_n dX5_number_116 rfl ?_
            refine R_iload dX5_number_117 rfl ?_
            refine Md_ast16N dX5_number_119 h (by first | omega | decide) (fun hh h hF1 => ?_)
            have hF := hF.tr hF1 (by omega) (by omega)
            refine R_aload_n dX5_number_120 rfl ?_
            refine R_callVv dX5_number_121 cv_X5_88 ⟨by decide, by decide⟩ (m_nextToken G hh hL hl heL h) h.1 rfl rfl rfl (Nat.le_of_ble_eq_true rfl) (fun hh hw => ?_)
            obtain ⟨h, hF1⟩ := hw
            have hF := hF.tr hF1 (by omega) (by omega)
            refine R_iload dX5_number_124 rfl ?_
            exact R_zret dX5_number_126 rfl (by first | exact Or.inl rfl | exact Or.inr rfl | assumption | exact bl01 _ | omega) (⟨_, rfl, by (obtain ⟨e1, e2⟩ := nmT_in hlo hx (dt c109); rw [if_neg (by rw [e1]; exact e2), e1]; exact ⟨by rw [decide_eq_true (dt c109)]; rfl, h, hF⟩)⟩)
        · refine R_bipush (v := 10) dX5_number_68 (by decide) ?_
          refine R_iload dX5_number_70 rfl ?_
          refine R_imul dX5_number_72 ?_
          have he2 := (nI_eq (a := tkE (a 7) L s - s) (b := 2) (by omega) (by decide)).mp (Classical.not_not.mp c65)
          refine R_aload_n dX5_number_73 rfl ?_
          refine R_get dX5_number_74 gf_X5_23 h.1 rfl ?_
          refine R_aload_n dX5_number_77 rfl ?_
          refine R_get dX5_number_78 gf_X5_75 h.1 rfl ?_
          refine RR.top (y := nI (s)) (rfl) ?_
          refine R_iconst (v := 1) dX5_number_81 (by decide) ?_
          refine R_iadd dX5_number_82 ?_
          refine RR.top (y := nI (s + 1)) (nI_add (s) (1)) ?_
          refine R_ialdN dX5_number_83 h.a7 (by first | omega | decide) (by decide) ?_
          refine R_iadd dX5_number_84 ?_
          refine R_bipush (v := 48) dX5_number_85 (by decide) ?_
          refine R_isub dX5_number_87 ?_
          refine R_goto (tgt := 93) dX5_number_88 (by decide) ?_
          refine R_istore dX5_number_93 (by decide) ?_
          have hx := nmT_two (f := a 7) (L := L) lo hi hlt c23 ((nI_eq (b := 2) (by omega) (by decide)).mp (Classical.not_not.mp c65))
          refine R_iload dX5_number_95 rfl ?_
          refine R_i2l dX5_number_97 ?_
          refine R_iload_n dX5_number_98 rfl ?_
          refine R_i2l dX5_number_99 ?_
          refine R_iload_n dX5_number_100 rfl ?_
          refine R_i2l dX5_number_101 ?_
          refine R_callSp dX5_number_102 cs_X5_57 ⟨by decide, by decide⟩ (d_inX G hh _ lo hi) rfl rfl (Nat.le_of_ble_eq_true rfl) ?_
          refine R_istore dX5_number_105 (by decide) ?_
          refine R_iload dX5_number_107 rfl ?_
          refine R_if_eq (tgt := 124) dX5_number_109 (by decide) (fun c109 => ?_) (fun c109 => ?_)
          · refine R_iload dX5_number_124 rfl ?_
            exact R_zret dX5_number_126 rfl (by first | exact Or.inl rfl | exact Or.inr rfl | assumption | exact bl01 _ | omega) (⟨_, rfl, by (dsimp only; rw [if_pos (nmT_out hx (df c109))]; exact ⟨c109, rfl⟩)⟩)
          · refine R_aload_n dX5_number_112 rfl ?_
            refine R_get dX5_number_113 gf_X5_32 h.1 rfl ?_
            refine R_iload_n dX5_number_116 rfl ?_
            refine R_iload dX5_number_117 rfl ?_
            refine Md_ast16N dX5_number_119 h (by first | omega | decide) (fun hh h hF1 => ?_)
            have hF := hF.tr hF1 (by omega) (by omega)
            refine R_aload_n dX5_number_120 rfl ?_
            refine R_callVv dX5_number_121 cv_X5_88 ⟨by decide, by decide⟩ (m_nextToken G hh hL hl heL h) h.1 rfl rfl rfl (Nat.le_of_ble_eq_true rfl) (fun hh hw => ?_)
            obtain ⟨h, hF1⟩ := hw
            have hF := hF.tr hF1 (by omega) (by omega)
            refine R_iload dX5_number_124 rfl ?_
            exact R_zret dX5_number_126 rfl (by first | exact Or.inl rfl | exact Or.inr rfl | assumption | exact bl01 _ | omega) (⟨_, rfl, by (obtain ⟨e1, e2⟩ := nmT_in hlo hx (dt c109); rw [if_neg (by rw [e1]; exact e2), e1]; exact ⟨by rw [decide_eq_true (dt c109)]; rfl, h, hF⟩)⟩)
      · refine R_iconst (v := 0) dX5_number_39 (by decide) ?_
        exact R_zret dX5_number_40 rfl (by first | exact Or.inl rfl | exact Or.inr rfl | assumption | exact bl01 _ | omega) (⟨_, rfl, by (dsimp only; rw [if_pos (nmT_no hlo (Or.inr (Nat.lt_of_not_ge (fun q9 => c36 (nI_le (b := 2) q9 (by decide))))))]; exact ⟨rfl, rfl⟩)⟩)
def vrB (f : Nat → Int32) : Nat → Nat → Int32 → Bool
  | _, 0, _ => true
  | i, d + 1, x => if ¬ (0 ≤ f i - 97 ∧ f i - 97 < 5) ∨ hasB x (f i - 97) = true then false else vrB f (i + 1) d (x ||| ((1 : Int32) <<< ((f i - 97) &&& 31)))
theorem one_shl {y : Int32} (h : 0 ≤ y ∧ y < 5) : ¬ (1 : Int32) <<< (y &&& 31) = 0 := by
  obtain ⟨j, hj, rfl⟩ := ix_in (x := y) (n := 5) (by omega) (Int32.not_lt.mpr h.1) h.2
  rcases (show j = 0 ∨ j = 1 ∨ j = 2 ∨ j = 3 ∨ j = 4 by omega) with rfl | rfl | rfl | rfl | rfl <;> decide
theorem vr_f {f : Nat → Int32} : ∀ (d i : Nat) (x : Int32), vrB f i d x = false → vrT f i d x = 0
  | 0, _, _, h => Bool.noConfusion h
  | d + 1, i, x, h => by
    show (if ¬ (0 ≤ f i - 97 ∧ f i - 97 < 5) ∨ hasB x (f i - 97) = true then 0 else _) = (0 : Int32)
    have h : (if ¬ (0 ≤ f i - 97 ∧ f i - 97 < 5) ∨ hasB x (f i - 97) = true then false else vrB f (i + 1) d (x ||| ((1 : Int32) <<< ((f i - 97) &&& 31)))) = false := h
    by_cases q : ¬ (0 ≤ f i - 97 ∧ f i - 97 < 5) ∨ hasB x (f i - 97) = true
    · rw [if_pos q]
    · rw [if_neg q] at h ⊢
      exact vr_f d (i + 1) _ h
theorem vr_t {f : Nat → Int32} : ∀ (d i : Nat) (x : Int32), (1 ≤ d ∨ ¬ x = 0) → vrB f i d x = true → ¬ vrT f i d x = 0
  | 0, _, _, hx, _ => by
    rcases hx with hx | hx
    · omega
    · exact hx
  | d + 1, i, x, _, h => by
    show ¬ (if ¬ (0 ≤ f i - 97 ∧ f i - 97 < 5) ∨ hasB x (f i - 97) = true then 0 else vrT f (i + 1) d (x ||| ((1 : Int32) <<< ((f i - 97) &&& 31)))) = (0 : Int32)
    have h : (if ¬ (0 ≤ f i - 97 ∧ f i - 97 < 5) ∨ hasB x (f i - 97) = true then false else vrB f (i + 1) d (x ||| ((1 : Int32) <<< ((f i - 97) &&& 31)))) = true := h
    by_cases q : ¬ (0 ≤ f i - 97 ∧ f i - 97 < 5) ∨ hasB x (f i - 97) = true
    · rw [if_pos q] at h; cases h
    · rw [if_neg q] at h ⊢
      refine vr_t d (i + 1) _ (Or.inr (fun e => ?_)) h
      exact one_shl (Classical.not_not.mp (fun r => q (Or.inl r))) (Int32.or_eq_zero_iff.mp e).2
set_option maxRecDepth 4000 in
theorem l_vers0 (G : GG) (hh0 : HH) {k : Nat} {a : AA} {v : VV} {L : Nat} (hL : L ≤ 200) (hl : v 8 = nI L) {s e i : Nat} (he : e ≤ L) (hi : i ≤ e) {x : Int32} {Q : QQ} (hh : HH) (h : MdAt G hh k (va_up a 16 (upd (a 16) 1 x)) (vfb v s e)) (hF : Fr k (k + 11) hh0 hh) (K : (∀ (hh : HH) (w : Int32), (false = true → w = 0) → MdAt G hh k (va_up a 16 (upd (a 16) 1 w)) (vfb v s e) → Fr k (k + 11) hh0 hh → RR G mX5_readsVersed 131 [(0, .ref (ad G k)), (1, .int (bl false))] [] hh Q)) : RR G mX5_readsVersed 52 [(0, .ref (ad G k)), (1, .int (bl false)), (2, .int (nI i))] [] hh Q := by
  refine R_iload_n dX5_readsVersed_52 rfl ?_
  refine R_aload_n dX5_readsVersed_53 rfl ?_
  refine R_get dX5_readsVersed_54 gf_X5_72 h.1 rfl ?_
  refine RR.top (y := nI (e)) (rfl) ?_
  refine R_icmp_ge (tgt := 131) dX5_readsVersed_57 (by decide) (fun c57 => ?_) (fun c57 => ?_)
  · exact RR.pick [0, 1] rfl (K hh x (fun q9 => Bool.noConfusion q9) h hF)
  · refine R_iload_n dX5_readsVersed_60 rfl ?_
    refine R_if_eq (tgt := 131) dX5_readsVersed_61 (by decide) (fun c61 => ?_) (fun c61 => absurd (show bl false = 0 from rfl) c61)
    exact RR.pick [0, 1] rfl (K hh x (fun q9 => Bool.noConfusion q9) h hF)
set_option maxRecDepth 4000 in
theorem l_vers (G : GG) (hh0 : HH) {k : Nat} {a : AA} {v : VV} {L : Nat} (hL : L ≤ 200) (hl : v 8 = nI L) {s e : Nat} (he : e ≤ L) {Q : QQ} : ∀ (d i : Nat) (x : Int32) (hh : HH), i + d = e → MdAt G hh k (va_up a 16 (upd (a 16) 1 x)) (vfb v s e) → Fr k (k + 11) hh0 hh → (∀ (hh : HH) (w : Int32), ((vrB (a 7) i d x) = true → w = vrT (a 7) i d x) → MdAt G hh k (va_up a 16 (upd (a 16) 1 w)) (vfb v s e) → Fr k (k + 11) hh0 hh → RR G mX5_readsVersed 131 [(0, .ref (ad G k)), (1, .int (bl (vrB (a 7) i d x)))] [] hh Q) → RR G mX5_readsVersed 52 [(0, .ref (ad G k)), (1, .int (bl true)), (2, .int (nI i))] [] hh (Q) := by
  intro d
  induction d with
  | zero =>
    intro i x hh hi h hF K
    refine R_iload_n dX5_readsVersed_52 rfl ?_
    refine R_aload_n dX5_readsVersed_53 rfl ?_
    refine R_get dX5_readsVersed_54 gf_X5_72 h.1 rfl ?_
    refine RR.top (y := nI (e)) (rfl) ?_
    refine R_icmp_ge (tgt := 131) dX5_readsVersed_57 (by decide) (fun c57 => ?_) (fun c57 => absurd (nI_le (by omega) (by omega)) c57)
    exact RR.pick [0, 1] rfl (K hh x (fun _ => rfl) h hF)
  | succ d ih =>
    intro i x hh hi h hF K
    refine R_iload_n dX5_readsVersed_52 rfl ?_
    refine R_aload_n dX5_readsVersed_53 rfl ?_
    refine R_get dX5_readsVersed_54 gf_X5_72 h.1 rfl ?_
    refine RR.top (y := nI (e)) (rfl) ?_
    refine R_icmp_ge (tgt := 131) dX5_readsVersed_57 (by decide) (fun c57 => absurd c57 (nI_ge (by omega) (by omega))) (fun c57 => ?_)
    refine R_iload_n dX5_readsVersed_60 rfl ?_
    refine R_if_eq (tgt := 131) dX5_readsVersed_61 (by decide) (fun c61 => absurd c61 (show ¬ bl true = 0 by decide)) (fun c61 => ?_)
    refine R_aload_n dX5_readsVersed_64 rfl ?_
    refine R_get dX5_readsVersed_65 gf_X5_23 h.1 rfl ?_
    refine R_iload_n dX5_readsVersed_68 rfl ?_
    refine R_ialdN dX5_readsVersed_69 h.a7 (by first | omega | decide) (by decide) ?_
    refine R_bipush (v := 97) dX5_readsVersed_70 (by decide) ?_
    refine R_isub dX5_readsVersed_72 ?_
    refine R_istore_n dX5_readsVersed_73 (by decide) ?_
    refine R_iload_n dX5_readsVersed_74 rfl ?_
    refine R_i2l dX5_readsVersed_75 ?_
    refine R_lconst (v := 0) dX5_readsVersed_76 (by decide) ?_
    refine R_ldc2 dX5_readsVersed_77 kc_X5_91 ?_
    refine R_callSp dX5_readsVersed_80 cs_X5_57 ⟨by decide, by decide⟩ (d_in04 G hh _) rfl rfl (Nat.le_of_ble_eq_true rfl) ?_
    refine R_if_eq (tgt := 103) dX5_readsVersed_83 (by decide) (fun c83 => ?_) (fun c83 => ?_)
    · refine R_iconst (v := 0) dX5_readsVersed_103 (by decide) ?_
      refine R_istore_n dX5_readsVersed_104 (by decide) ?_
      refine R_aload_n dX5_readsVersed_105 rfl ?_
      refine R_get dX5_readsVersed_106 gf_X5_32 h.1 rfl ?_
      refine R_iconst (v := 1) dX5_readsVersed_109 (by decide) ?_
      refine R_dup2 dX5_readsVersed_110 rfl rfl ?_
      refine R_ialdN dX5_readsVersed_111 h.a16 (by first | omega | decide) (by decide) ?_
      refine RR.top (y := x) (show upd (a 16) 1 x 1 = x from pk_us) ?_
      refine R_iload_n dX5_readsVersed_112 rfl ?_
      refine R_if_eq (tgt := 122) dX5_readsVersed_113 (by decide) (fun c113 => ?_) (fun c113 => absurd (show (0 : Int32) = 0 from rfl) c113)
      refine R_iconst (v := 0) dX5_readsVersed_122 (by decide) ?_
      refine R_ior dX5_readsVersed_123 ?_
      refine Md_ast16N dX5_readsVersed_124 h (by first | omega | decide) (fun hh h hF1 => ?_)
      have hF := hF.tr hF1 (by omega) (by omega)
      refine R_iinc (y := nI (i + 1)) dX5_readsVersed_125 rfl (by decide) (nI_s (i)) ?_
      refine R_goto (tgt := 52) dX5_readsVersed_128 (by decide) ?_
      have e9 : vrB (a 7) i (d + 1) x = false := if_pos (Or.inl (df c83))
      rw [e9] at K
      have h := h.cg (a' := va_up a 16 (upd (a 16) 1 x)) (by rw [bx_uu]; show va_up a 16 (upd (upd (a 16) 1 x) 1 _) = _; rw [upd_uu]; simp) rfl
      exact RR.pick [3, 1, 0] rfl (l_vers0 G hh0 hL hl he (by omega) hh h hF (fun hh w q9 h hF => K hh w (fun q8 => Bool.noConfusion q8) h hF))
    · refine R_aload_n dX5_readsVersed_86 rfl ?_
      refine R_get dX5_readsVersed_87 gf_X5_32 h.1 rfl ?_
      refine R_iconst (v := 1) dX5_readsVersed_90 (by decide) ?_
      refine R_ialdN dX5_readsVersed_91 h.a16 (by first | omega | decide) (by decide) ?_
      refine RR.top (y := x) (show upd (a 16) 1 x 1 = x from pk_us) ?_
      refine R_iload_n dX5_readsVersed_92 rfl ?_
      refine R_callSp dX5_readsVersed_93 cs_X5_93 ⟨by decide, by decide⟩ (e_has G hh x _) rfl rfl (Nat.le_of_ble_eq_true rfl) ?_
      refine R_if_ne (tgt := 103) dX5_readsVersed_96 (by decide) (fun c96 => ?_) (fun c96 => ?_)
      · refine R_iconst (v := 0) dX5_readsVersed_103 (by decide) ?_
        refine R_istore_n dX5_readsVersed_104 (by decide) ?_
        refine R_aload_n dX5_readsVersed_105 rfl ?_
        refine R_get dX5_readsVersed_106 gf_X5_32 h.1 rfl ?_
        refine R_iconst (v := 1) dX5_readsVersed_109 (by decide) ?_
        refine R_dup2 dX5_readsVersed_110 rfl rfl ?_
        refine R_ialdN dX5_readsVersed_111 h.a16 (by first | omega | decide) (by decide) ?_
        refine RR.top (y := x) (show upd (a 16) 1 x 1 = x from pk_us) ?_
        refine R_iload_n dX5_readsVersed_112 rfl ?_
        refine R_if_eq (tgt := 122) dX5_readsVersed_113 (by decide) (fun c113 => ?_) (fun c113 => absurd (show (0 : Int32) = 0 from rfl) c113)
        refine R_iconst (v := 0) dX5_readsVersed_122 (by decide) ?_
        refine R_ior dX5_readsVersed_123 ?_
        refine Md_ast16N dX5_readsVersed_124 h (by first | omega | decide) (fun hh h hF1 => ?_)
        have hF := hF.tr hF1 (by omega) (by omega)
        refine R_iinc (y := nI (i + 1)) dX5_readsVersed_125 rfl (by decide) (nI_s (i)) ?_
        refine R_goto (tgt := 52) dX5_readsVersed_128 (by decide) ?_
        have e9 : vrB (a 7) i (d + 1) x = false := if_pos (Or.inr (bl_t c96))
        rw [e9] at K
        have h := h.cg (a' := va_up a 16 (upd (a 16) 1 x)) (by rw [bx_uu]; show va_up a 16 (upd (upd (a 16) 1 x) 1 _) = _; rw [upd_uu]; simp) rfl
        exact RR.pick [3, 1, 0] rfl (l_vers0 G hh0 hL hl he (by omega) hh h hF (fun hh w q9 h hF => K hh w (fun q8 => Bool.noConfusion q8) h hF))
      · refine R_iconst (v := 1) dX5_readsVersed_99 (by decide) ?_
        refine R_goto (tgt := 104) dX5_readsVersed_100 (by decide) ?_
        refine R_istore_n dX5_readsVersed_104 (by decide) ?_
        refine R_aload_n dX5_readsVersed_105 rfl ?_
        refine R_get dX5_readsVersed_106 gf_X5_32 h.1 rfl ?_
        refine R_iconst (v := 1) dX5_readsVersed_109 (by decide) ?_
        refine R_dup2 dX5_readsVersed_110 rfl rfl ?_
        refine R_ialdN dX5_readsVersed_111 h.a16 (by first | omega | decide) (by decide) ?_
        refine RR.top (y := x) (show upd (a 16) 1 x 1 = x from pk_us) ?_
        refine R_iload_n dX5_readsVersed_112 rfl ?_
        refine R_if_eq (tgt := 122) dX5_readsVersed_113 (by decide) (fun c113 => absurd c113 (show ¬ (1 : Int32) = 0 by decide)) (fun c113 => ?_)
        refine R_iconst (v := 1) dX5_readsVersed_116 (by decide) ?_
        refine R_iload_n dX5_readsVersed_117 rfl ?_
        refine R_ishl dX5_readsVersed_118 ?_
        refine R_goto (tgt := 123) dX5_readsVersed_119 (by decide) ?_
        refine R_ior dX5_readsVersed_123 ?_
        refine Md_ast16N dX5_readsVersed_124 h (by first | omega | decide) (fun hh h hF1 => ?_)
        have hF := hF.tr hF1 (by omega) (by omega)
        refine R_iinc (y := nI (i + 1)) dX5_readsVersed_125 rfl (by decide) (nI_s (i)) ?_
        refine R_goto (tgt := 52) dX5_readsVersed_128 (by decide) ?_
        have q : ¬ (¬ (0 ≤ a 7 i - 97 ∧ a 7 i - 97 < 5) ∨ hasB x (a 7 i - 97) = true) := fun q9 => by
          rcases q9 with q9 | q9
          · exact q9 (dt c83)
          · exact bl_n c96 q9
        have e9 : vrB (a 7) i (d + 1) x = vrB (a 7) (i + 1) d (x ||| ((1 : Int32) <<< ((a 7 i - 97) &&& 31))) := if_neg q
        have e8 : vrT (a 7) i (d + 1) x = vrT (a 7) (i + 1) d (x ||| ((1 : Int32) <<< ((a 7 i - 97) &&& 31))) := if_neg q
        rw [e9, e8] at K
        have h := h.cg (a' := va_up a 16 (upd (a 16) 1 (x ||| ((1 : Int32) <<< ((a 7 i - 97) &&& 31))))) (by rw [bx_uu]; show va_up a 16 (upd (upd (a 16) 1 x) 1 _) = _; rw [upd_uu]; rfl) rfl
        exact RR.pick [3, 1, 0] rfl (ih (i + 1) _ hh (by omega) h hF K)
/-- what stands behind a judge's strength: whether it may, where the reading goes on, what is told -/
def vsB (f : Nat → Int32) (L s : Nat) : Bool := if L ≤ s ∨ f s = 59 then true else if tkK f L s = 1 then decide (¬ vtT f L s = 0) else false
def vsV (f : Nat → Int32) (L s : Nat) : Int32 := if L ≤ s ∨ f s = 59 then 0 else vtT f L s
def vsS (f : Nat → Int32) (L s : Nat) : Nat := if L ≤ s ∨ f s = 59 then s else if tkK f L s = 1 ∧ ¬ vtT f L s = 0 then nx f L s else s
theorem vt_B {f : Nat → Int32} {L s : Nat} (hs : s < L) (h : smB (f s) = true) : decide (¬ vtT f L s = 0) = vrB f s (tkE f L s - s) 0 := by
  have hlt : s < tkE f L s := by
    unfold tkE
    rw [if_neg (by omega), if_pos h, show L - s = (L - s - 1) + 1 by omega, spn_s (p := fun j => smB (f j)) h]
    have := spn_ge (fun j => smB (f j)) (L - s - 1) (s + 1)
    omega
  cases q : vrB f s (tkE f L s - s) 0
  · exact decide_eq_false (fun r => r (vr_f _ _ _ q))
  · exact decide_eq_true (vr_t _ _ _ (Or.inl (by omega)) q)
set_option maxRecDepth 4000 in
theorem m_readsVersed (G : GG) (hh : HH) {k : Nat} {a : AA} {v : VV} {L : Nat} (hL : L ≤ 200) (hl : v 8 = nI L) {s : Nat} (hs : s ≤ L) (h : MdAt G hh k a (vfb v s (tkE (a 7) L s))) : EVi G mX5_readsVersed [.ref (ad G k)] hh (fun y h1 => y = bl (vsB (a 7) L s) ∧ ∃ w, (vsB (a 7) L s = true → w = vsV (a 7) L s) ∧ MdAt G h1 k (va_up a 16 (upd (a 16) 1 w)) (vfb v (vsS (a 7) L s) (tkE (a 7) L (vsS (a 7) L s))) ∧ Fr k (k + 11) hh h1) := by
  refine EV.of [(0, .ref (ad G k))] (by decide +kernel) (Nat.le_of_ble_eq_true rfl) rfl ?_
  have hse := tkE_ge (a 7) L s
  have heL := tkE_le (a 7) hs
  have hF : Fr k (k + 11) hh hh := Fr.rf
  refine R_aload_n dX5_readsVersed_0 rfl ?_
  refine R_get dX5_readsVersed_1 gf_X5_32 h.1 rfl ?_
  refine R_iconst (v := 1) dX5_readsVersed_4 (by decide) ?_
  refine R_iconst (v := 0) dX5_readsVersed_5 (by decide) ?_
  refine Md_ast16N dX5_readsVersed_6 h (by first | omega | decide) (fun hh h hF1 => ?_)
  have hF := hF.tr hF1 (by omega) (by omega)
  refine R_aload_n dX5_readsVersed_7 rfl ?_
  refine R_get dX5_readsVersed_8 gf_X5_75 h.1 rfl ?_
  refine RR.top (y := nI (s)) (rfl) ?_
  refine R_aload_n dX5_readsVersed_11 rfl ?_
  refine R_get dX5_readsVersed_12 gf_X5_61 h.1 rfl ?_
  refine RR.top (y := nI (L)) (hl) ?_
  refine R_icmp_eq (tgt := 32) dX5_readsVersed_15 (by decide) (fun c15 => ?_) (fun c15 => ?_)
  · refine R_iconst (v := 1) dX5_readsVersed_32 (by decide) ?_
    exact R_zret dX5_readsVersed_33 rfl (by first | exact Or.inl rfl | exact Or.inr rfl | assumption | exact bl01 _ | omega) (⟨_, rfl, by (have q7 : L ≤ s ∨ a 7 s = 59 := Or.inl (by have := (nI_eq (by omega) (by omega)).mp c15; omega); unfold vsB vsV vsS; rw [if_pos q7, if_pos q7, if_pos q7]; exact ⟨rfl, 0, fun _ => rfl, h, hF⟩)⟩)
  · have nlt0 : s < L := Nat.lt_of_le_of_ne hs (fun q9 => c15 ((nI_eq (by omega) (by omega)).mpr q9))
    refine R_aload_n dX5_readsVersed_18 rfl ?_
    refine R_get dX5_readsVersed_19 gf_X5_23 h.1 rfl ?_
    refine R_aload_n dX5_readsVersed_22 rfl ?_
    refine R_get dX5_readsVersed_23 gf_X5_75 h.1 rfl ?_
    refine RR.top (y := nI (s)) (rfl) ?_
    refine R_ialdN dX5_readsVersed_26 h.a7 (by first | omega | decide) (by decide) ?_
    refine R_bipush (v := 59) dX5_readsVersed_27 (by decide) ?_
    refine R_icmp_ne (tgt := 34) dX5_readsVersed_29 (by decide) (fun c29 => ?_) (fun c29 => ?_)
    · refine R_aload_n dX5_readsVersed_34 rfl ?_
      refine R_get dX5_readsVersed_35 gf_X5_23 h.1 rfl ?_
      refine R_aload_n dX5_readsVersed_38 rfl ?_
      refine R_get dX5_readsVersed_39 gf_X5_75 h.1 rfl ?_
      refine RR.top (y := nI (s)) (rfl) ?_
      refine R_ialdN dX5_readsVersed_42 h.a7 (by first | omega | decide) (by decide) ?_
      refine R_callSp dX5_readsVersed_43 cs_X5_78 ⟨by decide, by decide⟩ (d_isSmall G hh (a 7 s)) rfl rfl (Nat.le_of_ble_eq_true rfl) ?_
      refine R_istore_n dX5_readsVersed_46 (by decide) ?_
      refine R_aload_n dX5_readsVersed_47 rfl ?_
      refine R_get dX5_readsVersed_48 gf_X5_75 h.1 rfl ?_
      refine RR.top (y := nI (s)) (rfl) ?_
      refine R_istore_n dX5_readsVersed_51 (by decide) ?_
      have nlt : s < L := Nat.lt_of_le_of_ne hs (fun q9 => c15 ((nI_eq (by omega) (by omega)).mpr q9))
      have nq : ¬ (L ≤ s ∨ a 7 s = 59) := fun q9 => by
        rcases q9 with q9 | q9
        · omega
        · exact c29 q9
      cases hsm : smB (a 7 s)
      · refine RR.pick [2, 1, 0] rfl (l_vers0 G _ hL hl heL hse _ h hF (fun hh1 w hw h hF => ?_))
        have hk : ¬ tkK (a 7) L s = 1 := fun q9 => by
          unfold tkK at q9
          rw [if_neg (by omega), hsm, if_neg (by decide)] at q9
          split at q9 <;> exact absurd q9 (by decide)
        refine R_iload_n dX5_readsVersed_131 rfl ?_
        refine R_if_eq (tgt := 139) dX5_readsVersed_132 (by decide) (fun c132 => ?_) (fun c132 => absurd rfl c132)
        refine R_iload_n dX5_readsVersed_139 rfl ?_
        refine R_zret dX5_readsVersed_140 rfl (Or.inl rfl) ⟨_, rfl, ?_⟩
        unfold vsB vsV vsS
        rw [if_neg nq, if_neg nq, if_neg nq, if_neg hk, if_neg (fun q9 => hk q9.1)]
        exact ⟨rfl, w, fun q9 => Bool.noConfusion q9, h, hF⟩
      · refine RR.pick [2, 1, 0] rfl (l_vers G _ hL hl heL (tkE (a 7) L s - s) s 0 _ (by omega) h hF (fun hh1 w hw h hF => ?_))
        have hk : tkK (a 7) L s = 1 := (tk_sm nlt hsm).1
        have hB := vt_B nlt hsm
        refine R_iload_n dX5_readsVersed_131 rfl ?_
        refine R_if_eq (tgt := 139) dX5_readsVersed_132 (by decide) (fun c132 => ?_) (fun c132 => ?_)
        · refine R_iload_n dX5_readsVersed_139 rfl ?_
          refine R_zret dX5_readsVersed_140 rfl (bl01 _) ⟨_, rfl, ?_⟩
          have hf := Bool.eq_false_iff.mpr (bl_f c132)
          rw [hf] at hB hw ⊢
          unfold vsB vsV vsS
          rw [if_neg nq, if_neg nq, if_neg nq, if_pos hk, hB, if_neg (fun q9 => of_decide_eq_false hB q9.2)]
          exact ⟨rfl, w, fun q9 => Bool.noConfusion q9, h, hF⟩
        · refine R_aload_n dX5_readsVersed_135 rfl ?_
          refine R_callVv dX5_readsVersed_136 cv_X5_88 ⟨by decide, by decide⟩ (m_nextToken G hh1 hL hl heL h) h.1 rfl rfl rfl (Nat.le_of_ble_eq_true rfl) (fun hh2 hw2 => ?_)
          obtain ⟨h2, hF2⟩ := hw2
          refine R_iload_n dX5_readsVersed_139 rfl ?_
          refine R_zret dX5_readsVersed_140 rfl (bl01 _) ⟨_, rfl, ?_⟩
          have hf := bl_t c132
          rw [hf] at hB hw ⊢
          unfold vsB vsV vsS
          rw [if_neg nq, if_neg nq, if_neg nq, if_pos hk, hB, if_pos ⟨hk, of_decide_eq_true hB⟩]
          exact ⟨rfl, w, fun _ => hw rfl, h2, hF.tr hF2 (by omega) (by omega)⟩
    · refine R_iconst (v := 1) dX5_readsVersed_32 (by decide) ?_
      exact R_zret dX5_readsVersed_33 rfl (by first | exact Or.inl rfl | exact Or.inr rfl | assumption | exact bl01 _ | omega) (⟨_, rfl, by (have q7 : L ≤ s ∨ a 7 s = 59 := Or.inr (Classical.not_not.mp c29); unfold vsB vsV vsS; rw [if_pos q7, if_pos q7, if_pos q7]; exact ⟨rfl, 0, fun _ => rfl, h, hF⟩)⟩)
set_option maxRecDepth 4000 in
theorem m_readsRule (G : GG) (hh : HH) {k : Nat} {a : AA} {v : VV} {L : Nat} (hL : L ≤ 200) (hl : v 8 = nI L) {s : Nat} (hs : s ≤ L) (h : MdAt G hh k a (vfb v s (tkE (a 7) L s))) (hW : ∀ j, j < 54 → a 17 j = wdA j) : EVi G mX5_readsRule [.ref (ad G k)] hh (fun y h1 => if (rlT (a 7) L s) = -1 then y = 0 ∧ (∃ w, MdAt G h1 k (va_up a 16 (upd (a 16) 0 w)) (vfb v s (tkE (a 7) L s))) ∧ Fr k (k + 11) hh h1 else y = 1 ∧ MdAt G h1 k (va_up a 16 (upd (a 16) 0 (rlT (a 7) L s))) (vfb v (nx (a 7) L s) (tkE (a 7) L (nx (a 7) L s))) ∧ Fr k (k + 11) hh h1) := by
  refine EV.of [(0, .ref (ad G k))] (by decide +kernel) (Nat.le_of_ble_eq_true rfl) rfl ?_
  have hse := tkE_ge (a 7) L s
  have heL := tkE_le (a 7) hs
  have hF : Fr k (k + 11) hh hh := Fr.rf
  refine R_aload_n dX5_readsRule_0 rfl ?_
  refine R_get dX5_readsRule_1 gf_X5_32 h.1 rfl ?_
  refine R_iconst (v := 0) dX5_readsRule_4 (by decide) ?_
  refine R_aload_n dX5_readsRule_5 rfl ?_
  refine R_iconst (v := 0) dX5_readsRule_6 (by decide) ?_
  refine R_iconst (v := 3) dX5_readsRule_7 (by decide) ?_
  refine R_callVp dX5_readsRule_8 cv_X5_97 ⟨by decide, by decide⟩ (m_wordOf G hh hL hl hs h hW (i := 0) (t := 3) (by decide) (by decide)) h.1 rfl rfl rfl (Nat.le_of_ble_eq_true rfl) ?_
  refine RR.top (y := (rlT (a 7) L s)) (fwd_rul (a 7) L s) ?_
  refine Md_ast16N dX5_readsRule_11 h (by first | omega | decide) (fun hh h hF1 => ?_)
  have hF := hF.tr hF1 (by omega) (by omega)
  refine R_aload_n dX5_readsRule_12 rfl ?_
  refine R_get dX5_readsRule_13 gf_X5_32 h.1 rfl ?_
  refine R_iconst (v := 0) dX5_readsRule_16 (by decide) ?_
  refine R_ialdN dX5_readsRule_17 h.a16 (by first | omega | decide) (by decide) ?_
  refine RR.top (y := (rlT (a 7) L s)) (show upd (a 16) 0 (rlT (a 7) L s) 0 = (rlT (a 7) L s) from pk_us) ?_
  refine R_iconst (v := (-1)) dX5_readsRule_18 (by decide) ?_
  refine R_icmp_eq (tgt := 26) dX5_readsRule_19 (by decide) (fun c19 => ?_) (fun c19 => ?_)
  · refine R_iconst (v := 0) dX5_readsRule_26 (by decide) ?_
    refine R_istore_n dX5_readsRule_27 (by decide) ?_
    refine R_iload_n dX5_readsRule_28 rfl ?_
    refine R_if_eq (tgt := 36) dX5_readsRule_29 (by decide) (fun c29 => ?_) (fun c29 => absurd (show (0 : Int32) = 0 from rfl) c29)
    refine R_iload_n dX5_readsRule_36 rfl ?_
    exact R_zret dX5_readsRule_37 rfl (by first | exact Or.inl rfl | exact Or.inr rfl | assumption | exact bl01 _ | omega) (⟨_, rfl, by (dsimp only; rw [if_pos c19]; exact ⟨rfl, ⟨_, h⟩, hF⟩)⟩)
  · refine R_iconst (v := 1) dX5_readsRule_22 (by decide) ?_
    refine R_goto (tgt := 27) dX5_readsRule_23 (by decide) ?_
    refine R_istore_n dX5_readsRule_27 (by decide) ?_
    refine R_iload_n dX5_readsRule_28 rfl ?_
    refine R_if_eq (tgt := 36) dX5_readsRule_29 (by decide) (fun c29 => absurd c29 (show ¬ (1 : Int32) = 0 by decide)) (fun c29 => ?_)
    refine R_aload_n dX5_readsRule_32 rfl ?_
    refine R_callVv dX5_readsRule_33 cv_X5_88 ⟨by decide, by decide⟩ (m_nextToken G hh hL hl heL h) h.1 rfl rfl rfl (Nat.le_of_ble_eq_true rfl) (fun hh hw => ?_)
    obtain ⟨h, hF1⟩ := hw
    have hF := hF.tr hF1 (by omega) (by omega)
    refine R_iload_n dX5_readsRule_36 rfl ?_
    exact R_zret dX5_readsRule_37 rfl (by first | exact Or.inl rfl | exact Or.inr rfl | assumption | exact bl01 _ | omega) (⟨_, rfl, by (dsimp only; rw [if_neg c19]; exact ⟨rfl, h, hF⟩)⟩)
