/-- two states agree: n judges, m cases, scalars -/
def agS (n m : Nat) (a : AA) (v : VV) (a' : AA) (v' : VV) : Prop := (∀ f j, f < 4 → j < n → a f j = a' f j) ∧ (∀ f c, 4 ≤ f → f < 7 → c < m → a f c = a' f c) ∧ eqV v v'
theorem agS.J {n m : Nat} {a a' : AA} {v v' : VV} (h : agS n m a v a' v') : agJ n a v a' v' := ⟨h.1, h.2.2 9 (by omega) (by omega), h.2.2 10 (by omega) (by omega)⟩
theorem ag_row {a a' : AA} {v v' : VV} {B B' n : Nat} (hn : n ≤ 6) (h0 : ∀ i, 4 ≤ i → i < 17 → a' 0 (B' + i) = a 0 (B + i)) (h3 : a' 3 = a 3) (h4 : a' 4 = a 4) (h2 : v' 2 = v 2) : agJ n (mA a' B') (mV a' v' B') (mA a B) (mV a v B) := by
  refine ⟨fun f j h1 hj => ?_, h0 4 (by omega) (by omega), h2⟩
  rcases (show f = 0 ∨ f = 1 ∨ f = 2 ∨ f = 3 by omega) with rfl | rfl | rfl | rfl
  · exact congrFun h3 j
  · exact congrFun h4 j
  · have := h0 (5 + j) (by omega) (by omega)
    rw [← Nat.add_assoc, ← Nat.add_assoc] at this
    exact this
  · have := h0 (11 + j) (by omega) (by omega)
    rw [← Nat.add_assoc, ← Nat.add_assoc] at this
    exact this
theorem asR_o {a : AA} {v : VV} {B n J i : Nat} {c t : Int32} (h1 : i ≠ B + 1) (h2 : i ≠ B + 2) (h3 : i < B + 11 ∨ B + 11 + n ≤ i) : asR a v B n J c t i = a 0 i := by
  unfold asR
  rw [dbR_o h3, chR_o _ _ _ h1 h2]
theorem asR_1 {a : AA} {v : VV} {B n J : Nat} {c t : Int32} : asR a v B n J c t (B + 1) = c := by unfold asR; rw [dbR_o (by omega), chR_1]
theorem asR_2 {a : AA} {v : VV} {B n J : Nat} {c t : Int32} : asR a v B n J c t (B + 2) = t := by unfold asR; rw [dbR_o (by omega), chR_2]
theorem asR_d {a : AA} {v : VV} {B n J j : Nat} {c t : Int32} : asR a v B n J c t (B + 11 + j) = mixA (nwD (mA a B) (mV a v B) (nI J) n) (mA a B 3) n j := by
  unfold asR mixA
  by_cases q : j < n
  · rw [dbR_i q, if_pos q]
  · rw [dbR_o (by omega), chR_o _ _ _ (by omega) (by omega), if_neg q]; rfl
theorem as_ag {a : AA} {v : VV} {B n J : Nat} {c t : Int32} (hn : n ≤ 6) {b : AA} {u u' : VV} (h : agJ n b u (mA a B) (mV a v B)) (h9 : u' 9 = u 9) (h10 : u' 10 = u 10) : agJ n (setD b u (nI J) n) u' (mA (va_up a 0 (asR a v B n J c t)) B) (mV (va_up a 0 (asR a v B n J c t)) v B) := by
  have h' := h.set (nI J)
  refine ⟨fun f j h1 hj => ?_, ?_, ?_⟩
  · rw [h'.1 f j h1 hj]
    rcases (show f = 0 ∨ f = 1 ∨ f = 2 ∨ f = 3 by omega) with rfl | rfl | rfl | rfl
    · rfl
    · rfl
    · exact (asR_o (by omega) (by omega) (by omega)).symm
    · exact (asR_d).symm
  · rw [h9, h.2.1]; exact (asR_o (by omega) (by omega) (by omega)).symm
  · rw [h10, h.2.2]; rfl
theorem HX.n0 {a : AA} {v : VV} {s p : Int32} {n : Nat} (h : HX a v s p n) : 0 < n := by
  rcases Nat.eq_zero_or_pos n with e | e
  · subst e; exact absurd h.1 (show ¬ (1 : Int32) ≤ 0 by decide)
  · exact e

set_option maxRecDepth 4000 in
theorem m_write (G : GG) (hh : HH) {k : Nat} {a : AA} {v : VV} (h : MdAt G hh k a v) {tL : Nat} (htL : tL ≤ 200) (hl : v 8 = nI tL) (x : Int32) : EVi G mX5_write [.ref (ad G k), .int x] hh (fun w h1 => match erWrite tL x with | some e => w = e ∧ h1 = hh | none => w = nI (tL + 1) ∧ MdAt G h1 k (va_up a 7 (upd (a 7) tL x)) (va_up v 8 (nI (tL + 1))) ∧ Fr k (k + 11) hh h1) := by
  refine EV.of [(0, .ref (ad G k)), (1, .int x)] (by decide +kernel) (Nat.le_of_ble_eq_true rfl) rfl ?_
  have hF : Fr k (k + 11) hh hh := Fr.rf
  refine R_iload_n dX5_write_0 rfl ?_
  refine R_i2l dX5_write_1 ?_
  refine R_lconst (v := 0) dX5_write_2 (by decide) ?_
  refine R_ldc2 dX5_write_3 kc_X5_55 ?_
  refine R_callSp dX5_write_6 cs_X5_57 ⟨by decide, by decide⟩ (d_in255 G hh x) rfl rfl (Nat.le_of_ble_eq_true rfl) ?_
  refine R_if_ne (tgt := 15) dX5_write_9 (by decide) (fun c9 => ?_) (fun c9 => ?_)
  · refine R_aload_n dX5_write_15 rfl ?_
    refine R_get dX5_write_16 gf_X5_61 h.1 rfl ?_
    refine R_sipush (v := 200) dX5_write_19 (by decide) ?_
    refine R_icmp_ne (tgt := 28) dX5_write_22 (by decide) (fun c22 => ?_) (fun c22 => ?_)
    · have hL : tL + 1 ≤ 200 := by
        rcases Nat.lt_or_ge tL 200 with q | q
        · omega
        · have e : tL = 200 := by omega
          subst e
          exact absurd hl c22
      refine R_aload_n dX5_write_28 rfl ?_
      refine R_get dX5_write_29 gf_X5_23 h.1 rfl ?_
      refine R_aload_n dX5_write_32 rfl ?_
      refine R_get dX5_write_33 gf_X5_61 h.1 rfl ?_
      refine RR.top (y := nI tL) hl ?_
      refine R_iload_n dX5_write_36 rfl ?_
      refine Md_ast7N dX5_write_37 h (by first | omega | decide) (fun hh h hF1 => ?_)
      have hF := hF.tr hF1 (by omega) (by omega)
      refine R_aload_n dX5_write_38 rfl ?_
      refine R_dup dX5_write_39 rfl ?_
      refine R_get dX5_write_40 gf_X5_61 h.1 rfl ?_
      refine R_iconst (v := 1) dX5_write_43 (by decide) ?_
      refine R_iadd dX5_write_44 ?_
      refine RR.top (y := nI (tL + 1)) (by show v 8 + 1 = _; rw [hl]; exact nI_1 tL) ?_
      refine Md_put8 dX5_write_45 pf_X5_61 h (fun hh h hF1 => ?_)
      have hF := hF.tr hF1 (by omega) (by omega)
      refine R_aload_n dX5_write_48 rfl ?_
      refine R_get dX5_write_49 gf_X5_61 h.1 rfl ?_
      exact R_iret dX5_write_52 rfl (⟨_, rfl, by (have hE : erWrite tL x = none := by (unfold erWrite; rw [if_pos (dt c9), if_pos hL])); (rw [hE]); exact ⟨rfl, h, hF⟩⟩)
    · refine R_bipush (v := (-5)) dX5_write_25 (by decide) ?_
      exact R_iret dX5_write_27 rfl (⟨_, rfl, by (have hE : erWrite tL x = some (-5) := by (unfold erWrite; rw [if_pos (dt c9), if_neg (by rw [hl] at c22; have := (nI_eq (b := 200) (by omega) (by decide)).mp (Classical.not_not.mp c22); omega)])); (rw [hE]); exact ⟨rfl, rfl⟩⟩)
  · refine R_bipush (v := (-3)) dX5_write_12 (by decide) ?_
    exact R_iret dX5_write_14 rfl (⟨_, rfl, by (have hE : erWrite tL x = some (-3) := by (unfold erWrite; rw [if_neg (dfn c9)])); (rw [hE]); exact ⟨rfl, rfl⟩⟩)
set_option maxRecDepth 4000 in
theorem m_erase (G : GG) (hh : HH) {k : Nat} {a : AA} {v : VV} (h : MdAt G hh k a v) : EVi G mX5_erase [.ref (ad G k)] hh (fun w h1 => w = v 8 ∧ MdAt G h1 k a (va_up v 8 0) ∧ Fr k (k + 11) hh h1) := by
  refine EV.of [(0, .ref (ad G k))] (by decide +kernel) (Nat.le_of_ble_eq_true rfl) rfl ?_
  have hF : Fr k (k + 11) hh hh := Fr.rf
  refine R_aload_n dX5_erase_0 rfl ?_
  refine R_get dX5_erase_1 gf_X5_61 h.1 rfl ?_
  refine R_istore_n dX5_erase_4 (by decide) ?_
  refine R_aload_n dX5_erase_5 rfl ?_
  refine R_iconst (v := 0) dX5_erase_6 (by decide) ?_
  refine Md_put8 dX5_erase_7 pf_X5_61 h (fun hh h hF1 => ?_)
  have hF := hF.tr hF1 (by omega) (by omega)
  refine R_iload_n dX5_erase_10 rfl ?_
  exact R_iret dX5_erase_11 rfl (⟨_, rfl, rfl, h, hF⟩)
set_option maxRecDepth 4000 in
theorem m_seal (G : GG) (hh : HH) {k : Nat} {a : AA} {v : VV} (h : MdAt G hh k a v) (s : Int32) : EVi G mX5_seal [.ref (ad G k), .int s] hh (fun w h1 => match erSeal s with | some e => w = e ∧ h1 = hh | none => w = a 0 3 ∧ MdAt G h1 k (va_up a 0 (seR (a 0) 0 s)) (va_up v 5 0) ∧ Fr k (k + 11) hh h1) := by
  refine EV.of [(0, .ref (ad G k)), (1, .int s)] (by decide +kernel) (Nat.le_of_ble_eq_true rfl) rfl ?_
  have hF : Fr k (k + 11) hh hh := Fr.rf
  refine R_iload_n dX5_seal_0 rfl ?_
  refine R_iconst (v := 1) dX5_seal_1 (by decide) ?_
  refine R_icmp_ge (tgt := 8) dX5_seal_2 (by decide) (fun c2 => ?_) (fun c2 => ?_)
  · refine R_aload_n dX5_seal_8 rfl ?_
    refine R_get dX5_seal_9 gf_X5_7 h.1 rfl ?_
    refine R_iconst (v := 3) dX5_seal_12 (by decide) ?_
    refine R_ialdN dX5_seal_13 h.a0 (by first | omega | decide) (by decide) ?_
    refine R_istore_n dX5_seal_14 (by decide) ?_
    refine R_aload_n dX5_seal_15 rfl ?_
    refine R_iconst (v := 0) dX5_seal_16 (by decide) ?_
    refine R_iload_n dX5_seal_17 rfl ?_
    refine R_callVv dX5_seal_18 cv_X5_168 ⟨by decide, by decide⟩ (m_sealAt G hh h 0 (by omega) s) h.1 rfl rfl rfl (Nat.le_of_ble_eq_true rfl) (fun hh hw => ?_)
    obtain ⟨h, hF1⟩ := hw
    have hF := hF.tr hF1 (by omega) (by omega)
    refine R_aload_n dX5_seal_21 rfl ?_
    refine R_iconst (v := 0) dX5_seal_22 (by decide) ?_
    refine Md_put5 dX5_seal_23 pf_X5_136 h (fun hh h hF1 => ?_)
    have hF := hF.tr hF1 (by omega) (by omega)
    refine R_iload_n dX5_seal_26 rfl ?_
    exact R_iret dX5_seal_27 rfl (⟨_, rfl, by (have hE : erSeal s = none := by (unfold erSeal; rw [if_pos c2])); (rw [hE]); exact ⟨rfl, h, hF⟩⟩)
  · refine R_bipush (v := (-3)) dX5_seal_5 (by decide) ?_
    exact R_iret dX5_seal_7 rfl (⟨_, rfl, by (have hE : erSeal s = some (-3) := by (unfold erSeal; rw [if_neg c2])); (rw [hE]); exact ⟨rfl, rfl⟩⟩)
/-- the row behind a new case m of judge J -/
def nwR (a : AA) (v : VV) (z n m J : Nat) (s p c t : Int32) : Nat → Int32 := upd (upd (asR (va_up a 0 (upd (upd (kpR (a 0) z) (17 + m) s) (37 + m) p)) v 0 n J c t) (57 + m) (nI J)) 3 (nI (m + 1))
theorem nw_ag (a : AA) (v : VV) (z n m : Nat) (hn : n ≤ 6) (s p : Int32) : agJ n (mA (va_up a 0 (upd (upd (kpR (a 0) z) (17 + m) s) (37 + m) p)) 0) (mV (va_up a 0 (upd (upd (kpR (a 0) z) (17 + m) s) (37 + m) p)) v 0) (mA a 0) (mV a v 0) := ag_row hn (fun i h1 h2 => by
  show upd (upd (kpR (a 0) z) (17 + m) s) (37 + m) p (0 + i) = a 0 (0 + i)
  rw [pk_un (by omega), pk_un (by omega), kpR_lo (by omega)]) rfl rfl rfl
theorem nw_hi {a : AA} {v : VV} {z n m J : Nat} {s p c t : Int32} (hn : n ≤ 6) (hm : m < 20) {j : Nat} (hj : 77 ≤ j) : nwR a v z n m J s p c t j = kpR (a 0) z j := by
  unfold nwR
  rw [pk_un (by omega), pk_un (by omega), asR_o (by omega) (by omega) (by omega)]
  show upd (upd (kpR (a 0) z) (17 + m) s) (37 + m) p j = _
  rw [pk_un (by omega), pk_un (by omega)]
theorem nw_lo {a : AA} {v : VV} {z n m J : Nat} {s p c t : Int32} {j : Nat} (hj : j < 77) (h3 : j ≠ 3) (h57 : j ≠ 57 + m) (h1 : j ≠ 1) (h2 : j ≠ 2) (h11 : j < 11 ∨ 11 + n ≤ j) (h17 : j ≠ 17 + m) (h37 : j ≠ 37 + m) : nwR a v z n m J s p c t j = a 0 j := by
  unfold nwR
  rw [pk_un h3, pk_un h57, asR_o (by omega) (by omega) (by omega)]
  show upd (upd (kpR (a 0) z) (17 + m) s) (37 + m) p j = _
  rw [pk_un h37, pk_un h17, kpR_lo hj]
theorem nw_3 {a : AA} {v : VV} {z n m J : Nat} {s p c t x : Int32} (hc : a 0 3 = nI m) : upd (asR (va_up a 0 (upd (upd (kpR (a 0) z) (17 + m) s) (37 + m) p)) v 0 n J c t) (57 + m) x 3 + 1 = nI (m + 1) := by
  rw [pk_un (by omega), asR_o (by omega) (by omega) (by omega)]
  show upd (upd (kpR (a 0) z) (17 + m) s) (37 + m) p 3 + 1 = _
  rw [pk_un (by omega), pk_un (by omega), kpR_lo (by omega), hc]
  exact nI_1 m
theorem nw_view {a : AA} {v : VV} {z n m J K : Nat} {s p : Int32} (hn : n ≤ 6) (hm : m < 20) : agS 6 20 (mA (va_up a 0 (nwR a v z n m J s p (itT K (a 0 1)) (a 0 2 + nI K))) 0) (mV (va_up a 0 (nwR a v z n m J s p (itT K (a 0 1)) (a 0 2 + nI K))) v 0) (addA (mA a 0) (mV a v 0) s p n J m) (addV (mV a v 0) K m) := by
  refine ⟨fun f j h1 hj => ?_, fun f j h1 h2 hj => ?_, fun i h1 h2 => ?_⟩
  · rcases (show f = 0 ∨ f = 1 ∨ f = 2 ∨ f = 3 by omega) with rfl | rfl | rfl | rfl
    · rfl
    · rfl
    · exact nw_lo (by omega) (by omega) (by omega) (by omega) (by omega) (by omega) (by omega) (by omega)
    · show nwR a v z n m J s p (itT K (a 0 1)) (a 0 2 + nI K) (0 + 11 + j) = mixA (nwD (mA a 0) (mV a v 0) (nI J) n) (mA a 0 3) n j
      unfold nwR
      rw [pk_un (by omega), pk_un (by omega), asR_d]
      unfold mixA
      by_cases q : j < n
      · rw [if_pos q, if_pos q]
        exact (nw_ag a v z n m hn s p).nn q (nI J)
      · rw [if_neg q, if_neg q]
        show upd (upd (kpR (a 0) z) (17 + m) s) (37 + m) p (0 + 11 + j) = a 0 (0 + 11 + j)
        rw [pk_un (by omega), pk_un (by omega), kpR_lo (by omega)]
  · rcases (show f = 4 ∨ f = 5 ∨ f = 6 by omega) with rfl | rfl | rfl
    · show nwR a v z n m J s p (itT K (a 0 1)) (a 0 2 + nI K) (0 + 17 + j) = upd (mA a 0 4) m s j
      by_cases e : j = m
      · subst e
        rw [pk_us]
        unfold nwR
        rw [pk_un (by omega), pk_un (by omega), asR_o (by omega) (by omega) (by omega)]
        show upd (upd (kpR (a 0) z) (17 + j) s) (37 + j) p (0 + 17 + j) = _
        rw [pk_un (by omega), show 0 + 17 + j = 17 + j by omega, pk_us]
      · rw [pk_un e]
        exact nw_lo (by omega) (by omega) (by omega) (by omega) (by omega) (by omega) (by omega) (by omega)
    · show nwR a v z n m J s p (itT K (a 0 1)) (a 0 2 + nI K) (0 + 37 + j) = upd (mA a 0 5) m p j
      by_cases e : j = m
      · subst e
        rw [pk_us]
        unfold nwR
        rw [pk_un (by omega), pk_un (by omega), asR_o (by omega) (by omega) (by omega)]
        show upd (upd (kpR (a 0) z) (17 + j) s) (37 + j) p (0 + 37 + j) = _
        rw [show 0 + 37 + j = 37 + j by omega, pk_us]
      · rw [pk_un e]
        exact nw_lo (by omega) (by omega) (by omega) (by omega) (by omega) (by omega) (by omega) (by omega)
    · show nwR a v z n m J s p (itT K (a 0 1)) (a 0 2 + nI K) (0 + 57 + j) = upd (mA a 0 6) m (nI J) j
      by_cases e : j = m
      · subst e
        rw [pk_us]
        unfold nwR
        rw [pk_un (by omega), show 0 + 57 + j = 57 + j by omega, pk_us]
      · rw [pk_un e]
        exact nw_lo (by omega) (by omega) (by omega) (by omega) (by omega) (by omega) (by omega) (by omega)
  · rcases (show i = 8 ∨ i = 9 ∨ i = 10 ∨ i = 11 ∨ i = 12 ∨ i = 13 ∨ i = 14 by omega) with rfl | rfl | rfl | rfl | rfl | rfl | rfl
    · rfl
    · exact nw_lo (j := 4) (by omega) (by omega) (by omega) (by omega) (by omega) (by omega) (by omega) (by omega)
    · rfl
    · exact nw_lo (j := 0) (by omega) (by omega) (by omega) (by omega) (by omega) (by omega) (by omega) (by omega)
    · show nwR a v z n m J s p (itT K (a 0 1)) (a 0 2 + nI K) (0 + 1) = itT K (a 0 1)
      unfold nwR
      rw [pk_un (by omega), pk_un (by omega), asR_1]
    · show nwR a v z n m J s p (itT K (a 0 1)) (a 0 2 + nI K) (0 + 2) = a 0 2 + nI K
      unfold nwR
      rw [pk_un (by omega), pk_un (by omega), asR_2]
    · show nwR a v z n m J s p (itT K (a 0 1)) (a 0 2 + nI K) (0 + 3) = nI (m + 1)
      unfold nwR
      exact pk_us
set_option maxRecDepth 4000 in
theorem m_assign (G : GG) (hh : HH) {k : Nat} {a : AA} {v : VV} (h : MdAt G hh k a v) {n : Nat} (hn : n ≤ 6) (hv : v 1 = nI n) (hr : ruleOK (v 2)) {m : Nat} (hm : m ≤ 20) (hc : a 0 3 = nI m) {z : Nat} (hz8 : z ≤ 8) (hz : v 5 = nI z) (s p : Int32) (hX : erAsg (mA a 0) (mV a v 0) n m s p = none → HX (mA a 0) (mV a v 0) s p n) : EVi G mX5_assign [.ref (ad G k), .int s, .int p] hh (fun w h1 => match erAsg (mA a 0) (mV a v 0) n m s p with | some e => w = e ∧ h1 = hh | none => w = nI (jF (mA a 0) (mV a v 0) s p n) ∧ ∃ R, MdAt G h1 k (va_up a 0 R) (va_up v 5 (nI (hiZ z))) ∧ (∀ j, 77 ≤ j → R j = kpR (a 0) z j) ∧ agS 6 20 (mA (va_up a 0 R) 0) (mV (va_up a 0 R) v 0) (addA (mA a 0) (mV a v 0) s p n (jF (mA a 0) (mV a v 0) s p n) m) (addV (mV a v 0) (Kf (mA a 0) (mV a v 0) s p n) m) ∧ Fr k (k + 11) hh h1) := by
  refine EV.of [(0, .ref (ad G k)), (1, .int s), (2, .int p)] (by decide +kernel) (Nat.le_of_ble_eq_true rfl) rfl ?_
  have hF : Fr k (k + 11) hh hh := Fr.rf
  refine R_iload_n dX5_assign_0 rfl ?_
  refine R_callSp dX5_assign_1 cs_X5_173 ⟨by decide, by decide⟩ (d_isSubject G hh s) rfl rfl (Nat.le_of_ble_eq_true rfl) ?_
  refine R_if_eq (tgt := 14) dX5_assign_4 (by decide) (fun c4 => ?_) (fun c4 => ?_)
  · refine R_bipush (v := (-3)) dX5_assign_14 (by decide) ?_
    exact R_iret dX5_assign_16 rfl (⟨_, rfl, by (have hE : erAsg (mA a 0) (mV a v 0) n m s p = some (-3) := by (unfold erAsg; rw [if_neg (fun q => df c4 q.1)])); (rw [hE]); exact ⟨rfl, rfl⟩⟩)
  · refine R_iload_n dX5_assign_7 rfl ?_
    refine R_callSp dX5_assign_8 cs_X5_176 ⟨by decide, by decide⟩ (d_isParty G hh p) rfl rfl (Nat.le_of_ble_eq_true rfl) ?_
    refine R_if_ne (tgt := 17) dX5_assign_11 (by decide) (fun c11 => ?_) (fun c11 => ?_)
    · refine R_aload_n dX5_assign_17 rfl ?_
      refine R_iconst (v := 0) dX5_assign_18 (by decide) ?_
      refine R_iload_n dX5_assign_19 rfl ?_
      refine R_iconst (v := (-1)) dX5_assign_20 (by decide) ?_
      refine R_callVp dX5_assign_21 cv_X5_179 ⟨by decide, by decide⟩ (m_isAnyone G hh h hn hv (B := 0) (by omega) p (-1)) h.1 rfl rfl rfl (Nat.le_of_ble_eq_true rfl) ?_
      refine R_if_ne (tgt := 30) dX5_assign_24 (by decide) (fun c24 => ?_) (fun c24 => ?_)
      · refine R_aload_n dX5_assign_30 rfl ?_
        refine R_get dX5_assign_31 gf_X5_7 h.1 rfl ?_
        refine R_iconst (v := 3) dX5_assign_34 (by decide) ?_
        refine R_ialdN dX5_assign_35 h.a0 (by first | omega | decide) (by decide) ?_
        refine RR.top (y := nI (m)) (hc) ?_
        refine R_bipush (v := 20) dX5_assign_36 (by decide) ?_
        refine R_icmp_ne (tgt := 44) dX5_assign_38 (by decide) (fun c38 => ?_) (fun c38 => ?_)
        · have hm20 : m < 20 := by
            rcases Nat.lt_or_ge m 20 with q | q
            · exact q
            · have e : m = 20 := by omega
              subst e
              exact absurd rfl c38
          have hE : erAsg (mA a 0) (mV a v 0) n m s p = none := by (unfold erAsg; rw [if_pos ⟨dt c4, dt c11⟩, if_pos (bl_t c24), if_pos hm20])
          have hX1 := hX hE
          have hn0 := hX1.n0
          have hKf := (hX1.K).1
          refine R_aload_n dX5_assign_44 rfl ?_
          refine R_callVv dX5_assign_45 cv_X5_182 ⟨by decide, by decide⟩ (m_keepPast G hh h hz8 hz) h.1 rfl rfl rfl (Nat.le_of_ble_eq_true rfl) (fun hh hw => ?_)
          obtain ⟨h, hF1⟩ := hw
          have hF := hF.tr hF1 (by omega) (by omega)
          refine R_aload_n dX5_assign_48 rfl ?_
          refine R_get dX5_assign_49 gf_X5_7 h.1 rfl ?_
          refine R_iconst (v := 3) dX5_assign_52 (by decide) ?_
          refine R_ialdN dX5_assign_53 h.a0 (by first | omega | decide) (by decide) ?_
          refine RR.top (y := nI (m)) ((kpR_lo (by decide)).trans hc) ?_
          refine R_istore_n dX5_assign_54 (by decide) ?_
          refine R_aload_n dX5_assign_55 rfl ?_
          refine R_get dX5_assign_56 gf_X5_7 h.1 rfl ?_
          refine R_bipush (v := 17) dX5_assign_59 (by decide) ?_
          refine R_iload_n dX5_assign_61 rfl ?_
          refine R_iadd dX5_assign_62 ?_
          refine RR.top (y := nI (17 + m)) (nI_add (17) (m)) ?_
          refine R_iload_n dX5_assign_63 rfl ?_
          refine Md_ast0N dX5_assign_64 h (by first | omega | decide) (fun hh h hF1 => ?_)
          have hF := hF.tr hF1 (by omega) (by omega)
          refine R_aload_n dX5_assign_65 rfl ?_
          refine R_get dX5_assign_66 gf_X5_7 h.1 rfl ?_
          refine R_bipush (v := 37) dX5_assign_69 (by decide) ?_
          refine R_iload_n dX5_assign_71 rfl ?_
          refine R_iadd dX5_assign_72 ?_
          refine RR.top (y := nI (37 + m)) (nI_add (37) (m)) ?_
          refine R_iload_n dX5_assign_73 rfl ?_
          refine Md_ast0N dX5_assign_74 h (by first | omega | decide) (fun hh h hF1 => ?_)
          have hF := hF.tr hF1 (by omega) (by omega)
          refine R_aload_n dX5_assign_75 rfl ?_
          refine R_get dX5_assign_76 gf_X5_7 h.1 rfl ?_
          refine R_bipush (v := 57) dX5_assign_79 (by decide) ?_
          refine R_iload_n dX5_assign_81 rfl ?_
          refine R_iadd dX5_assign_82 ?_
          refine RR.top (y := nI (57 + m)) (nI_add (57) (m)) ?_
          refine R_aload_n dX5_assign_83 rfl ?_
          refine R_iconst (v := 0) dX5_assign_84 (by decide) ?_
          refine R_iload_n dX5_assign_85 rfl ?_
          refine R_iload_n dX5_assign_86 rfl ?_
          have h := h.cg (a' := (va_up a 0 (upd (upd (kpR (a 0) z) (17 + m) s) (37 + m) p))) (by rw [bx_uu, bx_uu]; rfl) rfl
          have hag := nw_ag a v z n m hn s p
          have hch : (va_up a 0 (upd (upd (kpR (a 0) z) (17 + m) s) (37 + m) p)) 0 (0 + 1) = a 0 1 := by
            show upd (upd (kpR (a 0) z) (17 + m) s) (37 + m) p 1 = a 0 1
            rw [pk_un (by omega), pk_un (by omega), kpR_lo (by omega)]
          have htn : (va_up a 0 (upd (upd (kpR (a 0) z) (17 + m) s) (37 + m) p)) 0 (0 + 2) = a 0 2 := by
            show upd (upd (kpR (a 0) z) (17 + m) s) (37 + m) p 2 = a 0 2
            rw [pk_un (by omega), pk_un (by omega), kpR_lo (by omega)]
          refine R_callVi dX5_assign_87 cv_X5_185 ⟨by decide, by decide⟩ (m_assigned G hh h (B := 0) (by omega) hr hn hv hn0 s p (by (rw [show totW (mA (va_up a 0 (upd (upd (kpR (a 0) z) (17 + m) s) (37 + m) p)) 0) (mV (va_up a 0 (upd (upd (kpR (a 0) z) (17 + m) s) (37 + m) p)) (va_up v 5 (nI (hiZ z))) 0) s n = totW (mA a 0) (mV a v 0) s n from hag.tot s]); exact hX1.1) (K := (Kf (mA a 0) (mV a v 0) s p n)) (by (rw [hch]); (show firstK (mA (va_up a 0 (upd (upd (kpR (a 0) z) (17 + m) s) (37 + m) p)) 0) (mV (va_up a 0 (upd (upd (kpR (a 0) z) (17 + m) s) (37 + m) p)) v 0) s p n (a 0 1) (Kf (mA a 0) (mV a v 0) s p n)); rw [hag.first hn0]; exact hKf)) h.1 rfl rfl rfl (Nat.le_of_ble_eq_true rfl) (fun w1 hh hw => ?_)
          obtain ⟨rfl, h, hF1⟩ := hw
          have hF := hF.tr hF1 (by omega) (by omega)
          have eJ : judOf (mA (va_up a 0 (upd (upd (kpR (a 0) z) (17 + m) s) (37 + m) p)) 0) (mV (va_up a 0 (upd (upd (kpR (a 0) z) (17 + m) s) (37 + m) p)) (va_up v 5 (nI (hiZ z))) 0) s n (itT (Kf (mA a 0) (mV a v 0) s p n) ((va_up a 0 (upd (upd (kpR (a 0) z) (17 + m) s) (37 + m) p)) 0 (0 + 1))) = (jF (mA a 0) (mV a v 0) s p n) := by
            rw [hch]
            exact hag.jud s _
          rw [eJ, hch, htn] at h
          rw [eJ]
          refine Md_ast0N dX5_assign_90 h (by first | omega | decide) (fun hh h hF1 => ?_)
          have hF := hF.tr hF1 (by omega) (by omega)
          refine R_aload_n dX5_assign_91 rfl ?_
          refine R_get dX5_assign_92 gf_X5_7 h.1 rfl ?_
          refine R_iconst (v := 3) dX5_assign_95 (by decide) ?_
          refine R_dup2 dX5_assign_96 rfl rfl ?_
          refine R_ialdN dX5_assign_97 h.a0 (by first | omega | decide) (by decide) ?_
          refine R_iconst (v := 1) dX5_assign_98 (by decide) ?_
          refine R_iadd dX5_assign_99 ?_
          refine RR.top (y := nI (m + 1)) (nw_3 (v := (va_up v 5 (nI (hiZ z)))) (n := n) (J := (jF (mA a 0) (mV a v 0) s p n)) (c := itT (Kf (mA a 0) (mV a v 0) s p n) (a 0 1)) (t := a 0 2 + nI (Kf (mA a 0) (mV a v 0) s p n)) hc) ?_
          refine Md_ast0N dX5_assign_100 h (by first | omega | decide) (fun hh h hF1 => ?_)
          have hF := hF.tr hF1 (by omega) (by omega)
          have h := h.cg (a' := va_up a 0 (nwR a v z n m (jF (mA a 0) (mV a v 0) s p n) s p (itT (Kf (mA a 0) (mV a v 0) s p n) (a 0 1)) (a 0 2 + nI (Kf (mA a 0) (mV a v 0) s p n)))) (by rw [bx_uu, bx_uu, bx_uu]; rfl) rfl
          refine R_aload_n dX5_assign_101 rfl ?_
          refine R_get dX5_assign_102 gf_X5_7 h.1 rfl ?_
          refine R_bipush (v := 57) dX5_assign_105 (by decide) ?_
          refine R_iload_n dX5_assign_107 rfl ?_
          refine R_iadd dX5_assign_108 ?_
          refine RR.top (y := nI (57 + m)) (nI_add (57) (m)) ?_
          refine R_ialdN dX5_assign_109 h.a0 (by first | omega | decide) (by decide) ?_
          exact R_iret dX5_assign_110 rfl (⟨_, rfl, by (rw [hE]); exact ⟨(by (show upd (upd (asR _ _ 0 n _ _ _) (57 + m) _) 3 _ (57 + m) = _); rw [pk_un (by omega), pk_us]), nwR a v z n m (jF (mA a 0) (mV a v 0) s p n) s p (itT (Kf (mA a 0) (mV a v 0) s p n) (a 0 1)) (a 0 2 + nI (Kf (mA a 0) (mV a v 0) s p n)), h, fun j hj => nw_hi hn hm20 hj, nw_view hn hm20, hF⟩⟩)
        · refine R_bipush (v := (-5)) dX5_assign_41 (by decide) ?_
          exact R_iret dX5_assign_43 rfl (⟨_, rfl, by (have hE : erAsg (mA a 0) (mV a v 0) n m s p = some (-5) := by (unfold erAsg; rw [if_pos ⟨dt c4, dt c11⟩, if_pos (bl_t c24), if_neg (by have := (nI_eq (b := 20) (by omega) (by decide)).mp (Classical.not_not.mp c38); omega)])); (rw [hE]); exact ⟨rfl, rfl⟩⟩)
      · refine R_bipush (v := (-4)) dX5_assign_27 (by decide) ?_
        exact R_iret dX5_assign_29 rfl (⟨_, rfl, by (have hE : erAsg (mA a 0) (mV a v 0) n m s p = some (-4) := by (unfold erAsg; rw [if_pos ⟨dt c4, dt c11⟩, if_neg (bl_n c24)])); (rw [hE]); exact ⟨rfl, rfl⟩⟩)
    · refine R_bipush (v := (-3)) dX5_assign_14 (by decide) ?_
      exact R_iret dX5_assign_16 rfl (⟨_, rfl, by (have hE : erAsg (mA a 0) (mV a v 0) n m s p = some (-3) := by (unfold erAsg; rw [if_neg (fun q => dfn c11 q.2)])); (rw [hE]); exact ⟨rfl, rfl⟩⟩)
