/-- the row behind a refusal of case i by jo, judge J drawn -/
def rfR (a : AA) (v : VV) (z n i jo J : Nat) (y c t : Int32) : Nat → Int32 := upd (asR (va_up a 0 (upd (kpR (a 0) z) (5 + jo) y)) v 0 n J c t) (57 + i) (nI J)
theorem rf_bar {a : AA} {v : VV} {z n i jo : Nat} {y : Int32} (hn : n ≤ 6) (hi : i < 20) (hjo : jo < 6) (h6 : a 0 (57 + i) = nI jo) (hy : y = a 0 (5 + jo) ||| ((1 : Int32) <<< (a 0 (37 + i) &&& 31))) : agJ 6 (mA (va_up a 0 (upd (kpR (a 0) z) (5 + jo) y)) 0) (mV (va_up a 0 (upd (kpR (a 0) z) (5 + jo) y)) v 0) (brA (mA a 0) i) (mV a v 0) := by
  have ej : (mA a 0 6 i).toNatClampNeg = jo := by
    show (a 0 (0 + 57 + i)).toNatClampNeg = jo
    rw [show 0 + 57 + i = 57 + i by omega, h6, nI_clamp (by omega)]
  refine ⟨fun f j h1 hj => ?_, ?_, rfl⟩
  · rcases (show f = 0 ∨ f = 1 ∨ f = 2 ∨ f = 3 by omega) with rfl | rfl | rfl | rfl
    · rfl
    · rfl
    · show upd (kpR (a 0) z) (5 + jo) y (0 + 5 + j) = upd (mA a 0 2) (mA a 0 6 i).toNatClampNeg _ j
      rw [ej]
      by_cases e : j = jo
      · subst e
        rw [pk_us, pk_us, hy]
        show _ = a 0 (0 + 5 + j) ||| ((1 : Int32) <<< (a 0 (0 + 37 + i) &&& 31))
        rw [show 0 + 5 + j = 5 + j by omega, show 0 + 37 + i = 37 + i by omega]
      · rw [pk_un e, pk_un (by omega), kpR_lo (by omega)]; rfl
    · show upd (kpR (a 0) z) (5 + jo) y (0 + 11 + j) = a 0 (0 + 11 + j)
      rw [pk_un (by omega), kpR_lo (by omega)]
  · show upd (kpR (a 0) z) (5 + jo) y 4 = a 0 4
    rw [pk_un (by omega), kpR_lo (by omega)]
theorem agJ.le {n n' : Nat} {a a' : AA} {v v' : VV} (h : agJ n a v a' v') (hn : n' ≤ n) : agJ n' a v a' v' := ⟨fun f j h1 h2 => h.1 f j h1 (by omega), h.2⟩
theorem rf_hi {a : AA} {v : VV} {z n i jo J : Nat} {y c t : Int32} (hn : n ≤ 6) (hi : i < 20) (hjo : jo < 6) {j : Nat} (hj : 77 ≤ j) : rfR a v z n i jo J y c t j = kpR (a 0) z j := by
  unfold rfR
  rw [pk_un (by omega), asR_o (by omega) (by omega) (by omega)]
  show upd (kpR (a 0) z) (5 + jo) y j = _
  rw [pk_un (by omega)]
theorem rf_lo {a : AA} {v : VV} {z n i jo J : Nat} {y c t : Int32} {j : Nat} (hj : j < 77) (h57 : j ≠ 57 + i) (h1 : j ≠ 1) (h2 : j ≠ 2) (h11 : j < 11 ∨ 11 + n ≤ j) (h5 : j ≠ 5 + jo) : rfR a v z n i jo J y c t j = a 0 j := by
  unfold rfR
  rw [pk_un h57, asR_o (by omega) (by omega) (by omega)]
  show upd (kpR (a 0) z) (5 + jo) y j = _
  rw [pk_un h5, kpR_lo hj]
theorem rf_view {a : AA} {v : VV} {z n i jo J K : Nat} {y : Int32} (hn : n ≤ 6) (hi : i < 20) (hjo : jo < 6) (h6 : a 0 (57 + i) = nI jo) (hy : y = a 0 (5 + jo) ||| ((1 : Int32) <<< (a 0 (37 + i) &&& 31))) : agS 6 20 (mA (va_up a 0 (rfR a v z n i jo J y (itT K (a 0 1)) (a 0 2 + nI K))) 0) (mV (va_up a 0 (rfR a v z n i jo J y (itT K (a 0 1)) (a 0 2 + nI K))) v 0) (agnA (brA (mA a 0) i) (mV a v 0) n J i) (vct (mV a v 0) (itT K (a 0 1)) (a 0 2 + nI K)) := by
  have hag := rf_bar (v := v) (z := z) hn hi hjo h6 hy
  refine ⟨fun f j h1 hj => ?_, fun f j h1 h2 hj => ?_, fun l h1 h2 => ?_⟩
  · rcases (show f = 0 ∨ f = 1 ∨ f = 2 ∨ f = 3 by omega) with rfl | rfl | rfl | rfl
    · rfl
    · rfl
    · have e := hag.1 2 j (by omega) hj
      show rfR a v z n i jo J y (itT K (a 0 1)) (a 0 2 + nI K) (0 + 5 + j) = brA (mA a 0) i 2 j
      rw [← e]
      unfold rfR
      rw [pk_un (by omega), asR_o (by omega) (by omega) (by omega)]
      rfl
    · show rfR a v z n i jo J y (itT K (a 0 1)) (a 0 2 + nI K) (0 + 11 + j) = mixA (nwD (brA (mA a 0) i) (mV a v 0) (nI J) n) (brA (mA a 0) i 3) n j
      unfold rfR
      rw [pk_un (by omega), asR_d]
      unfold mixA
      by_cases q : j < n
      · rw [if_pos q, if_pos q]
        exact (hag.le hn).nn q (nI J)
      · rw [if_neg q, if_neg q]
        show upd (kpR (a 0) z) (5 + jo) y (0 + 11 + j) = a 0 (0 + 11 + j)
        rw [pk_un (by omega), kpR_lo (by omega)]
  · rcases (show f = 4 ∨ f = 5 ∨ f = 6 by omega) with rfl | rfl | rfl
    · exact rf_lo (by omega) (by omega) (by omega) (by omega) (by omega) (by omega)
    · exact rf_lo (by omega) (by omega) (by omega) (by omega) (by omega) (by omega)
    · show rfR a v z n i jo J y (itT K (a 0 1)) (a 0 2 + nI K) (0 + 57 + j) = upd (mA a 0 6) i (nI J) j
      by_cases e : j = i
      · subst e
        rw [pk_us]
        unfold rfR
        rw [show 0 + 57 + j = 57 + j by omega, pk_us]
      · rw [pk_un e]
        exact rf_lo (by omega) (by omega) (by omega) (by omega) (by omega) (by omega)
  · rcases (show l = 8 ∨ l = 9 ∨ l = 10 ∨ l = 11 ∨ l = 12 ∨ l = 13 ∨ l = 14 by omega) with rfl | rfl | rfl | rfl | rfl | rfl | rfl
    · rfl
    · exact rf_lo (j := 4) (by omega) (by omega) (by omega) (by omega) (by omega) (by omega)
    · rfl
    · exact rf_lo (j := 0) (by omega) (by omega) (by omega) (by omega) (by omega) (by omega)
    · show rfR a v z n i jo J y (itT K (a 0 1)) (a 0 2 + nI K) (0 + 1) = itT K (a 0 1)
      unfold rfR
      rw [pk_un (by omega), asR_1]
    · show rfR a v z n i jo J y (itT K (a 0 1)) (a 0 2 + nI K) (0 + 2) = a 0 2 + nI K
      unfold rfR
      rw [pk_un (by omega), asR_2]
    · exact rf_lo (j := 3) (by omega) (by omega) (by omega) (by omega) (by omega) (by omega)

set_option maxRecDepth 4000 in
theorem m_refuse (G : GG) (hh : HH) {k : Nat} {a : AA} {v : VV} (h : MdAt G hh k a v) {n : Nat} (hn : n ≤ 6) (hv : v 1 = nI n) (hr : ruleOK (v 2)) {m : Nat} (hm : m ≤ 20) (hc : a 0 3 = nI m) {z : Nat} (hz8 : z ≤ 8) (hz : v 5 = nI z) (t : Int32) (hJ : ∀ i, i < m → ∃ jo, jo < 6 ∧ a 0 (57 + i) = nI jo) (hX : ∀ i, i < m → erRef (mA a 0) (mV a v 0) n m (nI i) = none → HX (brA (mA a 0) i) (mV a v 0) (mA a 0 4 i) (mA a 0 5 i) n) : EVi G mX5_refuse [.ref (ad G k), .int t] hh (fun w h1 => match erRef (mA a 0) (mV a v 0) n m t with | some e => w = e ∧ h1 = hh | none => w = nI (jR (mA a 0) (mV a v 0) n t.toNatClampNeg) ∧ ∃ R, MdAt G h1 k (va_up a 0 R) (va_up v 5 (nI (hiZ z))) ∧ (∀ j, 77 ≤ j → R j = kpR (a 0) z j) ∧ agS 6 20 (mA (va_up a 0 R) 0) (mV (va_up a 0 R) v 0) (agnA (brA (mA a 0) t.toNatClampNeg) (mV a v 0) n (jR (mA a 0) (mV a v 0) n t.toNatClampNeg) t.toNatClampNeg) (vct (mV a v 0) (itT (Kf (brA (mA a 0) t.toNatClampNeg) (mV a v 0) (mA a 0 4 t.toNatClampNeg) (mA a 0 5 t.toNatClampNeg) n) (a 0 1)) (a 0 2 + nI (Kf (brA (mA a 0) t.toNatClampNeg) (mV a v 0) (mA a 0 4 t.toNatClampNeg) (mA a 0 5 t.toNatClampNeg) n))) ∧ Fr k (k + 11) hh h1) := by
  refine EV.of [(0, .ref (ad G k)), (1, .int t)] (by decide +kernel) (Nat.le_of_ble_eq_true rfl) rfl ?_
  have hF : Fr k (k + 11) hh hh := Fr.rf
  refine R_aload_n dX5_refuse_0 rfl ?_
  refine R_iload_n dX5_refuse_1 rfl ?_
  refine R_callVp dX5_refuse_2 cv_X5_142 ⟨by decide, by decide⟩ (d_isCase G hh h hm hc t) h.1 rfl rfl rfl (Nat.le_of_ble_eq_true rfl) ?_
  refine R_if_ne (tgt := 11) dX5_refuse_5 (by decide) (fun c5 => ?_) (fun c5 => ?_)
  · have hj : 0 ≤ t ∧ t < nI m := dt c5
    obtain ⟨i, hi, rfl⟩ := ix_in (n := m) (by omega) (Int32.not_lt.mpr hj.1) hj.2
    have ec : (nI i).toNatClampNeg = i := nI_clamp (by omega)
    obtain ⟨jo, hjo, h6⟩ := hJ i hi
    refine R_aload_n dX5_refuse_11 rfl ?_
    refine R_get dX5_refuse_12 gf_X5_7 h.1 rfl ?_
    refine R_bipush (v := 57) dX5_refuse_15 (by decide) ?_
    refine R_iload_n dX5_refuse_17 rfl ?_
    refine R_iadd dX5_refuse_18 ?_
    refine RR.top (y := nI (57 + i)) (nI_add (57) (i)) ?_
    refine R_ialdN dX5_refuse_19 h.a0 (by first | omega | decide) (by decide) ?_
    refine RR.top (y := nI (jo)) (h6) ?_
    refine R_istore_n dX5_refuse_20 (by decide) ?_
    refine R_aload_n dX5_refuse_21 rfl ?_
    refine R_get dX5_refuse_22 gf_X5_7 h.1 rfl ?_
    refine R_bipush (v := 37) dX5_refuse_25 (by decide) ?_
    refine R_iload_n dX5_refuse_27 rfl ?_
    refine R_iadd dX5_refuse_28 ?_
    refine RR.top (y := nI (37 + i)) (nI_add (37) (i)) ?_
    refine R_ialdN dX5_refuse_29 h.a0 (by first | omega | decide) (by decide) ?_
    refine R_istore_n dX5_refuse_30 (by decide) ?_
    refine R_aload_n dX5_refuse_31 rfl ?_
    refine R_iconst (v := 0) dX5_refuse_32 (by decide) ?_
    refine R_iload_n dX5_refuse_33 rfl ?_
    refine R_iload_n dX5_refuse_34 rfl ?_
    have eA : anyFor (mA a 0) (mV a v 0) (a 0 (37 + i)) (nI jo) 0 n = anyFor (mA a 0) (mV a v 0) (mA a 0 5 i) (mA a 0 6 i) 0 n := by
      rw [show mA a 0 6 i = nI jo from (by (show a 0 (0 + 57 + i) = nI jo); rw [show 0 + 57 + i = 57 + i by omega]; exact h6)]
      rw [show mA a 0 5 i = a 0 (37 + i) from (by (show a 0 (0 + 37 + i) = _); rw [show 0 + 37 + i = 37 + i by omega])]
    refine R_callVp (w := bl (anyFor (mA a 0) (mV a v 0) (mA a 0 5 i) (mA a 0 6 i) 0 n)) dX5_refuse_35 cv_X5_179 ⟨by decide, by decide⟩ ((eA ▸ m_isAnyone G hh h hn hv (B := 0) (by omega) (a 0 (37 + i)) (nI jo))) h.1 rfl rfl rfl (Nat.le_of_ble_eq_true rfl) ?_
    refine R_if_ne (tgt := 44) dX5_refuse_38 (by decide) (fun c38 => ?_) (fun c38 => ?_)
    · have hE : erRef (mA a 0) (mV a v 0) n m (nI i) = none := by (unfold erRef; rw [ec, if_pos hj, if_pos (bl_t c38)])
      have hX1 := hX i hi hE
      have hn0 := hX1.n0
      have hKf := (hX1.K).1
      refine R_aload_n dX5_refuse_44 rfl ?_
      refine R_callVv dX5_refuse_45 cv_X5_182 ⟨by decide, by decide⟩ (m_keepPast G hh h hz8 hz) h.1 rfl rfl rfl (Nat.le_of_ble_eq_true rfl) (fun hh hw => ?_)
      obtain ⟨h, hF1⟩ := hw
      have hF := hF.tr hF1 (by omega) (by omega)
      refine R_aload_n dX5_refuse_48 rfl ?_
      refine R_get dX5_refuse_49 gf_X5_7 h.1 rfl ?_
      refine R_iconst (v := 5) dX5_refuse_52 (by decide) ?_
      refine R_iload_n dX5_refuse_53 rfl ?_
      refine R_iadd dX5_refuse_54 ?_
      refine RR.top (y := nI (5 + jo)) (nI_add (5) (jo)) ?_
      refine R_dup2 dX5_refuse_55 rfl rfl ?_
      refine R_ialdN dX5_refuse_56 h.a0 (by first | omega | decide) (by decide) ?_
      refine RR.top (y := a 0 (5 + jo)) (kpR_lo (by omega)) ?_
      refine R_iconst (v := 1) dX5_refuse_57 (by decide) ?_
      refine R_iload_n dX5_refuse_58 rfl ?_
      refine R_ishl dX5_refuse_59 ?_
      refine R_ior dX5_refuse_60 ?_
      refine Md_ast0N dX5_refuse_61 h (by first | omega | decide) (fun hh h hF1 => ?_)
      have hF := hF.tr hF1 (by omega) (by omega)
      refine R_aload_n dX5_refuse_62 rfl ?_
      refine R_get dX5_refuse_63 gf_X5_7 h.1 rfl ?_
      refine R_bipush (v := 57) dX5_refuse_66 (by decide) ?_
      refine R_iload_n dX5_refuse_68 rfl ?_
      refine R_iadd dX5_refuse_69 ?_
      refine RR.top (y := nI (57 + i)) (nI_add (57) (i)) ?_
      refine R_aload_n dX5_refuse_70 rfl ?_
      refine R_iconst (v := 0) dX5_refuse_71 (by decide) ?_
      refine R_aload_n dX5_refuse_72 rfl ?_
      refine R_get dX5_refuse_73 gf_X5_7 h.1 rfl ?_
      refine R_bipush (v := 17) dX5_refuse_76 (by decide) ?_
      refine R_iload_n dX5_refuse_78 rfl ?_
      refine R_iadd dX5_refuse_79 ?_
      refine RR.top (y := nI (17 + i)) (nI_add (17) (i)) ?_
      refine R_ialdN dX5_refuse_80 h.a0 (by first | omega | decide) (by decide) ?_
      refine RR.top (y := (a 0 (17 + i))) (by (show upd (kpR (a 0) z) (5 + jo) _ (17 + i) = _); rw [pk_un (by omega), kpR_lo (by omega)]) ?_
      refine R_iload_n dX5_refuse_81 rfl ?_
      have h := h.cg (a' := (va_up a 0 (upd (kpR (a 0) z) (5 + jo) (a 0 (5 + jo) ||| ((1 : Int32) <<< (a 0 (37 + i) &&& 31)))))) (by rw [bx_uu]; rfl) rfl
      have hag := (rf_bar (v := v) (z := z) hn (show i < 20 by omega) hjo h6 rfl).le hn
      have hch : (va_up a 0 (upd (kpR (a 0) z) (5 + jo) (a 0 (5 + jo) ||| ((1 : Int32) <<< (a 0 (37 + i) &&& 31))))) 0 (0 + 1) = a 0 1 := by
        show upd (kpR (a 0) z) (5 + jo) _ 1 = a 0 1
        rw [pk_un (by omega), kpR_lo (by omega)]
      have htn : (va_up a 0 (upd (kpR (a 0) z) (5 + jo) (a 0 (5 + jo) ||| ((1 : Int32) <<< (a 0 (37 + i) &&& 31))))) 0 (0 + 2) = a 0 2 := by
        show upd (kpR (a 0) z) (5 + jo) _ 2 = a 0 2
        rw [pk_un (by omega), kpR_lo (by omega)]
      have eS : mA a 0 4 i = (a 0 (17 + i)) := by (show a 0 (0 + 17 + i) = _); rw [show 0 + 17 + i = 17 + i by omega]
      have eP : mA a 0 5 i = (a 0 (37 + i)) := by (show a 0 (0 + 37 + i) = _); rw [show 0 + 37 + i = 37 + i by omega]
      refine R_callVi dX5_refuse_82 cv_X5_185 ⟨by decide, by decide⟩ (m_assigned G hh h (B := 0) (by omega) hr hn hv hn0 (a 0 (17 + i)) (a 0 (37 + i)) (by (rw [show totW (mA (va_up a 0 (upd (kpR (a 0) z) (5 + jo) (a 0 (5 + jo) ||| ((1 : Int32) <<< (a 0 (37 + i) &&& 31))))) 0) (mV (va_up a 0 (upd (kpR (a 0) z) (5 + jo) (a 0 (5 + jo) ||| ((1 : Int32) <<< (a 0 (37 + i) &&& 31))))) (va_up v 5 (nI (hiZ z))) 0) (a 0 (17 + i)) n = totW (brA (mA a 0) i) (mV a v 0) (a 0 (17 + i)) n from hag.tot (a 0 (17 + i)), ← eS]); exact hX1.1) (K := (Kf (brA (mA a 0) i) (mV a v 0) (mA a 0 4 i) (mA a 0 5 i) n)) (by (rw [hch]); (show firstK (mA (va_up a 0 (upd (kpR (a 0) z) (5 + jo) (a 0 (5 + jo) ||| ((1 : Int32) <<< (a 0 (37 + i) &&& 31))))) 0) (mV (va_up a 0 (upd (kpR (a 0) z) (5 + jo) (a 0 (5 + jo) ||| ((1 : Int32) <<< (a 0 (37 + i) &&& 31))))) v 0) (a 0 (17 + i)) (a 0 (37 + i)) n (a 0 1) (Kf (brA (mA a 0) i) (mV a v 0) (mA a 0 4 i) (mA a 0 5 i) n)); rw [hag.first hn0, ← eS, ← eP]; exact hKf)) h.1 rfl rfl rfl (Nat.le_of_ble_eq_true rfl) (fun w1 hh hw => ?_)
      obtain ⟨rfl, h, hF1⟩ := hw
      have hF := hF.tr hF1 (by omega) (by omega)
      have eJ : judOf (mA (va_up a 0 (upd (kpR (a 0) z) (5 + jo) (a 0 (5 + jo) ||| ((1 : Int32) <<< (a 0 (37 + i) &&& 31))))) 0) (mV (va_up a 0 (upd (kpR (a 0) z) (5 + jo) (a 0 (5 + jo) ||| ((1 : Int32) <<< (a 0 (37 + i) &&& 31))))) (va_up v 5 (nI (hiZ z))) 0) (a 0 (17 + i)) n (itT (Kf (brA (mA a 0) i) (mV a v 0) (mA a 0 4 i) (mA a 0 5 i) n) ((va_up a 0 (upd (kpR (a 0) z) (5 + jo) (a 0 (5 + jo) ||| ((1 : Int32) <<< (a 0 (37 + i) &&& 31))))) 0 (0 + 1))) = (jR (mA a 0) (mV a v 0) n i) := by
        rw [hch]
        have e := hag.jud (a 0 (17 + i)) (itT (Kf (brA (mA a 0) i) (mV a v 0) (mA a 0 4 i) (mA a 0 5 i) n) (a 0 1))
        unfold jR jF
        rw [eS] at *
        exact e
      rw [eJ, hch, htn] at h
      rw [eJ]
      refine Md_ast0N dX5_refuse_85 h (by first | omega | decide) (fun hh h hF1 => ?_)
      have hF := hF.tr hF1 (by omega) (by omega)
      have h := h.cg (a' := va_up a 0 (rfR a v z n i jo (jR (mA a 0) (mV a v 0) n i) (a 0 (5 + jo) ||| ((1 : Int32) <<< (a 0 (37 + i) &&& 31))) (itT (Kf (brA (mA a 0) i) (mV a v 0) (mA a 0 4 i) (mA a 0 5 i) n) (a 0 1)) (a 0 2 + nI (Kf (brA (mA a 0) i) (mV a v 0) (mA a 0 4 i) (mA a 0 5 i) n)))) (by rw [bx_uu, bx_uu]; rfl) rfl
      refine R_aload_n dX5_refuse_86 rfl ?_
      refine R_get dX5_refuse_87 gf_X5_7 h.1 rfl ?_
      refine R_bipush (v := 57) dX5_refuse_90 (by decide) ?_
      refine R_iload_n dX5_refuse_92 rfl ?_
      refine R_iadd dX5_refuse_93 ?_
      refine RR.top (y := nI (57 + i)) (nI_add (57) (i)) ?_
      refine R_ialdN dX5_refuse_94 h.a0 (by first | omega | decide) (by decide) ?_
      exact R_iret dX5_refuse_95 rfl (⟨_, rfl, by (rw [hE, ec]); exact ⟨pk_us, rfR a v z n i jo (jR (mA a 0) (mV a v 0) n i) (a 0 (5 + jo) ||| ((1 : Int32) <<< (a 0 (37 + i) &&& 31))) (itT (Kf (brA (mA a 0) i) (mV a v 0) (mA a 0 4 i) (mA a 0 5 i) n) (a 0 1)) (a 0 2 + nI (Kf (brA (mA a 0) i) (mV a v 0) (mA a 0 4 i) (mA a 0 5 i) n)), h, fun j hj => rf_hi hn (by omega) hjo hj, rf_view hn (by omega) hjo h6 rfl, hF⟩⟩)
    · refine R_bipush (v := (-4)) dX5_refuse_41 (by decide) ?_
      exact R_iret dX5_refuse_43 rfl (⟨_, rfl, by (have hE : erRef (mA a 0) (mV a v 0) n m (nI i) = some (-4) := by (unfold erRef; rw [ec, if_pos hj, if_neg (bl_n c38)])); (rw [hE]); exact ⟨rfl, rfl⟩⟩)
  · refine R_bipush (v := (-2)) dX5_refuse_8 (by decide) ?_
    exact R_iret dX5_refuse_10 rfl (⟨_, rfl, by (have hE : erRef (mA a 0) (mV a v 0) n m t = some (-2) := by (unfold erRef; rw [if_neg (dfn c5)])); (rw [hE]); exact ⟨rfl, rfl⟩⟩)
theorem s01 {q : Int32} (h : ¬ q < 0 ∧ q ≤ 1) : (if q = 1 then (1 : Int32) else 0) = q := by
  have e := q01 h
  by_cases e0 : q = 0
  · rw [e0]; rfl
  · rw [if_neg e0] at e; rw [if_pos (show q = 1 from e.symm)]; exact e
theorem aw_e {x j q : Int32} (h : ¬ q < 0 ∧ q ≤ 1) (c : x >>> (j &&& 31) &&& 1 = q) : bl (hasB x j) = (if q = 1 then 1 else 0) := by rw [s01 h, ← and1]; exact c
theorem aw_n {x j q : Int32} (h : ¬ q < 0 ∧ q ≤ 1) (c : ¬ x >>> (j &&& 31) &&& 1 = q) : ¬ bl (hasB x j) = (if q = 1 then 1 else 0) := by rw [s01 h, ← and1]; exact c
set_option maxRecDepth 4000 in
theorem m_away (G : GG) (hh : HH) {k : Nat} {a : AA} {v : VV} (h : MdAt G hh k a v) {n : Nat} (hn : n ≤ 6) (hv : v 1 = nI n) {z : Nat} (hz8 : z ≤ 8) (hz : v 5 = nI z) (j s : Int32) : EVi G mX5_away [.ref (ad G k), .int j, .int s] hh (fun w h1 => match erAway (mV a v 0) n j s with | some e => w = e ∧ h1 = hh | none => w = 1 ∧ MdAt G h1 k (va_up a 0 (upd (kpR (a 0) z) 4 (a 0 4 ^^^ ((1 : Int32) <<< (j &&& 31))))) (va_up v 5 (nI (hiZ z))) ∧ Fr k (k + 11) hh h1) := by
  refine EV.of [(0, .ref (ad G k)), (1, .int j), (2, .int s)] (by decide +kernel) (Nat.le_of_ble_eq_true rfl) rfl ?_
  have hF : Fr k (k + 11) hh hh := Fr.rf
  refine R_aload_n dX5_away_0 rfl ?_
  refine R_iload_n dX5_away_1 rfl ?_
  refine R_callVp dX5_away_2 cv_X5_139 ⟨by decide, by decide⟩ (d_isJudge G hh h hn hv j) h.1 rfl rfl rfl (Nat.le_of_ble_eq_true rfl) ?_
  refine R_if_ne (tgt := 11) dX5_away_5 (by decide) (fun c5 => ?_) (fun c5 => ?_)
  · have hj : 0 ≤ j ∧ j < nI n := dt c5
    obtain ⟨i, hi, rfl⟩ := ix_in (n := n) (by omega) (Int32.not_lt.mpr hj.1) hj.2
    have ec : (nI i).toNatClampNeg = i := nI_clamp (by omega)
    refine R_iload_n dX5_away_11 rfl ?_
    refine R_i2l dX5_away_12 ?_
    refine R_lconst (v := 0) dX5_away_13 (by decide) ?_
    refine R_lconst (v := 1) dX5_away_14 (by decide) ?_
    refine R_callSp dX5_away_15 cs_X5_57 ⟨by decide, by decide⟩ (d_in01 G hh s) rfl rfl (Nat.le_of_ble_eq_true rfl) ?_
    refine R_if_ne (tgt := 24) dX5_away_18 (by decide) (fun c18 => ?_) (fun c18 => ?_)
    · refine R_aload_n dX5_away_24 rfl ?_
      refine R_get dX5_away_25 gf_X5_7 h.1 rfl ?_
      refine R_iconst (v := 4) dX5_away_28 (by decide) ?_
      refine R_ialdN dX5_away_29 h.a0 (by first | omega | decide) (by decide) ?_
      refine R_iload_n dX5_away_30 rfl ?_
      refine R_ishr dX5_away_31 ?_
      refine R_iconst (v := 1) dX5_away_32 (by decide) ?_
      refine R_iand dX5_away_33 ?_
      refine R_iload_n dX5_away_34 rfl ?_
      refine R_icmp_ne (tgt := 41) dX5_away_35 (by decide) (fun c35 => ?_) (fun c35 => ?_)
      · refine R_aload_n dX5_away_41 rfl ?_
        refine R_callVv dX5_away_42 cv_X5_182 ⟨by decide, by decide⟩ (m_keepPast G hh h hz8 hz) h.1 rfl rfl rfl (Nat.le_of_ble_eq_true rfl) (fun hh hw => ?_)
        obtain ⟨h, hF1⟩ := hw
        have hF := hF.tr hF1 (by omega) (by omega)
        refine R_aload_n dX5_away_45 rfl ?_
        refine R_get dX5_away_46 gf_X5_7 h.1 rfl ?_
        refine R_iconst (v := 4) dX5_away_49 (by decide) ?_
        refine R_dup2 dX5_away_50 rfl rfl ?_
        refine R_ialdN dX5_away_51 h.a0 (by first | omega | decide) (by decide) ?_
        refine R_iconst (v := 1) dX5_away_52 (by decide) ?_
        refine R_iload_n dX5_away_53 rfl ?_
        refine R_ishl dX5_away_54 ?_
        refine R_ixor dX5_away_55 ?_
        refine Md_ast0N dX5_away_56 h (by first | omega | decide) (fun hh h hF1 => ?_)
        have hF := hF.tr hF1 (by omega) (by omega)
        refine R_iconst (v := 1) dX5_away_57 (by decide) ?_
        exact R_iret dX5_away_58 rfl (⟨_, rfl, by (have hE : erAway (mV a v 0) n (nI i) s = none := by (unfold erAway; rw [if_pos hj, if_pos (dt c18), if_neg (aw_n (x := mV a v 0 9) (dt c18) c35)])); (rw [hE]); exact ⟨rfl, h.cg (by rw [bx_uu, show va_up a 0 (kpR (a 0) z) 0 4 = a 0 4 from kpR_lo (by decide)]; rfl) rfl, hF⟩⟩)
      · refine R_bipush (v := (-4)) dX5_away_38 (by decide) ?_
        exact R_iret dX5_away_40 rfl (⟨_, rfl, by (have hE : erAway (mV a v 0) n (nI i) s = some (-4) := by (unfold erAway; rw [if_pos hj, if_pos (dt c18), if_pos (aw_e (x := mV a v 0 9) (dt c18) (Classical.not_not.mp c35))])); (rw [hE]); exact ⟨rfl, rfl⟩⟩)
    · refine R_bipush (v := (-3)) dX5_away_21 (by decide) ?_
      exact R_iret dX5_away_23 rfl (⟨_, rfl, by (have hE : erAway (mV a v 0) n (nI i) s = some (-3) := by (unfold erAway; rw [if_pos hj, if_neg (dfn c18)])); (rw [hE]); exact ⟨rfl, rfl⟩⟩)
  · refine R_bipush (v := (-2)) dX5_away_8 (by decide) ?_
    exact R_iret dX5_away_10 rfl (⟨_, rfl, by (have hE : erAway (mV a v 0) n j s = some (-2) := by (unfold erAway; rw [if_neg (dfn c5)])); (rw [hE]); exact ⟨rfl, rfl⟩⟩)
set_option maxRecDepth 4000 in
theorem m_undo (G : GG) (hh : HH) {k : Nat} {a : AA} {v : VV} (h : MdAt G hh k a v) {z : Nat} (hz8 : z ≤ 8) (hz : v 5 = nI z) : EVi G mX5_undo [.ref (ad G k)] hh (fun w h1 => match erUndo z with | some e => w = e ∧ h1 = hh | none => w = nI (z - 1) ∧ MdAt G h1 k (va_up a 0 (cpR (a 0) (77 + 77 * (z - 1)) 0 77)) (va_up v 5 (nI (z - 1))) ∧ Fr k (k + 11) hh h1) := by
  refine EV.of [(0, .ref (ad G k))] (by decide +kernel) (Nat.le_of_ble_eq_true rfl) rfl ?_
  have hF : Fr k (k + 11) hh hh := Fr.rf
  refine R_aload_n dX5_undo_0 rfl ?_
  refine R_get dX5_undo_1 gf_X5_136 h.1 rfl ?_
  refine R_if_ne (tgt := 10) dX5_undo_4 (by decide) (fun c4 => ?_) (fun c4 => ?_)
  · have hz1 : 1 ≤ z := by
      rcases Nat.eq_zero_or_pos z with e | e
      · subst e; exact absurd hz c4
      · exact e
    refine R_aload_n dX5_undo_10 rfl ?_
    refine R_dup dX5_undo_11 rfl ?_
    refine R_get dX5_undo_12 gf_X5_136 h.1 rfl ?_
    refine R_iconst (v := 1) dX5_undo_15 (by decide) ?_
    refine R_isub dX5_undo_16 ?_
    refine RR.top (y := nI (z - 1)) (by rw [hz]; exact pk_sub (b := 1) hz1) ?_
    refine Md_put5 dX5_undo_17 pf_X5_136 h (fun hh h hF1 => ?_)
    have hF := hF.tr hF1 (by omega) (by omega)
    refine R_aload_n dX5_undo_20 rfl ?_
    refine R_bipush (v := 77) dX5_undo_21 (by decide) ?_
    refine R_bipush (v := 77) dX5_undo_23 (by decide) ?_
    refine R_aload_n dX5_undo_25 rfl ?_
    refine R_get dX5_undo_26 gf_X5_136 h.1 rfl ?_
    refine R_imul dX5_undo_29 ?_
    refine R_iadd dX5_undo_30 ?_
    refine RR.top (y := nI (77 + 77 * (z - 1))) (by show 77 + 77 * nI (z - 1) = _; rw [show (77 : Int32) = nI 77 from rfl, pk_mul, nI_add]) ?_
    refine R_iconst (v := 0) dX5_undo_31 (by decide) ?_
    refine R_callVv dX5_undo_32 cv_X5_44 ⟨by decide, by decide⟩ (m_copyRow G hh h (77 + 77 * (z - 1)) 0 (by omega) (by omega) (by omega)) h.1 rfl rfl rfl (Nat.le_of_ble_eq_true rfl) (fun hh hw => ?_)
    obtain ⟨h, hF1⟩ := hw
    have hF := hF.tr hF1 (by omega) (by omega)
    refine R_aload_n dX5_undo_35 rfl ?_
    refine R_get dX5_undo_36 gf_X5_136 h.1 rfl ?_
    exact R_iret dX5_undo_39 rfl (⟨_, rfl, by (have hE : erUndo z = none := by (unfold erUndo; rw [if_pos hz1])); (rw [hE]); exact ⟨rfl, h, hF⟩⟩)
  · refine R_bipush (v := (-4)) dX5_undo_7 (by decide) ?_
    exact R_iret dX5_undo_9 rfl (⟨_, rfl, by (have hE : erUndo z = some (-4) := by (unfold erUndo; rw [if_neg (by rw [hz] at c4; have := (nI_eq (b := 0) (by omega) (by decide)).mp (Classical.not_not.mp c4); omega)])); (rw [hE]); exact ⟨rfl, rfl⟩⟩)
theorem k1_lt {q : Int32} (h : q ≤ 1) : q < nI 2 := Int32.lt_of_le_of_lt h (by decide)
theorem k1_le {q : Int32} (h : q < 2) : q ≤ 1 := by
  rw [Int32.lt_iff_toInt_lt] at h
  rw [Int32.le_iff_toInt_le]
  have e2 : (2 : Int32).toInt = 2 := rfl
  have e1 : (1 : Int32).toInt = 1 := rfl
  omega
set_option maxRecDepth 4000 in
theorem m_keep (G : GG) (hh : HH) {k : Nat} {a : AA} {v : VV} (h : MdAt G hh k a v) (t : Int32) : EVi G mX5_keep [.ref (ad G k), .int t] hh (fun w h1 => match erKeep t with | some e => w = e ∧ h1 = hh | none => w = a 0 3 ∧ MdAt G h1 k (va_up (va_up a 0 (cpR (a 0) 0 (693 + 77 * t.toNatClampNeg) 77)) 6 (upd (a 6) t.toNatClampNeg 1)) v ∧ Fr k (k + 11) hh h1) := by
  refine EV.of [(0, .ref (ad G k)), (1, .int t)] (by decide +kernel) (Nat.le_of_ble_eq_true rfl) rfl ?_
  have hF : Fr k (k + 11) hh hh := Fr.rf
  refine R_iload_n dX5_keep_0 rfl ?_
  refine R_i2l dX5_keep_1 ?_
  refine R_lconst (v := 0) dX5_keep_2 (by decide) ?_
  refine R_lconst (v := 1) dX5_keep_3 (by decide) ?_
  refine R_callSp dX5_keep_4 cs_X5_57 ⟨by decide, by decide⟩ (d_in01 G hh t) rfl rfl (Nat.le_of_ble_eq_true rfl) ?_
  refine R_if_ne (tgt := 13) dX5_keep_7 (by decide) (fun c7 => ?_) (fun c7 => ?_)
  · have hk2 : ¬ t < 0 ∧ t ≤ 1 := dt c7
    obtain ⟨i, hi, rfl⟩ := ix_in (n := 2) (by omega) hk2.1 (k1_lt hk2.2)
    have ec : (nI i).toNatClampNeg = i := nI_clamp (by omega)
    refine R_aload_n dX5_keep_13 rfl ?_
    refine R_iconst (v := 0) dX5_keep_14 (by decide) ?_
    refine R_sipush (v := 693) dX5_keep_15 (by decide) ?_
    refine R_bipush (v := 77) dX5_keep_18 (by decide) ?_
    refine R_iload_n dX5_keep_20 rfl ?_
    refine R_imul dX5_keep_21 ?_
    refine RR.top (y := nI (77 * i)) (pk_mul (77) (i)) ?_
    refine R_iadd dX5_keep_22 ?_
    refine RR.top (y := nI (693 + (77 * i))) (nI_add (693) (77 * i)) ?_
    refine R_callVv dX5_keep_23 cv_X5_44 ⟨by decide, by decide⟩ (m_copyRow G hh h 0 (693 + 77 * i) (by omega) (by omega) (by omega)) h.1 rfl rfl rfl (Nat.le_of_ble_eq_true rfl) (fun hh hw => ?_)
    obtain ⟨h, hF1⟩ := hw
    have hF := hF.tr hF1 (by omega) (by omega)
    refine R_aload_n dX5_keep_26 rfl ?_
    refine R_get dX5_keep_27 gf_X5_19 h.1 rfl ?_
    refine R_iload_n dX5_keep_30 rfl ?_
    refine R_iconst (v := 1) dX5_keep_31 (by decide) ?_
    refine Md_ast6N dX5_keep_32 h (by first | omega | decide) (fun hh h hF1 => ?_)
    have hF := hF.tr hF1 (by omega) (by omega)
    refine R_aload_n dX5_keep_33 rfl ?_
    refine R_get dX5_keep_34 gf_X5_7 h.1 rfl ?_
    refine R_iconst (v := 3) dX5_keep_37 (by decide) ?_
    refine R_ialdN dX5_keep_38 h.a0 (by first | omega | decide) (by decide) ?_
    exact R_iret dX5_keep_39 rfl (⟨_, rfl, by (have hE : erKeep (nI i) = none := by (unfold erKeep; rw [if_pos ⟨hk2.1, k1_lt hk2.2⟩])); (rw [hE, ec]); exact ⟨(by show cpR (a 0) 0 (693 + 77 * i) 77 3 = a 0 3; unfold cpR; rw [if_neg (by omega)]), h.cg (by rw [show vp_nar .boolean 1 = 1 from rfl]; rfl) rfl, hF⟩⟩)
  · refine R_bipush (v := (-2)) dX5_keep_10 (by decide) ?_
    exact R_iret dX5_keep_12 rfl (⟨_, rfl, by (have hE : erKeep t = some (-2) := by (unfold erKeep; rw [if_neg (fun q => dfn c7 ⟨q.1, k1_le q.2⟩)])); (rw [hE]); exact ⟨rfl, rfl⟩⟩)
set_option maxRecDepth 4000 in
theorem m_back (G : GG) (hh : HH) {k : Nat} {a : AA} {v : VV} (h : MdAt G hh k a v) {kb : Nat → Bool} (hkb : ∀ i, i < 2 → a 6 i = bl (kb i)) (t : Int32) : EVi G mX5_back [.ref (ad G k), .int t] hh (fun w h1 => match erBack kb t with | some e => w = e ∧ h1 = hh | none => w = a 0 (693 + 77 * t.toNatClampNeg + 3) ∧ MdAt G h1 k (va_up a 0 (cpR (a 0) (693 + 77 * t.toNatClampNeg) 0 77)) (va_up v 5 0) ∧ Fr k (k + 11) hh h1) := by
  refine EV.of [(0, .ref (ad G k)), (1, .int t)] (by decide +kernel) (Nat.le_of_ble_eq_true rfl) rfl ?_
  have hF : Fr k (k + 11) hh hh := Fr.rf
  refine R_iload_n dX5_back_0 rfl ?_
  refine R_i2l dX5_back_1 ?_
  refine R_lconst (v := 0) dX5_back_2 (by decide) ?_
  refine R_lconst (v := 1) dX5_back_3 (by decide) ?_
  refine R_callSp dX5_back_4 cs_X5_57 ⟨by decide, by decide⟩ (d_in01 G hh t) rfl rfl (Nat.le_of_ble_eq_true rfl) ?_
  refine R_if_ne (tgt := 13) dX5_back_7 (by decide) (fun c7 => ?_) (fun c7 => ?_)
  · have hk2 : ¬ t < 0 ∧ t ≤ 1 := dt c7
    obtain ⟨i, hi, rfl⟩ := ix_in (n := 2) (by omega) hk2.1 (k1_lt hk2.2)
    have ec : (nI i).toNatClampNeg = i := nI_clamp (by omega)
    refine R_aload_n dX5_back_13 rfl ?_
    refine R_get dX5_back_14 gf_X5_19 h.1 rfl ?_
    refine R_iload_n dX5_back_17 rfl ?_
    refine R_zaldN dX5_back_18 h.a6 (by first | omega | decide) (by decide) ?_
    refine R_if_ne (tgt := 25) dX5_back_19 (by decide) (fun c19 => ?_) (fun c19 => ?_)
    · refine R_aload_n dX5_back_25 rfl ?_
      refine R_sipush (v := 693) dX5_back_26 (by decide) ?_
      refine R_bipush (v := 77) dX5_back_29 (by decide) ?_
      refine R_iload_n dX5_back_31 rfl ?_
      refine R_imul dX5_back_32 ?_
      refine RR.top (y := nI (77 * i)) (pk_mul (77) (i)) ?_
      refine R_iadd dX5_back_33 ?_
      refine RR.top (y := nI (693 + (77 * i))) (nI_add (693) (77 * i)) ?_
      refine R_iconst (v := 0) dX5_back_34 (by decide) ?_
      refine R_callVv dX5_back_35 cv_X5_44 ⟨by decide, by decide⟩ (m_copyRow G hh h (693 + 77 * i) 0 (by omega) (by omega) (by omega)) h.1 rfl rfl rfl (Nat.le_of_ble_eq_true rfl) (fun hh hw => ?_)
      obtain ⟨h, hF1⟩ := hw
      have hF := hF.tr hF1 (by omega) (by omega)
      refine R_aload_n dX5_back_38 rfl ?_
      refine R_iconst (v := 0) dX5_back_39 (by decide) ?_
      refine Md_put5 dX5_back_40 pf_X5_136 h (fun hh h hF1 => ?_)
      have hF := hF.tr hF1 (by omega) (by omega)
      refine R_aload_n dX5_back_43 rfl ?_
      refine R_get dX5_back_44 gf_X5_7 h.1 rfl ?_
      refine R_iconst (v := 3) dX5_back_47 (by decide) ?_
      refine R_ialdN dX5_back_48 h.a0 (by first | omega | decide) (by decide) ?_
      exact R_iret dX5_back_49 rfl (⟨_, rfl, by (have hE : erBack kb (nI i) = none := by (unfold erBack; rw [if_pos ⟨hk2.1, k1_lt hk2.2⟩, ec, if_pos (by rw [hkb i hi] at c19; exact bl_t c19)])); (rw [hE, ec]); exact ⟨(by show cpR (a 0) (693 + 77 * i) 0 77 3 = _; unfold cpR; rw [if_pos (by omega)]), h, hF⟩⟩)
    · refine R_bipush (v := (-4)) dX5_back_22 (by decide) ?_
      exact R_iret dX5_back_24 rfl (⟨_, rfl, by (have hE : erBack kb (nI i) = some (-4) := by (unfold erBack; rw [if_pos ⟨hk2.1, k1_lt hk2.2⟩, ec, if_neg (by rw [hkb i hi] at c19; exact bl_n c19)])); (rw [hE]); exact ⟨rfl, rfl⟩⟩)
  · refine R_bipush (v := (-2)) dX5_back_10 (by decide) ?_
    exact R_iret dX5_back_12 rfl (⟨_, rfl, by (have hE : erBack kb t = some (-2) := by (unfold erBack; rw [if_neg (fun q => dfn c7 ⟨q.1, k1_le q.2⟩)])); (rw [hE]); exact ⟨rfl, rfl⟩⟩)
